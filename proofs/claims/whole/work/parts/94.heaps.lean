/-! THE LAW: the model's heap, the class's heap and the two arrays of answers, side by side -/
def HM (h hm hc : Hp) (ao ad : Nat) : Prop := SB hm h ∧ SB hc h ∧ (∀ a, hm a ≠ none → hc a = none) ∧ (∃ f : Int → Int, h ao = some (eA 6 1 (fun j => vL (f j)))) ∧ (∃ f : Int → UInt64, h ad = some (eA 7 1 (fun j => vD (f j)))) ∧ hm ao = none ∧ hc ao = none ∧ hm ad = none ∧ hc ad = none
section HMs
variable {h hm hc : Hp} {ao ad : Nat}
theorem HM.m (H : HM h hm hc ao ad) : SB hm h := H.1
theorem HM.c (H : HM h hm hc ao ad) : SB hc h := H.2.1
theorem HM.d (H : HM h hm hc ao ad) : ∀ a, hm a ≠ none → hc a = none := H.2.2.1
theorem HM.o (H : HM h hm hc ao ad) : ∃ f : Int → Int, h ao = some (eA 6 1 (fun j => vL (f j))) := H.2.2.2.1
theorem HM.od (H : HM h hm hc ao ad) : ∃ f : Int → UInt64, h ad = some (eA 7 1 (fun j => vD (f j))) := H.2.2.2.2.1
theorem HM.mo (H : HM h hm hc ao ad) : hm ao = none := H.2.2.2.2.2.1
theorem HM.co (H : HM h hm hc ao ad) : hc ao = none := H.2.2.2.2.2.2.1
theorem HM.md (H : HM h hm hc ao ad) : hm ad = none := H.2.2.2.2.2.2.2.1
theorem HM.cd (H : HM h hm hc ao ad) : hc ad = none := H.2.2.2.2.2.2.2.2
end HMs
theorem some_ne {h : Hp} {a : Nat} (H : h a ≠ none) : ∃ e, h a = some e := by
  cases e : h a with
  | none => exact absurd e H
  | some x => exact ⟨x, rfl⟩
theorem HM.stepC {h hm hc hc' : Hp} {ao ad : Nat} (H : HM h hm hc ao ad) (D : ∀ a, hc' a ≠ none → hc a ≠ none ∨ h a = none) : HM (mgH h hc hc') hm hc' ao ad := by
  have out : ∀ a e, hc a = none → h a = some e → mgH h hc hc' a = some e := fun a e h1 h2 => mgH_out h1 h2
  have non : ∀ a e, hc a = none → h a = some e → hc' a = none := fun a e h1 h2 => by
    cases e1 : hc' a with
    | none => rfl
    | some x =>
      rcases D a (by rw [e1]; exact fun w => by cases w) with z | z
      · exact absurd h1 z
      · rw [h2] at z; cases z
  obtain ⟨fo, ho⟩ := H.o
  obtain ⟨fd, hd⟩ := H.od
  refine ⟨fun a e he => ?_, fun a e he => ?_, fun a ha => ?_, ⟨fo, out ao _ H.co ho⟩, ⟨fd, out ad _ H.cd hd⟩, H.mo, non ao _ H.co ho, H.md, non ad _ H.cd hd⟩
  · exact out a e (H.d a (by rw [he]; exact fun w => by cases w)) (H.m a e he)
  · cases e1 : hc a with
    | some x => rw [mgH_in e1]; exact he
    | none =>
      cases e2 : h a with
      | some y => rw [non a y e1 e2] at he; cases he
      | none => rw [mgH_new e1 e2]; exact he
  · obtain ⟨e, he⟩ := some_ne ha
    exact non a e (H.d a ha) (H.m a e he)
theorem HM.swap {h hm hc : Hp} {ao ad : Nat} (H : HM h hm hc ao ad) : HM h hc hm ao ad := ⟨H.c, H.m, fun a ha => by
  cases e : hm a with
  | none => rfl
  | some x => exact absurd (H.d a (by rw [e]; exact fun w => by cases w)) ha, H.o, H.od, H.co, H.mo, H.cd, H.md⟩
theorem HM.stepM {h hm hc hm' : Hp} {ao ad : Nat} (H : HM h hm hc ao ad) (D : ∀ a, hm' a ≠ none → hm a ≠ none ∨ h a = none) : HM (mgH h hm hm') hm' hc ao ad := (H.swap.stepC D).swap
theorem HM.outL {h hm hc : Hp} {ao ad : Nat} (H : HM h hm hc ao ad) (f : Int → Int) : HM (hu h ao (eA 6 1 (fun j => vL (f j)))) hm hc ao ad := by
  obtain ⟨fo, ho⟩ := H.o
  obtain ⟨fd, hd⟩ := H.od
  have ne : ∀ {x : Hp} {a : Nat} {e : AE}, x ao = none → x a = some e → a ≠ ao := fun h1 h2 z => by rw [z, h1] at h2; cases h2
  refine ⟨fun a e he => by rw [hu_n _ _ (ne H.mo he)]; exact H.m a e he, fun a e he => by rw [hu_n _ _ (ne H.co he)]; exact H.c a e he, H.d, ⟨f, hu_s _ _ _⟩, ⟨fd, ?_⟩, H.mo, H.co, H.md, H.cd⟩
  rw [hu_n _ _ (fun z => by rw [z, ho] at hd; cases hd)]
  exact hd
theorem HM.outD {h hm hc : Hp} {ao ad : Nat} (H : HM h hm hc ao ad) (f : Int → UInt64) : HM (hu h ad (eA 7 1 (fun j => vD (f j)))) hm hc ao ad := by
  obtain ⟨fo, ho⟩ := H.o
  obtain ⟨fd, hd⟩ := H.od
  have ne : ∀ {x : Hp} {a : Nat} {e : AE}, x ad = none → x a = some e → a ≠ ad := fun h1 h2 z => by rw [z, h1] at h2; cases h2
  refine ⟨fun a e he => by rw [hu_n _ _ (ne H.md he)]; exact H.m a e he, fun a e he => by rw [hu_n _ _ (ne H.cd he)]; exact H.c a e he, H.d, ⟨fo, ?_⟩, ⟨f, hu_s _ _ _⟩, H.mo, H.co, H.md, H.cd⟩
  rw [hu_n _ _ (fun z => by rw [← z, ho] at hd; cases hd)]
  exact ho
/-- the model's numbers and the class's: all that a turn needs -/
def RT (G : GG) (gm : Nat → Nat) (gc : Int → Nat) (σ ρ : Sg) (hm hc : Hp) : Prop := MI gm σ hm ∧ RG σ ∧ CI G gc ρ hc ∧ MC ρ ∧ CQ σ ρ ∧ EX σ ∧ σ 29 0 = ρ 29 0 ∧ ∀ j, 0 ≤ j → j < ρ 29 0 → σ 28 j = ρ 28 j
theorem RT.mv {G : GG} {gm : Nat → Nat} {gc : Int → Nat} {σ ρ : Sg} {hm hc : Hp} (H : RT G gm gc σ ρ hm hc) : MV σ := MV_of H.2.2.2.1 H.2.2.2.2.1 H.2.2.2.2.2.1
