/-! THE OUTPUT LINE over the class's world -/
def oB (k : Nat) : Bool := k == 28 || k == 29 || k == 37 || k == 38 || k == 40
/-- ρ with b's output -/
def mo (ρ b : Sg) : Sg := fun k => if oB k then b k else ρ k
theorem mo_self (ρ : Sg) : mo ρ ρ = ρ := by
  funext k
  unfold mo
  split <;> rfl
theorem mo_of {ρ b ρ' : Sg} {p f : Int → Int} (h : ∀ k, oB k = false → ρ' k = (sw (sw (mo ρ b) 34 p) 14 f) k) : ρ' = sw (sw (mo ρ ρ') 34 p) 14 f := by
  funext k j
  by_cases z : k = 14
  · subst z
    rw [h 14 rfl]
    rfl
  · by_cases w : k = 34
    · subst w
      rw [h 34 rfl]
      rfl
    · show _ = (if k = 14 then f j else if k = 34 then p j else mo ρ ρ' k j)
      rw [if_neg z, if_neg w]
      unfold mo
      cases e : oB k with
      | true => rfl
      | false =>
        rw [h k e]
        show (if k = 14 then f j else if k = 34 then p j else mo ρ b k j) = _
        rw [if_neg z, if_neg w]
        unfold mo
        rw [e]
        rfl
/-- the output is the text L -/
def OU (ρ : Sg) (L : List Int) : Prop := LT (ρ 28) 0 L ∧ ρ 29 0 = L.length ∧ (ρ 37 0 = 16 ∨ ρ 37 0 = 34) ∧ ρ 29 0 ≤ ρ 37 0 ∧ ∀ j, 0 ≤ j → j < ρ 37 0 → -128 ≤ ρ 28 j ∧ ρ 28 j < 128
abbrev mkO (ρ : Sg) (t : Int → Int) (n N ml a : Int) : Sg := su (su (su (su (sw ρ 28 t) 29 0 n) 37 0 N) 38 0 ml) 40 5 a
theorem CI.out {G : GG} {g : Int → Nat} {ρ : Sg} {h h' : Hp} {t : Int → Int} {n ml : Int} {N v1 : Nat} (H : CI G g ρ h) (h1 : h' (g 13) = some (eO 1 [vR v1, vI 0, vI ml, vI n])) (h2 : h' v1 = some (eA 4 N (fun j => vI (t j)))) (hw : v1 = aA ρ 5 ∨ h v1 = none) (hfr : ∀ x, x ≠ g 13 → x ≠ v1 → h' x = h x) : CI G g (mkO ρ t n (N : Int) ml (v1 : Int)) h' := by
  have p13 : CE g ρ 13 ≠ none := fun w => by cases w
  have p14 : CE g ρ 14 ≠ none := fun w => by cases w
  refine H.upd (fun r => r = 13 ∨ r = 14) (fun r hr => ?_) (fun r x hr hx => ?_) (fun r hr hx => ?_) H.2.2
  · have n1 : r ≠ 13 := fun z => hr (Or.inl z)
    have n2 : r ≠ 14 := fun z => hr (Or.inr z)
    refine ⟨CE_ext (fun _ => ?_) (fun _ _ => rfl) (fun _ _ => rfl) (fun _ _ => rfl) (fun _ _ => rfl) (fun _ _ => rfl) (fun _ _ => rfl) (fun _ => rfl), fun hp => ⟨ad_ext (fun _ => ?_) (fun _ _ => rfl) (fun _ _ => rfl) (fun _ _ => rfl) (fun _ _ => rfl) (fun _ _ => rfl) (fun _ _ => rfl) (fun _ => rfl), hfr _ (fun z => n1 (H.2.1 r 13 hp p13 z)) (fun z => ?_)⟩⟩
    · unfold cFix
      simp only [if_neg n1, if_neg n2]
      rfl
    · unfold adF
      simp only [if_neg n2]
      rfl
    · rcases hw with w | w
      · exact n2 (H.2.1 r 14 hp p14 (z.trans w))
      · exact H.nobody w hp z
  · rcases hr with rfl | rfl
    · cases hx; exact h1
    · cases hx; exact h2
  · rcases hr with rfl | rfl
    · exact Or.inl ⟨p13, rfl⟩
    · rcases hw with w | w
      · exact Or.inl ⟨p14, by show ((v1 : Nat) : Int).toNat = aA ρ 5; rw [← w]; rfl⟩
      · refine Or.inr ⟨fun r' hr' => H.nobody w hr', fun r' hr' hx' e => ?_⟩
        rcases hr' with rfl | rfl
        · exact absurd e (H.nobody w p13)
        · rfl
theorem LT.push {t t1 : Int → Int} {L M : List Int} (h : LT t 0 L) (hk : ∀ j, 0 ≤ j → j < (L.length : Int) → t1 j = t j) (h2 : LT t1 (L.length : Int) M) : LT t1 0 (L ++ M) := fun i hi => by
  rw [List.length_append] at hi
  by_cases q : i < L.length
  · rw [Int.zero_add, hk (i : Int) (by omega) (by omega)]
    have := h i q
    rw [Int.zero_add] at this
    rw [this]
    simp only [List.getD]
    rw [List.getElem?_append_left q]
  · have := h2 (i - L.length) (by omega)
    rw [show (0 : Int) + (i : Int) = (L.length : Int) + ((i - L.length : Nat) : Int) by omega, this]
    simp only [List.getD]
    rw [List.getElem?_append_right (by omega)]
theorem ou_push {G : GG} {g : Int → Nat} {ρ : Sg} {h h' : Hp} {L M : List Int} (H : CI G g ρ h) (hO : OU ρ L) (hS : SBL h (g 13) (aA ρ 5) (ρ 37 0).toNat (ρ 38 0) (ρ 29 0) (ρ 28) M h') : ∃ ρ', (∀ k, oB k = false → ρ' k = ρ k) ∧ OU ρ' (L ++ M) ∧ CI G g ρ' h' := by
  obtain ⟨o1, o2, o3, o4, o5⟩ := hO
  obtain ⟨v1, N1, t1, s1, s2, s3, s4, s5, s6, s7, s8, s9⟩ := hS
  refine ⟨_, fun k hk => ?_, ?_, H.out s1 s2 s7 s8⟩
  · have ne : ∀ q, oB q = true → k ≠ q := fun q hq z => by rw [z, hq] at hk; cases hk
    funext j
    show su (su (su (su (sw ρ 28 t1) 29 0 _) 37 0 _) 38 0 _) 40 5 _ k j = _
    rw [su_n (ne 40 rfl), su_n (ne 38 rfl), su_n (ne 37 rfl), su_n (ne 29 rfl)]
    exact if_neg (ne 28 rfl)
  · refine ⟨LT.push o1 (fun j j0 j1 => s3 j j0 (by omega)) (by rw [← o2]; exact s4), ?_, ?_, ?_, s5⟩
    · show ρ 29 0 + (M.length : Int) = _
      rw [List.length_append, o2]
      omega
    · show (N1 : Int) = 16 ∨ (N1 : Int) = 34
      rcases s9 with w | w <;> omega
    · show ρ 29 0 + (M.length : Int) ≤ (N1 : Int)
      exact s6.1
abbrev apI : MethodName := yJ4_append_bf812
theorem cOutI (l : Launch) (G : GG) (N0 : Nat) (h : Hp) (g : Int → Nat) (ρ : Sg) (L : List Int) (v : Int) (hI : CI G g ρ h) (hO : OU ρ L) (hv : 0 ≤ v ∧ v < 1000000) (hn : (L.length : Int) + szI v ≤ 34) : Ct l G N0 yJ4_append_bf812 (Cond.code yJ4_append_bf812 cJ4_append_bf812 2 (some (FieldType.object "java/lang/StringBuilder")) :: LW) ({ frames := 6, cells := 1, slots := 100, locals := 320 }) [vR (g 13), vI v] h (fun r h' => r = some (vR (g 13)) ∧ ∃ ρ', (∀ k, oB k = false → ρ' k = ρ k) ∧ OU ρ' (L ++ decL v) ∧ CI G g ρ' h') := by
  obtain ⟨o1, o2, o3, o4, o5⟩ := id hO
  exact Ct.mono (mJ4_append_bf812 l G N0 h (g 13) (aA ρ 5) (ρ 37 0).toNat (ρ 38 0) (ρ 29 0) (ρ 28) v (ci_13 hI) (ci_14 hI) (by omega) (by omega) hv (fun i i0 i1 => o5 i i0 (by omega))) (fun r h' q => ⟨q.1, ou_push hI hO q.2⟩)
theorem cOutC (l : Launch) (G : GG) (N0 : Nat) (h : Hp) (g : Int → Nat) (ρ : Sg) (L : List Int) (c9 : Int) (hI : CI G g ρ h) (hO : OU ρ L) (hc : 0 ≤ c9 ∧ c9 < 128) (hn : (L.length : Int) + 1 ≤ 34) : Ct l G N0 yJ4_append_cf468 (Cond.code yJ4_append_cf468 cJ4_append_cf468 2 (some (FieldType.object "java/lang/StringBuilder")) :: LW) ({ frames := 6, cells := 1, slots := 100, locals := 320 }) [vR (g 13), vI c9] h (fun r h' => r = some (vR (g 13)) ∧ ∃ ρ', (∀ k, oB k = false → ρ' k = ρ k) ∧ OU ρ' (L ++ [c9]) ∧ CI G g ρ' h') := by
  obtain ⟨o1, o2, o3, o4, o5⟩ := id hO
  exact Ct.mono (mAppC4 l G N0 h (g 13) (aA ρ 5) (ρ 37 0).toNat (ρ 38 0) (ρ 29 0) (ρ 28) c9 (ci_13 hI) (ci_14 hI) (by omega) (by omega) hc (fun i i0 i1 => o5 i i0 (by omega))) (fun r h' q => ⟨q.1, ou_push hI hO q.2⟩)
theorem cOut0 (l : Launch) (G : GG) (N0 : Nat) (h : Hp) (g : Int → Nat) (ρ : Sg) (hI : CI G g ρ h) (hV : (0 ≤ ρ 29 0 ∧ ρ 29 0 ≤ ρ 37 0) ∧ (ρ 37 0 = 16 ∨ ρ 37 0 = 34) ∧ ∀ j, 0 ≤ j → j < ρ 37 0 → -128 ≤ ρ 28 j ∧ ρ 28 j < 128) : Ct l G N0 yJ4_setLength_d00df (Cond.code yJ4_setLength_d00df cJ4_setLength_d00df 2 none :: LW) ({ frames := 2, cells := 0, slots := 0, locals := 120 }) [vR (g 13), vI 0] h (fun r h' => r = none ∧ ∃ ρ', (∀ k, oB k = false → ρ' k = ρ k) ∧ OU ρ' [] ∧ CI G g ρ' h') := by
  refine Ct.mono (mJ4_setLength_d00df l G N0 h (g 13) (aA ρ 5) (ρ 37 0).toNat (ρ 38 0) (ρ 29 0) (ρ 28) (ci_13 hI) (ci_14 hI) (by omega)) (fun r h' q => ?_)
  obtain ⟨q1, m2, q2⟩ := q
  have hne : aA ρ 5 ≠ g 13 := ne_tg (ci_14 hI) (ci_13 hI) rfl
  refine ⟨q1, _, fun k hk => ?_, ?_, hI.out (h' := h') (t := ρ 28) (n := 0) (ml := m2) (N := (ρ 37 0).toNat) (v1 := aA ρ 5) (by rw [q2]; exact hu_s _ _ _) (by rw [q2, hu_n _ _ hne]; exact ci_14 hI) (Or.inl rfl) (fun x x1 x2 => by rw [q2, hu_n _ _ x1])⟩
  · have ne : ∀ q, oB q = true → k ≠ q := fun q hq z => by rw [z, hq] at hk; cases hk
    funext j
    show su (su (su (su (sw ρ 28 (ρ 28)) 29 0 _) 37 0 _) 38 0 _) 40 5 _ k j = _
    rw [su_n (ne 40 rfl), su_n (ne 38 rfl), su_n (ne 37 rfl), su_n (ne 29 rfl)]
    exact if_neg (ne 28 rfl)
  · have e : (((ρ 37 0).toNat : Nat) : Int) = ρ 37 0 := by omega
    refine ⟨fun i hi => absurd hi (Nat.not_lt_zero i), rfl, ?_, ?_, fun j j0 j1 => ?_⟩
    · show (((ρ 37 0).toNat : Nat) : Int) = 16 ∨ (((ρ 37 0).toNat : Nat) : Int) = 34
      rw [e]; exact hV.2.1
    · show (0 : Int) ≤ (((ρ 37 0).toNat : Nat) : Int)
      omega
    · exact hV.2.2 j j0 (by rw [← e]; exact j1)
