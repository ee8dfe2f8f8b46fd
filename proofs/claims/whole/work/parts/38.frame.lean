/-! THE FRAME: a contract over a part of the heap is one over the whole of it -/
def mgH (h h1 h1' : Hp) : Hp := fun a => match h1 a with
  | some _ => h1' a
  | none => match h a with
    | some e => some e
    | none => h1' a
theorem mgH_in {h h1 h1' : Hp} {a : Nat} {e : AE} (H : h1 a = some e) : mgH h h1 h1' a = h1' a := by unfold mgH; rw [H]
theorem mgH_out {h h1 h1' : Hp} {a : Nat} {e : AE} (H : h1 a = none) (K : h a = some e) : mgH h h1 h1' a = some e := by unfold mgH; rw [H, K]
theorem mgH_new {h h1 h1' : Hp} {a : Nat} (H : h1 a = none) (K : h a = none) : mgH h h1 h1' a = h1' a := by unfold mgH; rw [H, K]
def SB (h1 h : Hp) : Prop := ∀ a e, h1 a = some e → h a = some e
theorem SB.cA {h1 h : Hp} (hs : SB h1 h) {sz q : Nat} (H : cA h1 sz q) : cA h sz q := H.elim (fun z => Or.inl (by
  cases e : h1 q with
  | none => exact absurd e z
  | some x => rw [hs q x e]; exact fun w => by cases w)) Or.inr
theorem cB_frame {G : GG} {N0 : Nat} {h h1 h1' : Hp} {sz : Nat} {st t : State} (hs : SB h1 h) (hWP : WP G N0 h st.heap) (hsz : st.heap.size = sz) (H : cB G N0 h1 sz st t h1') : cB G N0 h sz st t (mgH h h1 h1') ∧ ∀ a, h1' a ≠ none → h1 a ≠ none ∨ h a = none := by
  obtain ⟨hdom, hW1, hz, hk⟩ := H
  have hno : ∀ a, sz ≤ a → h a = none := fun a q => by
    cases e : h a with
    | none => rfl
    | some x => exact absurd ((hWP a x e).2.lt) (by omega)
  refine ⟨⟨fun a ha => ?_, fun a e he => ?_, hz, fun q h1 h2 => hk q h1 (fun z => h2 (hs.cA z))⟩, fun a ha => (hdom a ha).elim Or.inl (fun q => Or.inr (hno a q))⟩
  · cases e1 : h1 a with
    | some x => exact Or.inl (by rw [hs a x e1]; exact fun w => by cases w)
    | none =>
      cases e2 : h a with
      | some y => exact Or.inl (fun w => by cases w)
      | none =>
        rw [mgH_new e1 e2] at ha
        rcases hdom a ha with z | z
        · exact absurd e1 z
        · exact Or.inr z
  · cases e1 : h1 a with
    | some x => rw [mgH_in e1] at he; exact hW1 a e he
    | none =>
      cases e2 : h a with
      | some y =>
        rw [mgH_out e1 e2] at he
        cases he
        obtain ⟨w1, w2⟩ := hWP a _ e2
        have hlt := w2.lt
        refine ⟨w1, w2.kept (hk a hlt ?_)⟩
        rintro (z | z)
        · exact z e1
        · omega
      | none => rw [mgH_new e1 e2] at he; exact hW1 a e he
theorem Ct.frame {l : Launch} {G : GG} {N0 : Nat} {y : MethodName} {ws : List Cond} {rm : Room} {as : List AV} {h h1 : Hp} {P : Option AV → Hp → Prop} (H : Ct l G N0 y ws rm as h1 P) (hs : SB h1 h) : Ct l G N0 y ws rm as h (fun r h' => ∃ h1', P r h1' ∧ (∀ a, h1' a ≠ none → h1 a ≠ none ∨ h a = none) ∧ h' = mgH h h1 h1') := by
  intro sz
  refine MetFree.mono (H sz) (fun a s hp => ?_) (fun _ _ _ _ _ k => k) (fun a st o t hp hq => ?_)
  · obtain ⟨q0, q1, q2, q3, q4⟩ := hp
    exact ⟨q0, q1, fun b e he => q2 b e (hs b e he), q3, q4⟩
  · obtain ⟨q0, q1, q2, q3, q4⟩ := hp
    obtain ⟨⟨r, h1', ho, hP, hB⟩, L, hF, hL⟩ := hq
    obtain ⟨b1, b2⟩ := cB_frame hs q2 q1 hB
    exact ⟨⟨r, _, ho, ⟨h1', hP, b2, rfl⟩, b1⟩, L, hF, fun q hq => hs.cA (hL q hq)⟩
/-! a new model -/
def sig0 : Sg := fun k _ => if k = 1 then 102 else 0
def gL (L : List Nat) (k : Nat) : Nat :=
  if k = 0 then L.getD 23 0 else if 3 ≤ k ∧ k ≤ 7 then L.getD (25 - k) 0 else if 9 ≤ k ∧ k ≤ 15 then L.getD (26 - k) 0 else if 17 ≤ k ∧ k ≤ 23 then L.getD (27 - k) 0 else if 25 ≤ k ∧ k ≤ 28 then L.getD (28 - k) 0 else L.sum + 1 + k
theorem getD_le_sum : ∀ (L : List Nat) (i : Nat), L.getD i 0 ≤ L.sum
  | [], i => by simp
  | a :: L, 0 => by simp [List.getD]
  | a :: L, i + 1 => by
    have := getD_le_sum L i
    simp [List.getD] at this ⊢
    omega
theorem gL_inj {L : List Nat} (hn : L.Nodup) (hl : L.length = 24) : ∀ i j, i < 31 → j < 31 → gL L i = gL L j → i = j := by
  have key : ∀ a b, a < 24 → b < 24 → L.getD a 0 = L.getD b 0 → a = b := fun a b ha hb e => by
    simp only [List.getD] at e
    rw [List.getElem?_eq_getElem (by omega), List.getElem?_eq_getElem (by omega)] at e
    have e' := Option.some.inj (by simpa using e : some L[a] = some L[b])
    have pw := List.pairwise_iff_getElem.mp hn
    rcases Nat.lt_trichotomy a b with z | z | z
    · exact absurd e' (pw a b (by omega) (by omega) z)
    · exact z
    · exact absurd e'.symm (pw b a (by omega) (by omega) z)
  have px : ∀ k, k < 31 → (∃ p, p < 24 ∧ gL L k = L.getD p 0 ∧ ((k = 0 ∧ p = 23) ∨ (3 ≤ k ∧ k ≤ 7 ∧ p = 25 - k) ∨ (9 ≤ k ∧ k ≤ 15 ∧ p = 26 - k) ∨ (17 ≤ k ∧ k ≤ 23 ∧ p = 27 - k) ∨ (25 ≤ k ∧ k ≤ 28 ∧ p = 28 - k))) ∨ gL L k = L.sum + 1 + k := fun k hk => by
    unfold gL
    by_cases h0 : k = 0
    · rw [if_pos h0]; exact Or.inl ⟨_, by omega, rfl, by omega⟩
    · rw [if_neg h0]
      by_cases h1 : 3 ≤ k ∧ k ≤ 7
      · rw [if_pos h1]; exact Or.inl ⟨_, by omega, rfl, by omega⟩
      · rw [if_neg h1]
        by_cases h2 : 9 ≤ k ∧ k ≤ 15
        · rw [if_pos h2]; exact Or.inl ⟨_, by omega, rfl, by omega⟩
        · rw [if_neg h2]
          by_cases h3 : 17 ≤ k ∧ k ≤ 23
          · rw [if_pos h3]; exact Or.inl ⟨_, by omega, rfl, by omega⟩
          · rw [if_neg h3]
            by_cases h4 : 25 ≤ k ∧ k ≤ 28
            · rw [if_pos h4]; exact Or.inl ⟨_, by omega, rfl, by omega⟩
            · rw [if_neg h4]; exact Or.inr rfl
  intro i j hi hj e
  rcases px i hi with ⟨p, p1, p2, p3⟩ | p2 <;> rcases px j hj with ⟨q, q1, q2, q3⟩ | q2 <;> rw [p2, q2] at e
  · have := key p q p1 q1 e
    omega
  · have := getD_le_sum L p
    omega
  · have := getD_le_sum L q
    omega
  · omega
theorem nd_push {h h' : Hp} {L : List Nat} {q : Nat} {e : AE} (hd : L.Nodup ∧ ∀ a ∈ L, h a ≠ none) (hq : h q = none) (eh : hu h q e = h') : (q :: L).Nodup ∧ ∀ a ∈ q :: L, h' a ≠ none := by
  refine ⟨List.nodup_cons.mpr ⟨fun hm => hd.2 q hm hq, hd.1⟩, fun a ha => ?_⟩
  rw [← eh]
  unfold hu
  by_cases z : a = q
  · rw [if_pos z]; exact fun w => by cases w
  · rw [if_neg z]
    rcases List.mem_cons.mp ha with w | w
    · exact absurd w z
    · exact hd.2 a w
theorem nd_put {h h' : Hp} {L : List Nat} {q : Nat} {e : AE} (hd : L.Nodup ∧ ∀ a ∈ L, h a ≠ none) (eh : hu h q e = h') : L.Nodup ∧ ∀ a ∈ L, h' a ≠ none := by
  refine ⟨hd.1, fun a ha => ?_⟩
  rw [← eh]
  unfold hu
  by_cases z : a = q
  · rw [if_pos z]; exact fun w => by cases w
  · rw [if_neg z]; exact hd.2 a ha
