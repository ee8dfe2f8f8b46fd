/-! THE BOUNDS: a text, an invoice -/
theorem decL_0 {v x : Int} (h : x ∈ decL v) : 0 ≤ x := by
  unfold decL at h
  repeat' split at h
  all_goals simp at h
  all_goals omega
theorem weL_0 {ρ : Sg} (hV : MC ρ) {e x : Int} (h0 : 0 ≤ e) (h1 : e < ρ 8 0) (h : x ∈ weL ρ e) : 0 ≤ x := by
  obtain ⟨v0, v1, v2, v8, v16, v24, v39, vC, vE, vJ, vK, vB, vO⟩ := hV
  have E := vE e h0 h1
  unfold weL at h
  simp only [List.nil_append, List.mem_append, List.mem_singleton] at h
  rcases h with (((((((h | h) | h) | h) | h) | h) | h) | h) | h
  · exact decL_0 h
  · omega
  · exact decL_0 h
  · omega
  · exact decL_0 h
  · omega
  · exact decL_0 h
  · omega
  · exact decL_0 h
theorem MC_out {ρ ρ' : Sg} {L : List Int} (hV : MC ρ) (q : ∀ k, (scrB k || oB k) = false → ρ' k = ρ k) (hO : OU ρ' L) (hL : ∀ x ∈ L, 0 ≤ x) : MC ρ' := by
  have l1 := lnS_f (q 20 rfl)
  have l2 := amS_f (q 22 rfl)
  have l3 := cst_f (q 12 rfl)
  obtain ⟨v0, v1, v2, v8, v16, v24, v39, vC, vE, vJ, vK, vB, vO⟩ := hV
  unfold MC
  simp only [q 0 rfl, q 1 rfl, q 2 rfl, q 3 rfl, q 4 rfl, q 5 rfl, q 6 rfl, q 7 rfl, q 8 rfl, q 9 rfl, q 10 rfl, q 11 rfl, q 12 rfl, q 13 rfl, q 16 rfl, q 17 rfl, q 18 rfl, q 19 rfl, q 20 rfl, q 22 rfl, q 23 rfl, q 24 rfl, q 25 rfl, q 26 rfl, q 27 rfl, q 31 rfl, q 39 rfl, l1, l2, l3]
  refine ⟨v0, v1, v2, v8, v16, v24, v39, vC, vE, vJ, vK, vB, ⟨?_, hO.2.2.2.1⟩, hO.2.2.1, hO.2.2.2.2, fun j j0 j1 => ?_⟩
  · rw [hO.2.1]; omega
  · rw [hO.2.1] at j1
    have h := hO.1 j.toNat (by omega)
    rw [show (0 : Int) + (j.toNat : Int) = j by omega] at h
    rw [h]
    have hj : j.toNat < L.length := by omega
    have e : L.getD j.toNat 0 = L[j.toNat] := by simp only [List.getD]; rw [List.getElem?_eq_getElem hj]; rfl
    rw [e]
    exact hL _ (List.getElem_mem hj)
theorem lnS_g {σ σ' : Sg} {i : Int} : ∀ n : Nat, (∀ q : Int, 0 ≤ q → q < n → σ' 20 (40 * i + q) = σ 20 (40 * i + q)) → lnS σ' i n = lnS σ i n
  | 0, _ => rfl
  | n + 1, h => by rw [lnS, lnS, lnS_g n (fun q h0 h1 => h q h0 (by omega)), h (n : Int) (by omega) (by omega)]
theorem amS_g {σ σ' : Sg} {i : Int} : ∀ n : Nat, (∀ q : Int, 0 ≤ q → q < n → σ' 22 (40 * i + q) = σ 22 (40 * i + q)) → amS σ' i n = amS σ i n
  | 0, _ => rfl
  | n + 1, h => by rw [amS, amS, amS_g n (fun q h0 h1 => h q h0 (by omega)), h (n : Int) (by omega) (by omega)]
theorem lnF_in {f : Int → Int} {b : Int} {L : List Int} {q : Nat} (h : q < L.length) : lnF f b L (b + q) = L[q] := by
  unfold lnF
  rw [if_pos (by omega), show (b + (q : Int) - b).toNat = q by omega]
  simp only [List.getD]
  rw [List.getElem?_eq_getElem h]
  rfl
/-- the sums of a list's lines -/
theorem lnS_L {σ : Sg} {i : Int} (L : List Ln) : ∀ n : Nat, (hn : n ≤ L.length) → (∀ q : Nat, (h : q < L.length) → σ 20 (40 * i + q) = L[q].2.2) → lnS σ i n = lSum (L.take n)
  | 0, _, _ => by rw [List.take_zero]; rfl
  | n + 1, hn, h => by
    rw [lnS, lnS_L L n (by omega) h, List.take_succ_eq_append_getElem (by omega), lSum_push, h n (by omega)]
theorem amS_L {σ : Sg} {i r : Int} (L : List Ln) : ∀ n : Nat, (hn : n ≤ L.length) → (∀ q : Nat, (h : q < L.length) → σ 22 (40 * i + q) = fi (amt L[q].2.2 r)) → amS σ i n = totL r (L.take n)
  | 0, _, _ => by rw [List.take_zero]; rfl
  | n + 1, hn, h => by
    rw [amS, amS_L L n (by omega) h, List.take_succ_eq_append_getElem (by omega), totL_push, h n (by omega), fb_fi]
theorem MC_inv {ρ : Sg} (hV : MC ρ) {c : Int} {L : List Ln} (hc : 0 ≤ c ∧ c < ρ 2 0) (h16 : ρ 16 0 < 8) (hn : L.length ≤ 40) (hB : LB L) (hN : NB (totL (ρ 6 c) L)) : MC (ivRL ρ c L) := by
  obtain ⟨v0, v1, v2, v8, v16, v24, v39, vC, vE, vJ, vK, vB, vO⟩ := id hV
  have C := vC c hc.1 hc.2
  obtain ⟨S, hS⟩ : ∃ z, z = ivRL ρ c L := ⟨_, rfl⟩
  have e0 : S 0 = ρ 0 := by rw [hS]; rfl
  have e2 : S 2 = ρ 2 := by rw [hS]; rfl
  have e8 : S 8 = ρ 8 := by rw [hS]; rfl
  have e9 : S 9 = ρ 9 := by rw [hS]; rfl
  have e10 : S 10 = ρ 10 := by rw [hS]; rfl
  have e11 : S 11 = ρ 11 := by rw [hS]; rfl
  have e12 : S 12 = st12 ρ c (ρ 8 0) := by rw [hS]; rfl
  have e13 : S 13 = fx13 ρ c (ρ 8 0) := by rw [hS]; rfl
  have e16 : S 16 0 = ρ 16 0 + 1 := by rw [hS]; rfl
  have e17 : S 17 = u17 ρ L := by rw [hS]; rfl
  have e18 : S 18 = fun j => if j = ρ 16 0 then c else ρ 18 j := by rw [hS]; rfl
  have e19 : S 19 = u19 ρ L := by rw [hS]; rfl
  have e20 : S 20 = u20 ρ L := by rw [hS]; rfl
  have e22 : S 22 = u22 ρ (ρ 6 c) L := by rw [hS]; rfl
  have e23 : S 23 = u23 ρ (ρ 6 c) L := by rw [hS]; rfl
  have e24 : S 24 = ρ 24 := by rw [hS]; rfl
  have e25 : S 25 = ρ 25 := by rw [hS]; rfl
  have e26 : S 26 = ρ 26 := by rw [hS]; rfl
  have e27 : S 27 = bl27 ρ c (ρ 24 0) := by rw [hS]; rfl
  have e31 : S 31 = fun j => if j = ρ 16 0 then lSum L else ρ 31 j := by rw [hS]; rfl
  have e39 : S 39 0 = ρ 16 0 + 1 := by rw [hS]; rfl
  have eR : S 1 = ρ 1 ∧ S 3 = ρ 3 ∧ S 4 = ρ 4 ∧ S 5 = ρ 5 ∧ S 6 = ρ 6 ∧ S 7 = ρ 7 ∧ S 28 = ρ 28 ∧ S 29 = ρ 29 ∧ S 37 = ρ 37 := by rw [hS]; exact ⟨rfl, rfl, rfl, rfl, rfl, rfl, rfl, rfl, rfl⟩
  obtain ⟨e1, e3, e4, e5, e6, e7, e28, e29, e37⟩ := eR
  rw [← hS]
  have s12 : ∀ e, S 12 e = 102 ∧ blI (ρ 9) (ρ 12) e c 0 = 1 ∧ (0 ≤ e ∧ e < ρ 8 0) ∨ S 12 e = ρ 12 e := fun e => by
    rw [e12]
    unfold st12
    by_cases z : 0 ≤ e ∧ e < ρ 8 0 ∧ blI (ρ 9) (ρ 12) e c 0 = 1
    · rw [if_pos z]; exact Or.inl ⟨rfl, z.2.2, z.1, z.2.1⟩
    · rw [if_neg z]; exact Or.inr rfl
  refine ⟨by rw [e0]; exact v0, by rw [e1]; exact v1, by rw [e2]; exact v2, by rw [e8]; exact v8, by rw [e16]; omega, by rw [e24]; exact v24, ⟨by rw [e39, e16], ?_⟩, ?_, fun e h0 h1 => ?_, fun i i0 i1 => ?_, fun k k0 k1 => ?_, ⟨?_, fun e h0 => ?_, fun k k0 => ?_, fun i i0 => ?_⟩, by rw [e28, e29, e37]; exact vO⟩
  · rw [e8]
    refine Int.le_trans (cst_le (fun e he => ?_) _) v39.2
    rcases s12 e with z | z
    · omega
    · rw [← z]; exact he
  · rw [e2, e3, e4, e5, e6, e7]; exact vC
  · rw [e8] at h1
    have E := vE e h0 h1
    rw [e9, e10, e11, e2, e0, e13]
    refine ⟨E.1, E.2.1, ?_, fun he => ?_, ?_⟩
    · rcases s12 e with z | z
      · exact Or.inr (Or.inr (Or.inl z.1))
      · rw [z]; exact E.2.2.1
    · rcases s12 e with z | z
      · omega
      · rw [z] at he; exact E.2.2.2.1 he
    · unfold fx13
      by_cases z : 0 ≤ e ∧ e < ρ 8 0 ∧ blI (ρ 9) (ρ 12) e c 0 = 1
      · rw [if_pos z]; exact secS_b hV h0 h1
      · rw [if_neg z]; exact E.2.2.2.2
  · rw [e16] at i1
    by_cases z : i = ρ 16 0
    · subst z
      have l17 : S 17 (ρ 16 0) = L.length := by rw [e17]; exact if_pos rfl
      have h20 : ∀ q : Nat, (h : q < L.length) → S 20 (40 * ρ 16 0 + q) = L[q].2.2 := fun q h => by
        rw [e20]; unfold u20
        rw [lnF_in (by rw [List.length_map]; exact h), List.getElem_map]
      have h19 : ∀ q : Nat, (h : q < L.length) → S 19 (40 * ρ 16 0 + q) = L[q].1 := fun q h => by
        rw [e19]; unfold u19
        rw [lnF_in (by rw [List.length_map]; exact h), List.getElem_map]
      have h22 : ∀ q : Nat, (h : q < L.length) → S 22 (40 * ρ 16 0 + q) = fi (amt L[q].2.2 (ρ 6 c)) := fun q h => by
        rw [e22]; unfold u22
        rw [lnF_in (by rw [List.length_map]; exact h), List.getElem_map]
      have k23 : fb (S 23 (ρ 16 0)) = totL (ρ 6 c) L := by rw [e23]; show fb (if ρ 16 0 = ρ 16 0 then _ else _) = _; rw [if_pos rfl, fb_fi]
      rw [l17]
      refine ⟨by omega, ⟨?_, ?_⟩, ?_, ?_, by rw [k23]; exact hN, fun q q0 q1 => ?_⟩
      · rw [e18]; show 0 ≤ (if ρ 16 0 = ρ 16 0 then c else _); rw [if_pos rfl]; exact hc.1
      · rw [e18, e2]; show (if ρ 16 0 = ρ 16 0 then c else _) < _; rw [if_pos rfl]; exact hc.2
      · rw [e31]
        show (if ρ 16 0 = ρ 16 0 then lSum L else _) = _
        rw [if_pos rfl, Int.toNat_natCast, lnS_L L L.length (Nat.le_refl _) h20, List.take_length]
      · rw [k23, Int.toNat_natCast, amS_L L L.length (Nat.le_refl _) h22, List.take_length]
      · obtain ⟨n, rfl⟩ : ∃ n : Nat, q = n := ⟨q.toNat, by omega⟩
        have hl : n < L.length := by omega
        have b := hB _ (List.getElem_mem hl)
        rw [h20 n hl, h19 n hl, h22 n hl, fb_fi]
        exact ⟨b.2.2, b.1, mg_amt (by omega) (by omega)⟩
    · have J := vJ i i0 (by omega)
      have l17 : S 17 i = ρ 17 i := by rw [e17]; exact if_neg z
      have hq : ∀ q : Int, 0 ≤ q → q < ρ 17 i → S 20 (40 * i + q) = ρ 20 (40 * i + q) ∧ S 19 (40 * i + q) = ρ 19 (40 * i + q) ∧ S 22 (40 * i + q) = ρ 22 (40 * i + q) := fun q q0 q1 => by
        rw [e20, e19, e22]
        exact ⟨lnF_lt (by omega), lnF_lt (by omega), lnF_lt (by omega)⟩
      rw [l17]
      refine ⟨J.1, ⟨?_, ?_⟩, ?_, ?_, ?_, fun q q0 q1 => ?_⟩
      · rw [e18]; show 0 ≤ (if i = ρ 16 0 then c else ρ 18 i); rw [if_neg z]; exact J.2.1.1
      · rw [e18, e2]; show (if i = ρ 16 0 then c else ρ 18 i) < _; rw [if_neg z]; exact J.2.1.2
      · rw [e31, lnS_g (σ := ρ) _ (fun q q0 q1 => (hq q q0 (by omega)).1)]
        show (if i = ρ 16 0 then lSum L else ρ 31 i) = _
        rw [if_neg z]; exact J.2.2.1
      · rw [e23, amS_g (σ := ρ) _ (fun q q0 q1 => (hq q q0 (by omega)).2.2)]
        show fb (if i = ρ 16 0 then _ else ρ 23 i) = _
        rw [if_neg z]; exact J.2.2.2.1
      · rw [e23]
        show NB (fb (if i = ρ 16 0 then _ else ρ 23 i))
        rw [if_neg z]; exact J.2.2.2.2.1
      · obtain ⟨a1, a2, a3⟩ := hq q q0 q1
        rw [a1, a2, a3]
        exact J.2.2.2.2.2 q q0 q1
  · rw [e24] at k1
    have K := vK k k0 k1
    rw [e25, e26, e27, e8]
    refine ⟨?_, K.2.1, ?_, K.2.2.2⟩
    · unfold bl27
      split
      · exact Or.inr rfl
      · exact K.1
    · rcases s12 (ρ 25 k) with z | z
      · exact z.1
      · rw [z]; exact K.2.2.1
  · rw [e2, e7]; exact vB.1
  · rw [e8] at h0
    rw [e13]
    unfold fx13
    rw [if_neg (by omega)]
    exact vB.2.1 e h0
  · rw [e24] at k0
    rw [e27]
    unfold bl27
    rw [if_neg (by omega)]
    exact vB.2.2.1 k k0
  · rw [e16] at i0
    have b := vB.2.2.2 i (by omega)
    rw [e17, e23]
    unfold u17 u23
    rw [if_neg (by omega), if_neg (by omega)]
    exact b
