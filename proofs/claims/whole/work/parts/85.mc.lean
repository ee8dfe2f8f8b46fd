/-! THE BOUNDS ARE KEPT -/
theorem cst_le {σ σ' : Sg} (h : ∀ e, σ' 12 e = 114 → σ 12 e = 114) : ∀ n : Nat, cst σ' 114 n ≤ cst σ 114 n
  | 0 => Int.le_refl _
  | n + 1 => by
    have := cst_le h n
    rw [cst, cst]
    by_cases q : σ' 12 (n : Int) = 114
    · rw [if_pos q, if_pos (h _ q)]; omega
    · rw [if_neg q]
      split <;> omega
theorem cst_g {σ σ' : Sg} {v : Int} : ∀ n : Nat, (∀ e : Int, 0 ≤ e → e < n → σ' 12 e = σ 12 e) → cst σ' v n = cst σ v n
  | 0, _ => rfl
  | n + 1, h => by rw [cst, cst, cst_g n (fun e h0 h1 => h e h0 (by omega)), h (n : Int) (by omega) (by omega)]
theorem MC_pass {ρ : Sg} (hV : MC ρ) {m : Int} (h0 : ρ 0 0 ≤ m) (h1 : m ≤ 2999) : MC (sw (su ρ 0 0 m) 11 (fun e => if ρ 12 e = 114 then m else ρ 11 e)) := by
  obtain ⟨v0, v1, v2, v8, v16, v24, v39, vC, vE, vJ, vK, vB, vO⟩ := hV
  have l1 : lnS (sw (su ρ 0 0 m) 11 (fun e => if ρ 12 e = 114 then m else ρ 11 e)) = lnS ρ := lnS_c rfl
  have l2 : amS (sw (su ρ 0 0 m) 11 (fun e => if ρ 12 e = 114 then m else ρ 11 e)) = amS ρ := amS_c rfl
  have l3 : cst (sw (su ρ 0 0 m) 11 (fun e => if ρ 12 e = 114 then m else ρ 11 e)) = cst ρ := cst_c rfl
  refine ⟨(show 0 ≤ m ∧ m ≤ 2999 by omega), v1, v2, v8, v16, v24, (by rw [l3]; exact v39), vC, (fun e e0 e1 => ?_), (by rw [l1, l2]; exact vJ), vK, vB, vO⟩
  have E := vE e e0 e1
  refine ⟨E.1, ?_, E.2.2.1, fun q => if_pos q, E.2.2.2.2⟩
  show 0 ≤ ρ 10 e ∧ ρ 10 e ≤ (if ρ 12 e = 114 then m else ρ 11 e) ∧ (if ρ 12 e = 114 then m else ρ 11 e) ≤ m
  split <;> omega
theorem MC_rule {ρ : Sg} (hV : MC ρ) {v : Int} (h : v = 102 ∨ v = 108 ∨ v = 115) : MC (su ρ 1 0 v) := by
  obtain ⟨v0, v1, v2, v8, v16, v24, v39, vC, vE, vJ, vK, vB, vO⟩ := hV
  have l1 : lnS (su ρ 1 0 v) = lnS ρ := lnS_c rfl
  have l2 : amS (su ρ 1 0 v) = amS ρ := amS_c rfl
  have l3 : cst (su ρ 1 0 v) = cst ρ := cst_c rfl
  exact ⟨v0, h, v2, v8, v16, v24, (by rw [l3]; exact v39), vC, vE, (by rw [l1, l2]; exact vJ), vK, vB, vO⟩
theorem MC_rounding {ρ : Sg} (hV : MC ρ) {c u mo le : Int} (h : (1 ≤ u ∧ u ≤ 60) ∧ (mo = 117 ∨ mo = 100 ∨ mo = 110) ∧ (le = 101 ∨ le = 100 ∨ le = 99)) : MC (su (su (su ρ 3 c u) 4 c mo) 5 c le) := by
  obtain ⟨v0, v1, v2, v8, v16, v24, v39, vC, vE, vJ, vK, vB, vO⟩ := hV
  have l1 : lnS (su (su (su ρ 3 c u) 4 c mo) 5 c le) = lnS ρ := lnS_c rfl
  have l2 : amS (su (su (su ρ 3 c u) 4 c mo) 5 c le) = amS ρ := amS_c rfl
  have l3 : cst (su (su (su ρ 3 c u) 4 c mo) 5 c le) = cst ρ := cst_c rfl
  refine ⟨v0, v1, v2, v8, v16, v24, (by rw [l3]; exact v39), (fun i i0 i1 => ?_), vE, (by rw [l1, l2]; exact vJ), vK, vB, vO⟩
  have C := vC i i0 i1
  show (1 ≤ su ρ 3 c u 3 i ∧ su ρ 3 c u 3 i ≤ 60) ∧ (su ρ 4 c mo 4 i = 117 ∨ su ρ 4 c mo 4 i = 100 ∨ su ρ 4 c mo 4 i = 110) ∧ (su ρ 5 c le 5 i = 101 ∨ su ρ 5 c le 5 i = 100 ∨ su ρ 5 c le 5 i = 99) ∧ (0 ≤ ρ 6 i ∧ ρ 6 i ≤ 50000) ∧ (0 ≤ ρ 7 i ∧ ρ 7 i ≤ 9999)
  by_cases q : i = c
  · rw [q, su_e, su_e, su_e, ← q]; exact ⟨h.1, h.2.1, h.2.2, C.2.2.2⟩
  · rw [su_i q, su_i q, su_i q]; exact C
theorem MC_rate {ρ : Sg} (hV : MC ρ) {c v : Int} (h : 0 ≤ v ∧ v ≤ 50000) : MC (su ρ 6 c v) := by
  obtain ⟨v0, v1, v2, v8, v16, v24, v39, vC, vE, vJ, vK, vB, vO⟩ := hV
  have l1 : lnS (su ρ 6 c v) = lnS ρ := lnS_c rfl
  have l2 : amS (su ρ 6 c v) = amS ρ := amS_c rfl
  have l3 : cst (su ρ 6 c v) = cst ρ := cst_c rfl
  refine ⟨v0, v1, v2, v8, v16, v24, (by rw [l3]; exact v39), (fun i i0 i1 => ?_), vE, (by rw [l1, l2]; exact vJ), vK, vB, vO⟩
  have C := vC i i0 i1
  refine ⟨C.1, C.2.1, C.2.2.1, ?_, C.2.2.2.2⟩
  show 0 ≤ su ρ 6 c v 6 i ∧ su ρ 6 c v 6 i ≤ 50000
  by_cases q : i = c
  · rw [q, su_e]; exact h
  · rw [su_i q]; exact C.2.2.2.1
theorem MC_budget {ρ : Sg} (hV : MC ρ) {c v : Int} (hc : 0 ≤ c ∧ c < ρ 2 0) (h : 0 ≤ v ∧ v ≤ 9999) : MC (su ρ 7 c v) := by
  obtain ⟨v0, v1, v2, v8, v16, v24, v39, vC, vE, vJ, vK, vB, vO⟩ := hV
  have l1 : lnS (su ρ 7 c v) = lnS ρ := lnS_c rfl
  have l2 : amS (su ρ 7 c v) = amS ρ := amS_c rfl
  have l3 : cst (su ρ 7 c v) = cst ρ := cst_c rfl
  refine ⟨v0, v1, v2, v8, v16, v24, (by rw [l3]; exact v39), (fun i i0 i1 => ?_), vE, (by rw [l1, l2]; exact vJ), vK, ⟨(fun i i0 => ?_), vB.2⟩, vO⟩
  · have C := vC i i0 i1
    refine ⟨C.1, C.2.1, C.2.2.1, C.2.2.2.1, ?_⟩
    show 0 ≤ su ρ 7 c v 7 i ∧ su ρ 7 c v 7 i ≤ 9999
    by_cases q : i = c
    · rw [q, su_e]; exact h
    · rw [su_i q]; exact C.2.2.2.2
  · have i0 : ρ 2 0 ≤ i := i0
    show su ρ 7 c v 7 i = 0
    rw [su_i (by omega)]
    exact vB.1 i i0
theorem MC_C {ρ : Sg} (hV : MC ρ) {u mo le ra : Int} (h : (1 ≤ u ∧ u ≤ 60) ∧ (mo = 117 ∨ mo = 100 ∨ mo = 110) ∧ (le = 101 ∨ le = 100 ∨ le = 99)) (hr : 0 ≤ ra ∧ ra ≤ 50000) (h2 : ρ 2 0 < 5) : MC (mkC ρ u mo le ra) := by
  obtain ⟨v0, v1, v2, v8, v16, v24, v39, vC, vE, vJ, vK, vB, vO⟩ := hV
  have l1 : lnS (mkC ρ u mo le ra) = lnS ρ := lnS_c rfl
  have l2 : amS (mkC ρ u mo le ra) = amS ρ := amS_c rfl
  have l3 : cst (mkC ρ u mo le ra) = cst ρ := cst_c rfl
  refine ⟨v0, v1, (show 0 ≤ ρ 2 0 + 1 ∧ ρ 2 0 + 1 ≤ 5 by omega), v8, v16, v24, (by rw [l3]; exact v39), (fun i i0 i1 => ?_), (fun e e0 e1 => ?_), (fun i i0 i1 => ?_), vK, ⟨(fun i i0 => vB.1 i (by have i0 : ρ 2 0 + 1 ≤ i := i0; omega)), vB.2⟩, vO⟩
  · have i1 : i < ρ 2 0 + 1 := i1
    show (1 ≤ su ρ 3 (ρ 2 0) u 3 i ∧ su ρ 3 (ρ 2 0) u 3 i ≤ 60) ∧ (su ρ 4 (ρ 2 0) mo 4 i = 117 ∨ su ρ 4 (ρ 2 0) mo 4 i = 100 ∨ su ρ 4 (ρ 2 0) mo 4 i = 110) ∧ (su ρ 5 (ρ 2 0) le 5 i = 101 ∨ su ρ 5 (ρ 2 0) le 5 i = 100 ∨ su ρ 5 (ρ 2 0) le 5 i = 99) ∧ (0 ≤ su ρ 6 (ρ 2 0) ra 6 i ∧ su ρ 6 (ρ 2 0) ra 6 i ≤ 50000) ∧ (0 ≤ ρ 7 i ∧ ρ 7 i ≤ 9999)
    by_cases q : i = ρ 2 0
    · rw [q, su_e, su_e, su_e, su_e, vB.1 _ (Int.le_refl _)]; exact ⟨h.1, h.2.1, h.2.2, hr, by decide⟩
    · rw [su_i q, su_i q, su_i q, su_i q]; exact vC i i0 (by omega)
  · have E := vE e e0 e1
    exact ⟨⟨E.1.1, (show ρ 9 e < ρ 2 0 + 1 by omega)⟩, E.2⟩
  · rw [l1, l2]
    have J := vJ i i0 i1
    exact ⟨J.1, ⟨J.2.1.1, (show ρ 18 i < ρ 2 0 + 1 by omega)⟩, J.2.2⟩
theorem MC_E {ρ : Sg} (hV : MC ρ) {c s t a : Int} (hc : 0 ≤ c ∧ c < ρ 2 0) (ht : 0 ≤ s ∧ s ≤ t ∧ t ≤ ρ 0 0) (ha : a = 101 ∨ (a = 114 ∧ t = ρ 0 0 ∧ cst ρ 114 (ρ 8 0).toNat ≤ 3)) (h8 : ρ 8 0 < 24) : MC (mkE ρ c s t a) := by
  obtain ⟨v0, v1, v2, v8, v16, v24, v39, vC, vE, vJ, vK, vB, vO⟩ := hV
  have l1 : lnS (mkE ρ c s t a) = lnS ρ := lnS_c rfl
  have l2 : amS (mkE ρ c s t a) = amS ρ := amS_c rfl
  refine ⟨v0, v1, v2, (show 0 ≤ ρ 8 0 + 1 ∧ ρ 8 0 + 1 ≤ 24 by omega), v16, v24, ⟨v39.1, ?_⟩, vC, (fun e e0 e1 => ?_), (by rw [l1, l2]; exact vJ), (fun k k0 k1 => ?_), ⟨vB.1, (fun e e0 => vB.2.1 e (by have e0 : ρ 8 0 + 1 ≤ e := e0; omega)), vB.2.2⟩, vO⟩
  · show cst (mkE ρ c s t a) 114 (ρ 8 0 + 1).toNat ≤ 4
    rw [cst_s _ _ v8.1, cst_g (σ := ρ) (ρ 8 0).toNat (fun e e0 e1 => ?_)]
    · show _ + (if su ρ 12 (ρ 8 0) a 12 (ρ 8 0) = 114 then 1 else 0) ≤ 4
      rw [su_e]
      split <;> omega
    · show su ρ 12 (ρ 8 0) a 12 e = _
      exact su_i (by omega)
  · have e1 : e < ρ 8 0 + 1 := e1
    show (0 ≤ su ρ 9 (ρ 8 0) c 9 e ∧ su ρ 9 (ρ 8 0) c 9 e < ρ 2 0) ∧ (0 ≤ su ρ 10 (ρ 8 0) s 10 e ∧ su ρ 10 (ρ 8 0) s 10 e ≤ su ρ 11 (ρ 8 0) t 11 e ∧ su ρ 11 (ρ 8 0) t 11 e ≤ ρ 0 0) ∧ (su ρ 12 (ρ 8 0) a 12 e = 114 ∨ su ρ 12 (ρ 8 0) a 12 e = 101 ∨ su ρ 12 (ρ 8 0) a 12 e = 102 ∨ su ρ 12 (ρ 8 0) a 12 e = 120) ∧ (su ρ 12 (ρ 8 0) a 12 e = 114 → su ρ 11 (ρ 8 0) t 11 e = ρ 0 0) ∧ (0 ≤ ρ 13 e ∧ ρ 13 e ≤ 180000)
    by_cases q : e = ρ 8 0
    · rw [q, su_e, su_e, su_e, su_e, vB.2.1 _ (Int.le_refl _)]
      exact ⟨hc, ht, by omega, by omega, by decide⟩
    · rw [su_i q, su_i q, su_i q, su_i q]
      exact vE e e0 (by omega)
  · have K := vK k k0 k1
    refine ⟨K.1, ⟨K.2.1.1, (show ρ 25 k < ρ 8 0 + 1 by omega)⟩, ?_, K.2.2.2⟩
    show su ρ 12 (ρ 8 0) a 12 (ρ 25 k) = 102
    rw [su_i (by omega)]
    exact K.2.2.1
theorem MC_state {ρ : Sg} (hV : MC ρ) {e v : Int} (hs : ρ 12 e = 114 ∨ ρ 12 e = 101) (hv : v = 101 ∨ v = 120) : MC (su ρ 12 e v) := by
  obtain ⟨v0, v1, v2, v8, v16, v24, v39, vC, vE, vJ, vK, vB, vO⟩ := hV
  have l1 : lnS (su ρ 12 e v) = lnS ρ := lnS_c rfl
  have l2 : amS (su ρ 12 e v) = amS ρ := amS_c rfl
  refine ⟨v0, v1, v2, v8, v16, v24, ⟨v39.1, Int.le_trans (cst_le (fun x hx => ?_) _) v39.2⟩, vC, (fun x x0 x1 => ?_), (by rw [l1, l2]; exact vJ), (fun k k0 k1 => ?_), vB, vO⟩
  · have hx : su ρ 12 e v 12 x = 114 := hx
    by_cases q : x = e
    · rw [q, su_e] at hx; omega
    · rw [su_i q] at hx; exact hx
  · have E := vE x x0 x1
    refine ⟨E.1, E.2.1, ?_, ?_, E.2.2.2.2⟩
    · show su ρ 12 e v 12 x = 114 ∨ su ρ 12 e v 12 x = 101 ∨ su ρ 12 e v 12 x = 102 ∨ su ρ 12 e v 12 x = 120
      by_cases q : x = e
      · rw [q, su_e]; omega
      · rw [su_i q]; exact E.2.2.1
    · show su ρ 12 e v 12 x = 114 → _
      by_cases q : x = e
      · rw [q, su_e]; intro z; omega
      · rw [su_i q]; exact E.2.2.2.1
  · have K := vK k k0 k1
    refine ⟨K.1, K.2.1, ?_, K.2.2.2⟩
    show su ρ 12 e v 12 (ρ 25 k) = 102
    rw [su_i (fun z => by rw [z] at K; omega)]
    exact K.2.2.1
theorem MC_from {ρ : Sg} (hV : MC ρ) {e v : Int} (h : 0 ≤ v ∧ v ≤ ρ 11 e) : MC (su ρ 10 e v) := by
  obtain ⟨v0, v1, v2, v8, v16, v24, v39, vC, vE, vJ, vK, vB, vO⟩ := hV
  have l1 : lnS (su ρ 10 e v) = lnS ρ := lnS_c rfl
  have l2 : amS (su ρ 10 e v) = amS ρ := amS_c rfl
  have l3 : cst (su ρ 10 e v) = cst ρ := cst_c rfl
  refine ⟨v0, v1, v2, v8, v16, v24, (by rw [l3]; exact v39), vC, (fun x x0 x1 => ?_), (by rw [l1, l2]; exact vJ), vK, vB, vO⟩
  have E := vE x x0 x1
  refine ⟨E.1, ?_, E.2.2⟩
  show 0 ≤ su ρ 10 e v 10 x ∧ su ρ 10 e v 10 x ≤ ρ 11 x ∧ ρ 11 x ≤ ρ 0 0
  by_cases q : x = e
  · rw [q, su_e, ← q]
    rw [← q] at h
    exact ⟨h.1, h.2, E.2.1.2.2⟩
  · rw [su_i q]; exact E.2.1
theorem MC_to {ρ : Sg} (hV : MC ρ) {e v : Int} (hs : ρ 12 e = 101) (h : ρ 10 e ≤ v ∧ v ≤ ρ 0 0) : MC (su ρ 11 e v) := by
  obtain ⟨v0, v1, v2, v8, v16, v24, v39, vC, vE, vJ, vK, vB, vO⟩ := hV
  have l1 : lnS (su ρ 11 e v) = lnS ρ := lnS_c rfl
  have l2 : amS (su ρ 11 e v) = amS ρ := amS_c rfl
  have l3 : cst (su ρ 11 e v) = cst ρ := cst_c rfl
  refine ⟨v0, v1, v2, v8, v16, v24, (by rw [l3]; exact v39), vC, (fun x x0 x1 => ?_), (by rw [l1, l2]; exact vJ), vK, vB, vO⟩
  have E := vE x x0 x1
  refine ⟨E.1, ?_, E.2.2.1, ?_, E.2.2.2.2⟩
  · show 0 ≤ ρ 10 x ∧ ρ 10 x ≤ su ρ 11 e v 11 x ∧ su ρ 11 e v 11 x ≤ ρ 0 0
    by_cases q : x = e
    · rw [q, su_e, ← q]
      rw [← q] at h
      exact ⟨E.2.1.1, h.1, h.2⟩
    · rw [su_i q]; exact E.2.1
  · show ρ 12 x = 114 → su ρ 11 e v 11 x = ρ 0 0
    by_cases q : x = e
    · intro z; rw [q] at z; omega
    · rw [su_i q]; exact E.2.2.2.1
