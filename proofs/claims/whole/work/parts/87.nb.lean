/-! TOTALS: multiples of 2^-29 -/
theorem pw {q : Int} (h : -29 ≤ q) : 2 ^ (q + 149).toNat = 2 ^ (q + 29).toNat * 2 ^ 120 := by
  rw [← Nat.pow_add]
  congr 1
  omega
theorem grid_round {s s' : Bool} {N c : Nat} {q : Int} (h : FP.Core.roundRatio FP.Core.b32 s N 1 (-29) = .fin s' c q) : s' = s ∧ (N ≠ 0 → c ≠ 0) ∧ ∃ M : Nat, c * 2 ^ (q + 149).toNat = M * 2 ^ 120 := by
  have hs : s' = s := by
    have := FP.Core.sgn_roundRatio FP.Core.b32 s N 1 (-29)
    rw [h] at this
    exact this
  refine ⟨hs, ?_⟩
  by_cases z : N = 0
  · subst z
    have h : FP.Core.Datum.fin s 0 (-149) = .fin s' c q := h
    injection h with h1 h2 h3
    exact ⟨fun w => absurd rfl w, 0, by rw [← h2, Nat.zero_mul, Nat.zero_mul]⟩
  by_cases w : N < 16777216
  · obtain ⟨k, hk1, hk2⟩ : ∃ k : Nat, 2 ^ k ≤ N ∧ N < 2 ^ (k + 1) := ⟨N.log2, Nat.log2_self_le z, Nat.lt_log2_self⟩
    have hk : k ≤ 23 := by
      by_cases v : k ≤ 23
      · exact v
      · have := Nat.pow_le_pow_right (n := 2) (by decide) (show 24 ≤ k by omega)
        have : (2 : Nat) ^ 24 = 16777216 := by decide
        omega
    obtain ⟨j, hj⟩ : ∃ j, k + j = 23 := ⟨23 - k, by omega⟩
    have p1 : (2 : Nat) ^ k * 2 ^ j = 8388608 := by rw [← Nat.pow_add, hj]
    have p2 : (2 : Nat) ^ (k + 1) * 2 ^ j = 16777216 := by rw [← Nat.pow_add, show k + 1 + j = 24 by omega]
    have c1 : 8388608 ≤ N * 2 ^ j := by rw [← p1]; exact Nat.mul_le_mul_right _ hk1
    have c2 : N * 2 ^ j < 16777216 := by rw [← p2]; exact Nat.mul_lt_mul_of_pos_right hk2 (Nat.two_pow_pos j)
    have e : FP.Core.roundRatio FP.Core.b32 s N 1 (-29) = .fin s (N * 2 ^ j) (-29 - (j : Int)) := by
      refine FP.Core.roundRatio_exact FP.Core.good_b32 (by decide) (fits32 ⟨⟨c1, c2⟩, by omega⟩) ?_
      rw [show (-29 - (-29 - (j : Int))).toNat = j by omega, show (-29 - (j : Int) - -29).toNat = 0 by omega, Nat.pow_zero, Nat.mul_one, Nat.mul_one]
    rw [e] at h
    injection h with h1 h2 h3
    refine ⟨fun _ => by omega, N, ?_⟩
    rw [← h2, ← h3, Nat.mul_assoc, ← Nat.pow_add]
    congr 2
    omega
  · have hq : -28 ≤ FP.Core.quantum FP.Core.b32 N 1 (-29) := by
      by_cases v : -28 ≤ FP.Core.quantum FP.Core.b32 N 1 (-29)
      · exact v
      · have b := FP.Core.quantum_below (f := FP.Core.b32) (A := N) (B := 1) (by omega) (by decide) (-29)
        have b := FP.Core.below_mono (b := 24) (show FP.Core.quantum FP.Core.b32 N 1 (-29) - -29 + ((24 : Nat) : Int) ≤ 24 by omega) b
        have b : N * 1 < 1 * 16777216 := b
        omega
    have hf := FP.Core.roundRatio_fits FP.Core.good_b32 s N (B := 1) (by decide) (-29)
    have key : -29 < q := by
      unfold FP.Core.roundRatio at h
      rw [if_neg z] at h
      unfold FP.Core.roundAt FP.Core.settle FP.Core.bound at h
      generalize FP.Core.quantum FP.Core.b32 N 1 (-29) = q0 at h hq
      split at h
      · split at h
        · injection h with h1 h2 h3; omega
        · cases h
      · split at h
        · injection h with h1 h2 h3; omega
        · cases h
    rw [h] at hf
    have hf : c < 2 ^ 24 ∧ (-149 : Int) ≤ q ∧ q ≤ 104 ∧ (q = -149 ∨ 8388608 ≤ c) := hf
    refine ⟨fun _ => by omega, c * 2 ^ (q + 29).toNat, ?_⟩
    rw [pw (by omega), Nat.mul_assoc]
/-- a multiple of 2^-29, not -0 -/
def GR (x : UInt32) (c M : Nat) : Prop := ∃ (s : Bool) (q : Int), FP.Core.val32 x = .fin s c q ∧ c * 2 ^ (q + 149).toNat = M * 2 ^ 120
theorem fit_r {x : UInt32} {s : Bool} {c : Nat} {q : Int} (h : FP.Core.val32 x = .fin s c q) : c < 16777216 ∧ -149 ≤ q ∧ q ≤ 104 ∧ (q = -149 ∨ 8388608 ≤ c) := by
  have := FP.Core.val32_fits x
  rw [h] at this
  have e : (2 : Nat) ^ 24 = 16777216 := by decide
  have this : c < 2 ^ 24 ∧ (-149 : Int) ≤ q ∧ q ≤ 104 ∧ (q = -149 ∨ 8388608 ≤ c) := this
  rw [e] at this
  exact this
theorem GR_add {x y : UInt32} {s t : Bool} {c d M1 M2 : Nat} {q r : Int} (hx : FP.Core.val32 x = .fin s c q) (hy : FP.Core.val32 y = .fin t d r) (m1 : c * 2 ^ (q + 149).toNat = M1 * 2 ^ 120) (m2 : d * 2 ^ (r + 149).toNat = M2 * 2 ^ 120) (hz : c = 0 → s = false) (hf : MG 255 (FP.fadd x y)) : ∃ (s' : Bool) (c' M' : Nat) (q' : Int), FP.Core.val32 (FP.fadd x y) = .fin s' c' q' ∧ c' * 2 ^ (q' + 149).toNat = M' * 2 ^ 120 ∧ (c' = 0 → s' = false) := by
  have f1 := fit_r hx
  have f2 := fit_r hy
  obtain ⟨m, hm⟩ : ∃ z, z = min q r := ⟨_, rfl⟩
  obtain ⟨v, hv⟩ : ∃ z, z = FP.Core.sumUnits s c q t d r m := ⟨_, rfl⟩
  have hvK : v * ((2 ^ (m + 149).toNat : Nat) : Int) = (FP.Core.signed s M1 + FP.Core.signed t M2) * ((2 ^ 120 : Nat) : Int) := by
    rw [hv]
    show (FP.Core.signed s (c * 2 ^ (q - m).toNat) + FP.Core.signed t (d * 2 ^ (r - m).toNat)) * _ = _
    rw [Int.add_mul, Int.add_mul, ← FP.Core.signed_mul, ← FP.Core.signed_mul, ← FP.Core.signed_mul, ← FP.Core.signed_mul, Nat.mul_assoc, Nat.mul_assoc, ← Nat.pow_add, ← Nat.pow_add, show (q - m).toNat + (m + 149).toNat = (q + 149).toNat by omega, show (r - m).toNat + (m + 149).toNat = (r + 149).toNat by omega, m1, m2]
  obtain ⟨V, hV⟩ : ∃ z, z = FP.Core.signed s M1 + FP.Core.signed t M2 := ⟨_, rfl⟩
  rw [← hV] at hvK
  have hK : (0 : Int) < ((2 ^ (m + 149).toNat : Nat) : Int) := by have := Nat.two_pow_pos (m + 149).toNat; omega
  have hA : v.natAbs * 2 ^ (m + 149).toNat = V.natAbs * 2 ^ 120 := by
    have := congrArg Int.natAbs hvK
    rw [Int.natAbs_mul, Int.natAbs_mul, Int.natAbs_natCast, Int.natAbs_natCast] at this
    exact this
  have e : FP.Core.val32 (FP.fadd x y) = FP.Core.roundRatio FP.Core.b32 (FP.Core.sumSign s t v) V.natAbs 1 (-29) := by
    have e : FP.Core.val32 (FP.fadd x y) = FP.Core.round FP.Core.b32 (FP.Core.exactSum (FP.Core.val32 x) (FP.Core.val32 y)) := FP.Core.val32_fadd _ _
    rw [e, hx, hy]
    show FP.Core.roundRatio FP.Core.b32 (FP.Core.sumSign s t (FP.Core.sumUnits s c q t d r (min q r))) (FP.Core.sumUnits s c q t d r (min q r)).natAbs 1 (min q r) = _
    rw [← hm, ← hv]
    refine FP.Core.roundRatio_congr (by decide) (by decide) ?_
    rw [Nat.mul_one, Nat.mul_one]
    by_cases z : -29 ≤ m
    · rw [show (-29 - m).toNat = 0 by omega, Nat.pow_zero, Nat.mul_one, show (m - -29).toNat = (m + 29).toNat by omega]
      rw [pw z, ← Nat.mul_assoc] at hA
      exact Nat.eq_of_mul_eq_mul_right (Nat.two_pow_pos 120) hA
    · rw [show (m - -29).toNat = 0 by omega, Nat.pow_zero, Nat.mul_one]
      have p : (2 : Nat) ^ 120 = 2 ^ (-29 - m).toNat * 2 ^ (m + 149).toNat := by rw [← Nat.pow_add]; congr 1; omega
      rw [p, ← Nat.mul_assoc] at hA
      exact Nat.eq_of_mul_eq_mul_right (Nat.two_pow_pos _) hA
  obtain ⟨s', c', q', h3⟩ := FP.Core.fin_of_lt32 (a := FP.fadd x y) hf (Nat.le_refl _)
  obtain ⟨g1, g2, M', g3⟩ := grid_round (e.symm.trans h3)
  refine ⟨s', c', M', q', h3, g3, fun z => ?_⟩
  have V0 : V.natAbs = 0 := by
    by_cases w : V.natAbs = 0
    · exact w
    · exact absurd z (g2 w)
  have v0 : v = 0 := by
    have : V = 0 := by omega
    rw [this, Int.zero_mul] at hvK
    rcases Int.mul_eq_zero.mp hvK with w | w
    · exact w
    · omega
  rw [g1, v0]
  show (s && t) = false
  by_cases w : c = 0
  · rw [hz w]; rfl
  · cases s
    · rfl
    · cases t
      · rfl
      · exfalso
        have : V = -(M1 : Int) + -(M2 : Int) := hV
        have M10 : M1 = 0 := by omega
        rw [M10, Nat.zero_mul] at m1
        have := Nat.mul_pos (show 0 < c by omega) (Nat.two_pow_pos (q + 149).toNat)
        omega
/-- an amount -/
theorem GR_amt {z r : Int} (hz : -100000 ≤ z ∧ z ≤ 100000) (hr : 0 ≤ r ∧ r ≤ 50000) : ∃ (s' : Bool) (c' M' : Nat) (q' : Int), FP.Core.val32 (amt z r) = .fin s' c' q' ∧ c' * 2 ^ (q' + 149).toNat = M' * 2 ^ 120 := by
  have ez := iI_toInt (z := z) (by omega)
  have er := iI_toInt (z := r) (by omega)
  have wz : FP.Core.Whole z (FP.Core.val32 (FP.i2f (iI z))) := by
    have := FP.Core.i2f_int (a := iI z) (by rw [ez]; show z.natAbs ≤ 16777216; omega)
    rw [ez] at this
    exact this
  have wr : FP.Core.Whole r (FP.Core.val32 (FP.i2f (iI r))) := by
    have := FP.Core.i2f_int (a := iI r) (by rw [er]; show r.natAbs ≤ 16777216; omega)
    rw [er] at this
    exact this
  have wp := FP.Core.whole_product wz wr
  have k60 : FP.Core.val32 1114636288 = .fin false 15728640 (-18) := by decide +kernel
  have hm1 := mg_mul (z := z) (r := r) (by omega) (by omega)
  have hm2 := mg_amt (z := z) (r := r) (by omega) (by omega)
  obtain ⟨P, hP⟩ : ∃ y, y = FP.fmul (FP.i2f (iI z)) (FP.i2f (iI r)) := ⟨_, rfl⟩
  have eP : FP.Core.val32 P = FP.Core.round FP.Core.b32 (FP.Core.exactProduct (FP.Core.val32 (FP.i2f (iI z))) (FP.Core.val32 (FP.i2f (iI r)))) := by rw [hP]; exact FP.Core.val32_fmul _ _
  have eQ : FP.Core.val32 (amt z r) = FP.Core.quotient FP.Core.b32 (FP.Core.val32 P) (FP.Core.val32 1114636288) := by rw [hP]; exact FP.Core.val32_fdiv _ _
  obtain ⟨s1, A, e, hD⟩ : ∃ s A e, FP.Core.exactProduct (FP.Core.val32 (FP.i2f (iI z))) (FP.Core.val32 (FP.i2f (iI r))) = .fin s A e := by
    cases h : FP.Core.exactProduct (FP.Core.val32 (FP.i2f (iI z))) (FP.Core.val32 (FP.i2f (iI r))) with
    | nan => rw [h] at wp; exact wp.elim
    | inf s => rw [h] at wp; exact wp.elim
    | fin s A e => exact ⟨s, A, e, rfl⟩
  rw [hD] at wp eP
  have eP : FP.Core.val32 P = FP.Core.roundRatio FP.Core.b32 s1 A 1 e := eP
  obtain ⟨sP, cP, qP, vP⟩ := FP.Core.fin_of_lt32 (a := P) (K := 255) (by rw [hP]; exact hm1.le (by decide)) (Nat.le_refl _)
  obtain ⟨sQ, cQ, qQ, vQ⟩ := FP.Core.fin_of_lt32 (a := amt z r) (K := 255) (hm2.le (by decide)) (Nat.le_refl _)
  rw [vP, k60] at eQ
  have fP := fit_r vP
  have fQ := fit_r vQ
  have eQ : FP.Core.val32 (amt z r) = FP.Core.roundRatio FP.Core.b32 (sP != false) cP 15728640 (qP - -18) := by
    rw [eQ]
    exact (if_neg (show ¬ ((15728640 : Nat) = 0) by decide) : (if (15728640 : Nat) = 0 then (if cP = 0 then FP.Core.Datum.nan else .inf (sP != false)) else FP.Core.roundRatio FP.Core.b32 (sP != false) cP 15728640 (qP - -18)) = FP.Core.roundRatio FP.Core.b32 (sP != false) cP 15728640 (qP - -18))
  by_cases w : cP = 0
  · rw [w] at eQ
    have eQ : FP.Core.val32 (amt z r) = .fin (sP != false) 0 (-149) := eQ
    exact ⟨_, 0, 0, _, eQ, by rw [Nat.zero_mul, Nat.zero_mul]⟩
  · have A0 : A ≠ 0 := fun a0 => by
      rw [a0, vP] at eP
      have eP : FP.Core.Datum.fin sP cP qP = .fin s1 0 (-149) := eP
      injection eP with i1 i2 i3
      exact w i2
    have i0 : z * r ≠ 0 := fun h => A0 ((FP.Core.whole_zero wp).mpr h)
    have wn := FP.Core.whole_natAbs wp
    have i1 : 1 ≤ (z * r).natAbs := by omega
    have g1 := FP.Core.zmag_roundRatio_ge FP.Core.good_b32 (s := s1) (A := A) (B := 1) (e := e) (e0 := min (-149) e) (V := .fin false 8388608 (-23)) (by decide) (fits32 ⟨by omega, by omega⟩) (by rw [FP.Core.qmin_b32]; omega) (by omega) (by
      rw [FP.Core.qmin_b32]
      show 8388608 * 2 ^ (-23 - (FP.Core.b32).qmin).toNat * 2 ^ (-149 - min (-149) e).toNat * 1 ≤ A * 2 ^ (e - min (-149) e).toNat
      rw [FP.Core.qmin_b32, Nat.mul_one]
      have l : 8388608 * 2 ^ (-23 - (-149 : Int)).toNat * 2 ^ (-149 - min (-149) e).toNat = 2 ^ (-(min (-149) e)).toNat := by
        show 2 ^ 23 * 2 ^ (-23 - (-149 : Int)).toNat * 2 ^ (-149 - min (-149) e).toNat = _
        rw [← Nat.pow_add, ← Nat.pow_add]
        congr 1
        omega
      rw [l]
      by_cases v : 0 ≤ e
      · rw [show (-e).toNat = 0 by omega, Nat.pow_zero, Nat.mul_one] at wn
        rw [show (e - min (-149) e).toNat = e.toNat + (-(min (-149) e)).toNat by omega, Nat.pow_add, ← Nat.mul_assoc, wn]
        exact Nat.le_mul_of_pos_left _ i1
      · rw [show e.toNat = 0 by omega, Nat.pow_zero, Nat.mul_one] at wn
        rw [wn, show (-(min (-149) e)).toNat = (-e).toNat + (e - min (-149) e).toNat by omega, Nat.pow_add, Nat.mul_assoc]
        exact Nat.le_mul_of_pos_left _ i1)
    rw [← eP, vP] at g1
    have g1 : 8388608 * 2 ^ (-23 - (FP.Core.b32).qmin).toNat ≤ cP * 2 ^ (qP - (FP.Core.b32).qmin).toNat := g1
    rw [FP.Core.qmin_b32] at g1
    have g2 := FP.Core.zmag_roundRatio_ge FP.Core.good_b32 (s := (sP != false)) (A := cP) (B := 15728640) (e := qP - -18) (e0 := -149) (V := .fin false 8388608 (-29)) (by decide) (fits32 ⟨by omega, by omega⟩) (by rw [FP.Core.qmin_b32]; omega) (by omega) (by
      rw [FP.Core.qmin_b32]
      show 8388608 * 2 ^ (-29 - (FP.Core.b32).qmin).toNat * 2 ^ (-149 - -149 : Int).toNat * 15728640 ≤ cP * 2 ^ (qP - -18 - -149).toNat
      rw [FP.Core.qmin_b32, show (-149 - -149 : Int).toNat = 0 by decide, Nat.pow_zero, Nat.mul_one, show (qP - -18 - -149).toNat = (qP - -149).toNat + 18 by omega, Nat.pow_add, ← Nat.mul_assoc]
      have h := Nat.mul_le_mul_right (2 ^ 18) g1
      refine Nat.le_trans ?_ h
      decide)
    rw [← eQ, vQ] at g2
    have g2 : 8388608 * 2 ^ (-29 - (FP.Core.b32).qmin).toNat ≤ cQ * 2 ^ (qQ - (FP.Core.b32).qmin).toNat := g2
    rw [FP.Core.qmin_b32] at g2
    have hq : -29 ≤ qQ := by
      by_cases v : -29 ≤ qQ
      · exact v
      · exfalso
        have a1 := Nat.pow_le_pow_right (n := 2) (by decide) (show (qQ - -149).toNat ≤ 119 by omega)
        have a2 := Nat.mul_le_mul (show cQ ≤ 16777215 by omega) a1
        exact absurd (Nat.le_trans g2 a2) (by decide)
    refine ⟨sQ, cQ, cQ * 2 ^ (qQ + 29).toNat, qQ, vQ, ?_⟩
    rw [pw hq, Nat.mul_assoc]
theorem GR_tot {r : Int} (hr : 0 ≤ r ∧ r ≤ 50000) : ∀ (n : Nat) (L : List Ln), L.length = n → LB L → n ≤ 40 → ∃ (s' : Bool) (c' M' : Nat) (q' : Int), FP.Core.val32 (totL r L) = .fin s' c' q' ∧ c' * 2 ^ (q' + 149).toNat = M' * 2 ^ 120 ∧ (c' = 0 → s' = false)
  | 0, L, h, _, _ => by
    rw [List.length_eq_zero_iff.mp h]
    exact ⟨false, 0, 0, -149, (by decide +kernel : FP.Core.val32 0 = .fin false 0 (-149)), by rw [Nat.zero_mul, Nat.zero_mul], fun _ => rfl⟩
  | n + 1, L, h, hB, hn => by
    have hne : L ≠ [] := fun z => by rw [z] at h; simp at h
    have e := List.dropLast_concat_getLast hne
    have hl : L.dropLast.length = n := by rw [List.length_dropLast]; omega
    have hB1 : LB L.dropLast := fun x hx => hB x (List.dropLast_subset L hx)
    obtain ⟨s1, c1, M1, q1, a1, a2, a3⟩ := GR_tot hr n L.dropLast hl hB1 (by omega)
    have h2 := (hB (L.getLast hne) (List.getLast_mem hne)).2.2
    obtain ⟨s2, c2, M2, q2, b1, b2⟩ := GR_amt (z := (L.getLast hne).2.2) h2 hr
    have hm := totL_mg hr (n + 1) L h hB hn
    rw [← e, totL_push] at hm ⊢
    exact GR_add a1 b1 a2 b2 a3 (hm.le (by omega))
theorem NB_tot {r : Int} (hr : 0 ≤ r ∧ r ≤ 50000) {L : List Ln} (hB : LB L) (hn : L.length ≤ 40) : NB (totL r L) := by
  obtain ⟨s, c, M, q, a1, a2, a3⟩ := GR_tot hr L.length L rfl hB hn
  have hm := totL_mg hr L.length L rfl hB hn
  have hm := hm.le (show 159 + 2 * L.length ≤ 239 by omega)
  have f := fit_r a1
  obtain ⟨x, hx⟩ : ∃ z, z = totL r L := ⟨_, rfl⟩
  rw [← hx] at a1 hm ⊢
  by_cases z : c = 0
  · left
    rw [z, a3 z, show q = -149 by omega] at a1
    exact (FP.Core.val32_inj (by rw [show FP.Core.val32 0 = .fin false 0 (-149) by decide +kernel]; exact FP.Core.Datum.noConfusion) ((by decide +kernel : FP.Core.val32 0 = .fin false 0 (-149)).trans a1.symm)).symm
  · right
    refine ⟨?_, hm⟩
    have hM : M ≠ 0 := fun w => by
      rw [w, Nat.zero_mul] at a2
      have := Nat.mul_pos (show 0 < c by omega) (Nat.two_pow_pos (q + 149).toNat)
      omega
    have hq : -149 < q := by
      by_cases v : -149 < q
      · exact v
      · exfalso
        rw [show (q + 149).toNat = 0 by omega, Nat.pow_zero, Nat.mul_one] at a2
        have := Nat.mul_le_mul_right (2 ^ 120) (show 1 ≤ M by omega)
        rw [← a2] at this
        exact absurd (Nat.le_trans this (show c ≤ 16777215 by omega)) (by decide)
    by_cases v : 2 ^ 23 ≤ x.toNat % 2 ^ 31
    · exact v
    · exfalso
      have v : x.toNat % 2147483648 < 8388608 := by
        have : (2 : Nat) ^ 23 = 8388608 := by decide
        have : (2 : Nat) ^ 31 = 2147483648 := by decide
        omega
      have e : FP.Core.val32 x = (if x.toNat / 8388608 % 256 = 255 then (if x.toNat % 8388608 = 0 then FP.Core.Datum.inf (x.toNat / 8388608 / 256 % 2 == 1) else .nan) else if x.toNat / 8388608 % 256 = 0 then .fin (x.toNat / 8388608 / 256 % 2 == 1) (x.toNat % 8388608) (-149) else .fin (x.toNat / 8388608 / 256 % 2 == 1) (8388608 + x.toNat % 8388608) (-149 + (((x.toNat / 8388608 % 256 : Nat) : Int) - 1))) := rfl
      rw [if_neg (by omega), if_pos (by omega), a1] at e
      injection e with i1 i2 i3
      omega
