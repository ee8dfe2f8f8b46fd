/-! FLOATS BY SIGNIFICAND AND EXPONENT -/
/-- x is the normal number (-1)^s * c * 2^q -/
def FNm (x : UInt32) (s : Bool) (c : Nat) (q : Int) : Prop := FP.Core.val32 x = .fin s c q ∧ (8388608 ≤ c ∧ c < 16777216) ∧ (-149 ≤ q ∧ q ≤ 104)
theorem n32_v {x : UInt32} (h : FP.Core.val32 x ≠ .nan) : vf_n32 x := n32_of ((FP.Core.ne_nan32 x).mp h)
theorem FNm.n {x : UInt32} {s : Bool} {c : Nat} {q : Int} (h : FNm x s c q) : vf_n32 x := n32_v (by rw [h.1]; exact FP.Core.Datum.noConfusion)
theorem fits32 {s : Bool} {c : Nat} {q : Int} (h : (8388608 ≤ c ∧ c < 16777216) ∧ (-149 ≤ q ∧ q ≤ 104)) : FP.Core.fits FP.Core.b32 (.fin s c q) := by
  show c < 2 ^ 24 ∧ (-149 : Int) ≤ q ∧ q ≤ 104 ∧ (q = -149 ∨ 8388608 ≤ c)
  have : (2 : Nat) ^ 24 = 16777216 := by decide
  omega
theorem kv2 : FP.Core.val32 FP.fconst2 = .fin false 8388608 (-22) := by decide +kernel
theorem kv1 : FP.Core.val32 FP.fconst1 = .fin false 8388608 (-23) := by decide +kernel
theorem kv0 : FP.Core.val32 FP.fconst0 = .fin false 0 (-149) := by decide +kernel
theorem kvB : FP.Core.val32 1258291200 = .fin false 8388608 0 := by decide +kernel
theorem FNm.half {x : UInt32} {s : Bool} {c : Nat} {q : Int} (h : FNm x s c q) (hq : -148 ≤ q) : FNm (FP.fdiv x FP.fconst2) s c (q - 1) := by
  obtain ⟨h1, h2, h3⟩ := h
  refine ⟨?_, h2, by omega⟩
  have e : FP.Core.val32 (FP.fdiv x FP.fconst2) = FP.Core.quotient FP.Core.b32 (FP.Core.val32 x) (FP.Core.val32 FP.fconst2) := FP.Core.val32_fdiv _ _
  rw [e, h1, kv2]
  show (if 8388608 = 0 then (if c = 0 then FP.Core.Datum.nan else .inf (s != false)) else FP.Core.roundRatio FP.Core.b32 (s != false) c 8388608 (q - -22)) = _
  rw [if_neg (by decide), Bool.bne_false]
  refine FP.Core.roundRatio_exact FP.Core.good_b32 (by decide) (fits32 ⟨h2, by omega⟩) ?_
  rw [show (q - -22 - (q - 1)).toNat = 23 by omega, show (q - 1 - (q - -22)).toNat = 0 by omega]
  show c * 8388608 = c * 8388608 * 1
  rw [Nat.mul_one]
theorem FNm.dbl {x : UInt32} {s : Bool} {c : Nat} {q : Int} (h : FNm x s c q) (hq : q ≤ 103) : FNm (FP.fmul x FP.fconst2) s c (q + 1) := by
  obtain ⟨h1, h2, h3⟩ := h
  refine ⟨?_, h2, by omega⟩
  have e : FP.Core.val32 (FP.fmul x FP.fconst2) = FP.Core.round FP.Core.b32 (FP.Core.exactProduct (FP.Core.val32 x) (FP.Core.val32 FP.fconst2)) := FP.Core.val32_fmul _ _
  rw [e, h1, kv2]
  show FP.Core.roundRatio FP.Core.b32 (s != false) (c * 8388608) 1 (q + -22) = _
  rw [Bool.bne_false]
  refine FP.Core.roundRatio_exact FP.Core.good_b32 (by decide) (fits32 ⟨h2, by omega⟩) ?_
  rw [show (q + -22 - (q + 1)).toNat = 0 by omega, show (q + 1 - (q + -22)).toNat = 23 by omega]
  show c * 8388608 * 1 = c * 1 * 8388608
  rw [Nat.mul_one, Nat.mul_one]
theorem FNm.neg {x : UInt32} {s : Bool} {c : Nat} {q : Int} (h : FNm x s c q) : FNm (FP.fneg x) (!s) c q := by
  obtain ⟨h1, h2, h3⟩ := h
  refine ⟨?_, h2, h3⟩
  have e : FP.Core.val32 (FP.fneg x) = FP.Core.negate (FP.Core.val32 x) := FP.val32_fneg _
  rw [e, h1]
  rfl
theorem cmp_lt {a b : Int} {op : CmpOp} (h : a < b) : (Op.cmpValue (some (compare a b)) op).toInt = -1 := by
  have : compare a b = .lt := by simp only [compare, compareOfLessAndEq]; rw [if_pos h]
  rw [this]
  rfl
theorem cmp_ge {a b : Int} {op : CmpOp} (h : b ≤ a) : 0 ≤ (Op.cmpValue (some (compare a b)) op).toInt := by
  by_cases e : a = b
  · have : compare a b = .eq := by simp only [compare, compareOfLessAndEq]; rw [if_neg (by omega), if_pos e]
    rw [this]
    cases op <;> decide
  · have : compare a b = .gt := by simp only [compare, compareOfLessAndEq]; rw [if_neg (by omega), if_neg e]
    rw [this]
    cases op <;> decide
theorem cmp_gt {a b : Int} {op : CmpOp} (h : b < a) : (Op.cmpValue (some (compare a b)) op).toInt = 1 := by
  have : compare a b = .gt := by simp only [compare, compareOfLessAndEq]; rw [if_neg (by omega), if_neg (by omega)]
  rw [this]
  rfl
/-- against 2^(r + 23) -/
theorem FNm.cmp {x y : UInt32} {c : Nat} {q r : Int} {op : CmpOp} (h : FNm x false c q) (hy : FP.Core.val32 y = .fin false 8388608 r) : 0 ≤ (Op.cmpValue (FP.fcmp x y) op).toInt ↔ r ≤ q := by
  obtain ⟨h1, h2, h3⟩ := h
  have e : FP.fcmp x y = FP.Core.order (FP.Core.val32 x) (FP.Core.val32 y) := rfl
  rw [e, h1, hy]
  show 0 ≤ (Op.cmpValue (some (compare ((c * 2 ^ (q - min q r).toNat : Nat) : Int) ((8388608 * 2 ^ (r - min q r).toNat : Nat) : Int))) op).toInt ↔ r ≤ q
  by_cases z : r ≤ q
  · refine ⟨fun _ => z, fun _ => cmp_ge ?_⟩
    rw [show (r - min q r).toNat = 0 by omega, Nat.pow_zero, Nat.mul_one]
    have := Nat.one_le_two_pow (n := (q - min q r).toNat)
    have := Nat.mul_le_mul h2.1 this
    omega
  · refine ⟨fun w => ?_, fun w => absurd w z⟩
    exfalso
    rw [show (q - min q r).toNat = 0 by omega, Nat.pow_zero, Nat.mul_one, show (r - min q r).toNat = (r - q - 1).toNat + 1 by omega, Nat.pow_succ] at w
    have := Nat.one_le_two_pow (n := (r - q - 1).toNat)
    have h4 : 8388608 * (2 ^ (r - q - 1).toNat * 2) = 16777216 * 2 ^ (r - q - 1).toNat := by omega
    rw [h4] at w
    rw [cmp_lt (by omega)] at w
    exact absurd w (by decide)
theorem FNm.cmp0 {x : UInt32} {s : Bool} {c : Nat} {q : Int} {op : CmpOp} (h : FNm x s c q) : (Op.cmpValue (FP.fcmp x FP.fconst0) op).toInt = if s then -1 else 1 := by
  obtain ⟨h1, h2, h3⟩ := h
  have e : FP.fcmp x FP.fconst0 = FP.Core.order (FP.Core.val32 x) (FP.Core.val32 FP.fconst0) := rfl
  rw [e, h1, kv0]
  have := Nat.one_le_two_pow (n := (q - min q (-149)).toNat)
  have := Nat.mul_le_mul h2.1 this
  cases s
  · show (Op.cmpValue (some (compare ((c * 2 ^ (q - min q (-149)).toNat : Nat) : Int) ((0 * 2 ^ (-149 - min q (-149)).toNat : Nat) : Int))) op).toInt = 1
    rw [Nat.zero_mul]
    exact cmp_gt (by omega)
  · show (Op.cmpValue (some (compare (-((c * 2 ^ (q - min q (-149)).toNat : Nat) : Int)) ((0 * 2 ^ (-149 - min q (-149)).toNat : Nat) : Int))) op).toInt = -1
    rw [Nat.zero_mul]
    exact cmp_lt (by omega)
/-- d * 2^-23, for d of less than 24 digits -/
theorem frac_v {x : UInt32} {d : Nat} (hd : d < 8388608) (hx : FP.Core.val32 x = FP.Core.roundRatio FP.Core.b32 false d 1 (-23)) : vf_n32 x ∧ vf_n32 (FP.fmul x 1258291200) ∧ (FP.f2i (FP.fmul x 1258291200)).toInt = d := by
  have e : FP.Core.val32 (FP.fmul x 1258291200) = FP.Core.round FP.Core.b32 (FP.Core.exactProduct (FP.Core.val32 x) (FP.Core.val32 1258291200)) := FP.Core.val32_fmul _ _
  have key : ∃ c : Nat, ∃ q : Int, FP.Core.val32 x = .fin false c q ∧ FP.Core.Whole d (FP.Core.val32 (FP.fmul x 1258291200)) := by
    by_cases z : d = 0
    · subst z
      have h1 : FP.Core.val32 x = .fin false 0 (-149) := by rw [hx]; rfl
      refine ⟨_, _, h1, ?_⟩
      rw [e, h1, kvB]
      show FP.Core.Whole 0 (FP.Core.roundRatio FP.Core.b32 (false != false) (0 * 8388608) 1 (-149 + 0))
      rw [Nat.zero_mul]
      show FP.Core.signed false (0 * _) = 0 * _
      rw [Nat.zero_mul, Int.zero_mul]
      rfl
    · obtain ⟨k, hk1, hk2⟩ : ∃ k : Nat, 2 ^ k ≤ d ∧ d < 2 ^ (k + 1) := ⟨d.log2, Nat.log2_self_le z, Nat.lt_log2_self⟩
      have hk : k ≤ 22 := by
        by_cases w : k ≤ 22
        · exact w
        · have := Nat.pow_le_pow_right (n := 2) (by decide) (show 23 ≤ k by omega)
          have : (2 : Nat) ^ 23 = 8388608 := by decide
          omega
      obtain ⟨j, hj⟩ : ∃ j, k + j = 23 := ⟨23 - k, by omega⟩
      have p1 : (2 : Nat) ^ k * 2 ^ j = 8388608 := by rw [← Nat.pow_add, hj]
      have p2 : (2 : Nat) ^ (k + 1) * 2 ^ j = 16777216 := by rw [← Nat.pow_add, show k + 1 + j = 24 by omega]
      have c1 : 8388608 ≤ d * 2 ^ j := by rw [← p1]; exact Nat.mul_le_mul_right _ hk1
      have c2 : d * 2 ^ j < 16777216 := by rw [← p2]; exact Nat.mul_lt_mul_of_pos_right hk2 (Nat.two_pow_pos j)
      have h1 : FP.Core.val32 x = .fin false (d * 2 ^ j) (-23 - (j : Int)) := by
        rw [hx]
        refine FP.Core.roundRatio_exact FP.Core.good_b32 (by decide) (fits32 ⟨⟨c1, c2⟩, by omega⟩) ?_
        rw [show (-23 - (-23 - (j : Int))).toNat = j by omega, show (-23 - (j : Int) - -23).toNat = 0 by omega, Nat.pow_zero, Nat.mul_one, Nat.mul_one]
      refine ⟨_, _, h1, ?_⟩
      rw [e, h1, kvB]
      have h2 : FP.Core.roundRatio FP.Core.b32 (false != false) (d * 2 ^ j * 8388608) 1 (-23 - (j : Int) + 0) = .fin false (d * 2 ^ j) (-(j : Int)) := by
        refine FP.Core.roundRatio_exact FP.Core.good_b32 (by decide) (fits32 ⟨⟨c1, c2⟩, by omega⟩) ?_
        rw [show (-23 - (j : Int) + 0 - -(j : Int)).toNat = 0 by omega, show (-(j : Int) - (-23 - (j : Int) + 0)).toNat = 23 by omega]
        show d * 2 ^ j * 8388608 * 1 = d * 2 ^ j * 1 * 8388608
        rw [Nat.mul_one, Nat.mul_one]
      show FP.Core.Whole d (FP.Core.roundRatio FP.Core.b32 (false != false) (d * 2 ^ j * 8388608) 1 (-23 - (j : Int) + 0))
      rw [h2]
      show ((d * 2 ^ j * 2 ^ (-(j : Int)).toNat : Nat) : Int) = (d : Int) * ((2 ^ (- -(j : Int)).toNat : Nat) : Int)
      rw [show (-(j : Int)).toNat = 0 by omega, show (- -(j : Int)).toNat = j by omega, Nat.pow_zero, Nat.mul_one, Int.natCast_mul]
  obtain ⟨c, q, h1, h2⟩ := key
  refine ⟨n32_v (by rw [h1]; exact FP.Core.Datum.noConfusion), n32_v (fun z => by rw [z] at h2; exact h2), ?_⟩
  have hr : (iI (d : Int)).toInt = d := iI_toInt ⟨by omega, by omega⟩
  have := FP.Core.f2i_int (a := iI (d : Int)) (b := FP.fmul x 1258291200) (by rw [hr]; exact h2)
  show (FP.Core.f2i (FP.fmul x 1258291200)).toInt = d
  rw [this, hr]
theorem FNm.frac {x : UInt32} {c : Nat} (h : FNm x false c (-23)) : vf_n32 (FP.fsub x FP.fconst1) ∧ vf_n32 (FP.fmul (FP.fsub x FP.fconst1) 1258291200) ∧ (FP.f2i (FP.fmul (FP.fsub x FP.fconst1) 1258291200)).toInt = (c : Int) - 8388608 := by
  obtain ⟨h1, h2, h3⟩ := h
  have e : FP.Core.val32 (FP.fsub x FP.fconst1) = FP.Core.round FP.Core.b32 (FP.Core.exactSum (FP.Core.val32 x) (FP.Core.negate (FP.Core.val32 FP.fconst1))) := FP.Core.val32_fsub _ _
  obtain ⟨d, hd⟩ : ∃ d : Nat, c = 8388608 + d := ⟨c - 8388608, by omega⟩
  have k := frac_v (x := FP.fsub x FP.fconst1) (d := d) (by omega) (by
    rw [e, h1, kv1]
    show FP.Core.round FP.Core.b32 (.fin (FP.Core.sumSign false true (((c * 2 ^ 0 : Nat) : Int) + -((8388608 * 2 ^ 0 : Nat) : Int))) (((c * 2 ^ 0 : Nat) : Int) + -((8388608 * 2 ^ 0 : Nat) : Int)).natAbs (-23)) = _
    rw [Nat.pow_zero, Nat.mul_one, Nat.mul_one, hd, show (((8388608 + d : Nat) : Int) + -((8388608 : Nat) : Int)) = (d : Int) by omega]
    have s0 : FP.Core.sumSign false true (d : Int) = false := by
      unfold FP.Core.sumSign
      by_cases z : (d : Int) = 0
      · rw [if_pos z]; rfl
      · rw [if_neg z]; exact decide_eq_false (by omega)
    rw [s0]
    rfl)
  refine ⟨k.1, k.2.1, ?_⟩
  rw [k.2.2, hd]
  omega
/-- a normal number by its bits -/
theorem FNm_of {x : UInt32} (h0 : 8388608 ≤ x.toNat % 2147483648) (h1 : x.toNat % 2147483648 < 2139095040) : FNm x (x.toNat / 8388608 / 256 % 2 == 1) (8388608 + x.toNat % 8388608) (-149 + (((x.toNat / 8388608 % 256 : Nat) : Int) - 1)) := by
  have e : FP.Core.val32 x = (if x.toNat / 8388608 % 256 = 255 then (if x.toNat % 8388608 = 0 then FP.Core.Datum.inf (x.toNat / 8388608 / 256 % 2 == 1) else .nan) else if x.toNat / 8388608 % 256 = 0 then .fin (x.toNat / 8388608 / 256 % 2 == 1) (x.toNat % 8388608) (-149) else .fin (x.toNat / 8388608 / 256 % 2 == 1) (8388608 + x.toNat % 8388608) (-149 + (((x.toNat / 8388608 % 256 : Nat) : Int) - 1))) := rfl
  refine ⟨?_, by omega, by omega⟩
  rw [e, if_neg (by omega), if_neg (by omega)]
theorem fi_nat (x : UInt32) : fi x = if x.toNat < 2147483648 then (x.toNat : Int) else x.toNat - 4294967296 := by
  show x.toInt32.toInt = _
  have h : x.toInt32.toInt = x.toBitVec.toInt := rfl
  rw [h, BitVec.toInt_eq_toNat_cond]
  show (if 2 * x.toNat < 2 ^ 32 then (x.toNat : Int) else (x.toNat : Int) - ((2 ^ 32 : Nat) : Int)) = _
  have := x.toNat_lt
  by_cases z : x.toNat < 2147483648
  · rw [if_pos z, if_pos (by omega)]
  · rw [if_neg z, if_neg (by omega)]
    omega
theorem or_nat {a d A : Int} {i k D : Nat} (ha : (a % 4294967296).toNat = 2 ^ i * k) (hd : (d % 4294967296).toNat = D) (hD : D < 2 ^ i) (hs : (A % 4294967296).toNat = 2 ^ i * k + D) : iI a ||| iI d = iI A := by
  apply Int32.toBitVec_inj.mp
  show BitVec.ofInt 32 a ||| BitVec.ofInt 32 d = BitVec.ofInt 32 A
  apply BitVec.eq_of_toNat_eq
  rw [BitVec.toNat_or, BitVec.toNat_ofInt, BitVec.toNat_ofInt, BitVec.toNat_ofInt]
  show (a % 4294967296).toNat ||| (d % 4294967296).toNat = (A % 4294967296).toNat
  rw [ha, hd, hs]
  exact (Nat.two_pow_add_eq_or_of_lt hD k).symm
theorem or_23 {k d : Int} (hk : -256 ≤ k ∧ k < 256) (hd : 0 ≤ d ∧ d < 8388608) : iI (k * 8388608) ||| iI d = iI (k * 8388608 + d) :=
  or_nat (i := 23) (k := (k % 512).toNat) (D := d.toNat) (by show _ = 8388608 * _; omega) (by omega) (by show _ < 8388608; omega) (by show _ = 8388608 * _ + _; omega)
theorem or_31 {a d : Int} (ha : a = 0 ∨ a = -2147483648) (hd : 0 ≤ d ∧ d < 2147483648) : iI a ||| iI d = iI (a + d) :=
  or_nat (i := 31) (k := if a = 0 then 0 else 1) (D := d.toNat) (by rcases ha with rfl | rfl <;> rfl) (by omega) (by show _ < 2147483648; omega) (by show _ = 2147483648 * _ + _; rcases ha with rfl | rfl <;> (try rw [if_pos rfl]) <;> (try rw [if_neg (by decide)]) <;> omega)
theorem shl_23 {x : Int} (h : 0 ≤ x ∧ x < 256) : iI x <<< (iI 23 &&& 31) = iI (x * 8388608) := by
  obtain ⟨n, rfl⟩ : ∃ n : Nat, x = n := ⟨x.toNat, by omega⟩
  have : ∀ n : Fin 256, iI ((n.val : Nat) : Int) <<< (iI 23 &&& 31) = iI (((n.val : Nat) : Int) * 8388608) := by decide +kernel
  exact this ⟨n, by omega⟩
