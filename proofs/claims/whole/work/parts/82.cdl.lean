/-! DOUBLES BY SIGNIFICAND AND EXPONENT -/
/-- x is the normal number (-1)^s * c * 2^q -/
def DNm (x : UInt64) (s : Bool) (c : Nat) (q : Int) : Prop := FP.Core.val64 x = .fin s c q ∧ (4503599627370496 ≤ c ∧ c < 9007199254740992) ∧ (-1074 ≤ q ∧ q ≤ 971)
theorem n64_v {x : UInt64} (h : FP.Core.val64 x ≠ .nan) : vf_n64 x := n64_of ((FP.Core.ne_nan x).mp h)
theorem DNm.n {x : UInt64} {s : Bool} {c : Nat} {q : Int} (h : DNm x s c q) : vf_n64 x := n64_v (by rw [h.1]; exact FP.Core.Datum.noConfusion)
theorem fits64 {s : Bool} {c : Nat} {q : Int} (h : (4503599627370496 ≤ c ∧ c < 9007199254740992) ∧ (-1074 ≤ q ∧ q ≤ 971)) : FP.Core.fits FP.Core.b64 (.fin s c q) := by
  show c < 2 ^ 53 ∧ (-1074 : Int) ≤ q ∧ q ≤ 971 ∧ (q = -1074 ∨ 4503599627370496 ≤ c)
  have : (2 : Nat) ^ 53 = 9007199254740992 := by decide
  omega
theorem kd2 : FP.Core.val64 (4611686018427387904 : UInt64) = .fin false 4503599627370496 (-51) := by decide +kernel
theorem kd1 : FP.Core.val64 FP.dconst1 = .fin false 4503599627370496 (-52) := by decide +kernel
theorem kd0 : FP.Core.val64 FP.dconst0 = .fin false 0 (-1074) := by decide +kernel
theorem kdB : FP.Core.val64 4841369599423283200 = .fin false 4503599627370496 0 := by decide +kernel
theorem DNm.half {x : UInt64} {s : Bool} {c : Nat} {q : Int} (h : DNm x s c q) (hq : -1073 ≤ q) : DNm (FP.ddiv x (4611686018427387904 : UInt64)) s c (q - 1) := by
  obtain ⟨h1, h2, h3⟩ := h
  refine ⟨?_, h2, by omega⟩
  have e : FP.Core.val64 (FP.ddiv x (4611686018427387904 : UInt64)) = FP.Core.quotient FP.Core.b64 (FP.Core.val64 x) (FP.Core.val64 (4611686018427387904 : UInt64)) := FP.Core.val64_ddiv _ _
  rw [e, h1, kd2]
  show (if 4503599627370496 = 0 then (if c = 0 then FP.Core.Datum.nan else .inf (s != false)) else FP.Core.roundRatio FP.Core.b64 (s != false) c 4503599627370496 (q - -51)) = _
  rw [if_neg (by decide), Bool.bne_false]
  refine FP.Core.roundRatio_exact FP.Core.good_b64 (by decide) (fits64 ⟨h2, by omega⟩) ?_
  rw [show (q - -51 - (q - 1)).toNat = 52 by omega, show (q - 1 - (q - -51)).toNat = 0 by omega]
  show c * 4503599627370496 = c * 4503599627370496 * 1
  rw [Nat.mul_one]
theorem DNm.dbl {x : UInt64} {s : Bool} {c : Nat} {q : Int} (h : DNm x s c q) (hq : q ≤ 970) : DNm (FP.dmul x (4611686018427387904 : UInt64)) s c (q + 1) := by
  obtain ⟨h1, h2, h3⟩ := h
  refine ⟨?_, h2, by omega⟩
  have e : FP.Core.val64 (FP.dmul x (4611686018427387904 : UInt64)) = FP.Core.round FP.Core.b64 (FP.Core.exactProduct (FP.Core.val64 x) (FP.Core.val64 (4611686018427387904 : UInt64))) := FP.Core.val64_dmul _ _
  rw [e, h1, kd2]
  show FP.Core.roundRatio FP.Core.b64 (s != false) (c * 4503599627370496) 1 (q + -51) = _
  rw [Bool.bne_false]
  refine FP.Core.roundRatio_exact FP.Core.good_b64 (by decide) (fits64 ⟨h2, by omega⟩) ?_
  rw [show (q + -51 - (q + 1)).toNat = 0 by omega, show (q + 1 - (q + -51)).toNat = 52 by omega]
  show c * 4503599627370496 * 1 = c * 1 * 4503599627370496
  rw [Nat.mul_one, Nat.mul_one]
/-- against 2^(r + 52) -/
theorem DNm.cmp {x y : UInt64} {c : Nat} {q r : Int} {op : CmpOp} (h : DNm x false c q) (hy : FP.Core.val64 y = .fin false 4503599627370496 r) : 0 ≤ (Op.cmpValue (FP.dcmp x y) op).toInt ↔ r ≤ q := by
  obtain ⟨h1, h2, h3⟩ := h
  have e : FP.dcmp x y = FP.Core.order (FP.Core.val64 x) (FP.Core.val64 y) := rfl
  rw [e, h1, hy]
  show 0 ≤ (Op.cmpValue (some (compare ((c * 2 ^ (q - min q r).toNat : Nat) : Int) ((4503599627370496 * 2 ^ (r - min q r).toNat : Nat) : Int))) op).toInt ↔ r ≤ q
  by_cases z : r ≤ q
  · refine ⟨fun _ => z, fun _ => cmp_ge ?_⟩
    rw [show (r - min q r).toNat = 0 by omega, Nat.pow_zero, Nat.mul_one]
    have := Nat.one_le_two_pow (n := (q - min q r).toNat)
    have := Nat.mul_le_mul h2.1 this
    omega
  · refine ⟨fun w => ?_, fun w => absurd w z⟩
    exfalso
    rw [show (q - min q r).toNat = 0 by omega, Nat.pow_zero, Nat.mul_one, show (r - min q r).toNat = (r - q - 1).toNat + 1 by omega, Nat.pow_succ] at w
    have := Nat.one_le_two_pow (n := (r - q - 1).toNat)
    have h4 : 4503599627370496 * (2 ^ (r - q - 1).toNat * 2) = 9007199254740992 * 2 ^ (r - q - 1).toNat := by omega
    rw [h4] at w
    rw [cmp_lt (by omega)] at w
    exact absurd w (by decide)
theorem DNm.cmp0 {x : UInt64} {s : Bool} {c : Nat} {q : Int} {op : CmpOp} (h : DNm x s c q) : (Op.cmpValue (FP.dcmp x FP.dconst0) op).toInt = if s then -1 else 1 := by
  obtain ⟨h1, h2, h3⟩ := h
  have e : FP.dcmp x FP.dconst0 = FP.Core.order (FP.Core.val64 x) (FP.Core.val64 FP.dconst0) := rfl
  rw [e, h1, kd0]
  have := Nat.one_le_two_pow (n := (q - min q (-1074)).toNat)
  have := Nat.mul_le_mul h2.1 this
  cases s
  · show (Op.cmpValue (some (compare ((c * 2 ^ (q - min q (-1074)).toNat : Nat) : Int) ((0 * 2 ^ (-1074 - min q (-1074)).toNat : Nat) : Int))) op).toInt = 1
    rw [Nat.zero_mul]
    exact cmp_gt (by omega)
  · show (Op.cmpValue (some (compare (-((c * 2 ^ (q - min q (-1074)).toNat : Nat) : Int)) ((0 * 2 ^ (-1074 - min q (-1074)).toNat : Nat) : Int))) op).toInt = -1
    rw [Nat.zero_mul]
    exact cmp_lt (by omega)
/-- d * 2^-52, for d of less than 53 digits -/
theorem fracd_v {x : UInt64} {d : Nat} (hd : d < 4503599627370496) (hx : FP.Core.val64 x = FP.Core.roundRatio FP.Core.b64 false d 1 (-52)) : vf_n64 x ∧ vf_n64 (FP.dmul x 4841369599423283200) ∧ (FP.d2l (FP.dmul x 4841369599423283200)).toInt = d := by
  have e : FP.Core.val64 (FP.dmul x 4841369599423283200) = FP.Core.round FP.Core.b64 (FP.Core.exactProduct (FP.Core.val64 x) (FP.Core.val64 4841369599423283200)) := FP.Core.val64_dmul _ _
  have key : ∃ c : Nat, ∃ q : Int, FP.Core.val64 x = .fin false c q ∧ FP.Core.Whole d (FP.Core.val64 (FP.dmul x 4841369599423283200)) := by
    by_cases z : d = 0
    · subst z
      have h1 : FP.Core.val64 x = .fin false 0 (-1074) := by rw [hx]; rfl
      refine ⟨_, _, h1, ?_⟩
      rw [e, h1, kdB]
      show FP.Core.Whole 0 (FP.Core.roundRatio FP.Core.b64 (false != false) (0 * 4503599627370496) 1 (-1074 + 0))
      rw [Nat.zero_mul]
      show FP.Core.signed false (0 * _) = 0 * _
      rw [Nat.zero_mul, Int.zero_mul]
      rfl
    · obtain ⟨k, hk1, hk2⟩ : ∃ k : Nat, 2 ^ k ≤ d ∧ d < 2 ^ (k + 1) := ⟨d.log2, Nat.log2_self_le z, Nat.lt_log2_self⟩
      have hk : k ≤ 51 := by
        by_cases w : k ≤ 51
        · exact w
        · have := Nat.pow_le_pow_right (n := 2) (by decide) (show 52 ≤ k by omega)
          have : (2 : Nat) ^ 52 = 4503599627370496 := by decide
          omega
      obtain ⟨j, hj⟩ : ∃ j, k + j = 52 := ⟨52 - k, by omega⟩
      have p1 : (2 : Nat) ^ k * 2 ^ j = 4503599627370496 := by rw [← Nat.pow_add, hj]
      have p2 : (2 : Nat) ^ (k + 1) * 2 ^ j = 9007199254740992 := by rw [← Nat.pow_add, show k + 1 + j = 53 by omega]
      have c1 : 4503599627370496 ≤ d * 2 ^ j := by rw [← p1]; exact Nat.mul_le_mul_right _ hk1
      have c2 : d * 2 ^ j < 9007199254740992 := by rw [← p2]; exact Nat.mul_lt_mul_of_pos_right hk2 (Nat.two_pow_pos j)
      have h1 : FP.Core.val64 x = .fin false (d * 2 ^ j) (-52 - (j : Int)) := by
        rw [hx]
        refine FP.Core.roundRatio_exact FP.Core.good_b64 (by decide) (fits64 ⟨⟨c1, c2⟩, by omega⟩) ?_
        rw [show (-52 - (-52 - (j : Int))).toNat = j by omega, show (-52 - (j : Int) - -52).toNat = 0 by omega, Nat.pow_zero, Nat.mul_one, Nat.mul_one]
      refine ⟨_, _, h1, ?_⟩
      rw [e, h1, kdB]
      have h2 : FP.Core.roundRatio FP.Core.b64 (false != false) (d * 2 ^ j * 4503599627370496) 1 (-52 - (j : Int) + 0) = .fin false (d * 2 ^ j) (-(j : Int)) := by
        refine FP.Core.roundRatio_exact FP.Core.good_b64 (by decide) (fits64 ⟨⟨c1, c2⟩, by omega⟩) ?_
        rw [show (-52 - (j : Int) + 0 - -(j : Int)).toNat = 0 by omega, show (-(j : Int) - (-52 - (j : Int) + 0)).toNat = 52 by omega]
        show d * 2 ^ j * 4503599627370496 * 1 = d * 2 ^ j * 1 * 4503599627370496
        rw [Nat.mul_one, Nat.mul_one]
      show FP.Core.Whole d (FP.Core.roundRatio FP.Core.b64 (false != false) (d * 2 ^ j * 4503599627370496) 1 (-52 - (j : Int) + 0))
      rw [h2]
      show ((d * 2 ^ j * 2 ^ (-(j : Int)).toNat : Nat) : Int) = (d : Int) * ((2 ^ (- -(j : Int)).toNat : Nat) : Int)
      rw [show (-(j : Int)).toNat = 0 by omega, show (- -(j : Int)).toNat = j by omega, Nat.pow_zero, Nat.mul_one, Int.natCast_mul]
  obtain ⟨c, q, h1, h2⟩ := key
  refine ⟨n64_v (by rw [h1]; exact FP.Core.Datum.noConfusion), n64_v (fun z => by rw [z] at h2; exact h2), ?_⟩
  have hr : (Int64.ofInt (d : Int)).toInt = d := Int64.toInt_ofInt_of_le (by omega) (by omega)
  have := FP.Core.d2l_int (a := Int64.ofInt (d : Int)) (b := FP.dmul x 4841369599423283200) (by rw [hr]; exact h2)
  show (FP.Core.d2l (FP.dmul x 4841369599423283200)).toInt = d
  rw [this, hr]
theorem DNm.frac {x : UInt64} {c : Nat} (h : DNm x false c (-52)) : vf_n64 (FP.dsub x FP.dconst1) ∧ vf_n64 (FP.dmul (FP.dsub x FP.dconst1) 4841369599423283200) ∧ (FP.d2l (FP.dmul (FP.dsub x FP.dconst1) 4841369599423283200)).toInt = (c : Int) - 4503599627370496 := by
  obtain ⟨h1, h2, h3⟩ := h
  have e : FP.Core.val64 (FP.dsub x FP.dconst1) = FP.Core.round FP.Core.b64 (FP.Core.exactSum (FP.Core.val64 x) (FP.Core.negate (FP.Core.val64 FP.dconst1))) := FP.Core.val64_dsub _ _
  obtain ⟨d, hd⟩ : ∃ d : Nat, c = 4503599627370496 + d := ⟨c - 4503599627370496, by omega⟩
  have k := fracd_v (x := FP.dsub x FP.dconst1) (d := d) (by omega) (by
    rw [e, h1, kd1]
    show FP.Core.round FP.Core.b64 (.fin (FP.Core.sumSign false true (((c * 2 ^ 0 : Nat) : Int) + -((4503599627370496 * 2 ^ 0 : Nat) : Int))) (((c * 2 ^ 0 : Nat) : Int) + -((4503599627370496 * 2 ^ 0 : Nat) : Int)).natAbs (-52)) = _
    rw [Nat.pow_zero, Nat.mul_one, Nat.mul_one, hd, show (((4503599627370496 + d : Nat) : Int) + -((4503599627370496 : Nat) : Int)) = (d : Int) by omega]
    have s0 : FP.Core.sumSign false true (d : Int) = false := by
      unfold FP.Core.sumSign
      by_cases z : (d : Int) = 0
      · rw [if_pos z]; rfl
      · rw [if_neg z]; exact decide_eq_false (by omega)
    rw [s0]
    rfl)
  refine ⟨k.1, k.2.1, ?_⟩
  rw [k.2.2, hd]
  omega
/-- a normal number by its bits -/
theorem DNm_of {x : UInt64} (h0 : 4503599627370496 ≤ x.toNat % 9223372036854775808) (h1 : x.toNat % 9223372036854775808 < 9218868437227405312) : DNm x (x.toNat / 4503599627370496 / 2048 % 2 == 1) (4503599627370496 + x.toNat % 4503599627370496) (-1074 + (((x.toNat / 4503599627370496 % 2048 : Nat) : Int) - 1)) := by
  have e : FP.Core.val64 x = (if x.toNat / 4503599627370496 % 2048 = 2047 then (if x.toNat % 4503599627370496 = 0 then FP.Core.Datum.inf (x.toNat / 4503599627370496 / 2048 % 2 == 1) else .nan) else if x.toNat / 4503599627370496 % 2048 = 0 then .fin (x.toNat / 4503599627370496 / 2048 % 2 == 1) (x.toNat % 4503599627370496) (-1074) else .fin (x.toNat / 4503599627370496 / 2048 % 2 == 1) (4503599627370496 + x.toNat % 4503599627370496) (-1074 + (((x.toNat / 4503599627370496 % 2048 : Nat) : Int) - 1))) := rfl
  refine ⟨?_, by omega, by omega⟩
  rw [e, if_neg (by omega), if_neg (by omega)]
theorem lv_lcmp {p : Program} {l : Launch} {e : Env} {R : Room} {s : State} {m : MethodId} {args : Array Value} {below : List Frame} {meth : Method} {c : Code} {H : Heap} {locs : List Loc} {cells slots : Nat} {Q : State → Prop} {cc : ByteArray} {pc : Nat} {ls : Array Slot} {rest : List Value} (hexec : p.tables.exec = Jvm.exec) (hb : c.code = cc) {x y : Int64} {v : Int32} (hdg : decode cc pc = .ok (.lcmp, 1)) (hv : (if x > y then (1 : Int32) else if x == y then 0 else -1) = v)
    (k : W p l e R s m args below meth c H locs cells slots Q (F0 m (pc + 1) ls (.int v :: rest))) : W p l e R s m args below meth c H locs cells slots Q (F0 m pc ls (.long y :: .long x :: rest)) := by
  intro T hT X
  obtain ⟨t, a, b⟩ := k T hT X
  refine ⟨t, ?_, b⟩
  rw [← hv] at a
  by_cases h1 : x > y
  · rw [if_pos h1] at a
    jvm_step X.here [X.here.top, hexec, hb, hdg, h1]
    exact a
  · by_cases h2 : (x == y) = true
    · rw [if_neg h1, if_pos h2] at a
      jvm_step X.here [X.here.top, hexec, hb, hdg, h1, h2]
      rw [if_pos (beq_iff_eq.mp h2)]
      exact a
    · rw [if_neg h1, if_neg h2] at a
      jvm_step X.here [X.here.top, hexec, hb, hdg, h1, h2]
      rw [if_neg (fun w => h2 (beq_iff_eq.mpr w))]
      exact a
section ZL
variable {p : Program} {l : Launch} {e : Env} {R : Room} {s : State} {m : MethodId} {args : Array Value} {below : List Frame} {meth : Method} {c : Code} {own : String} {cc : ByteArray} {nL : Nat} {G : GG} {N0 : Nat} {A : Nat → Prop}
variable {Q : State → Prop} {h : Hp} {k n pc : Nat} {lv : List (Nat × AV)} {st : List AV}
theorem z_ladd (F : Fx p s m args meth c own cc nL G N0 A) {x y : Int} (d : decode cc pc = .ok (.ladd, 1)) (K : Z p l e R s m args below meth c nL G N0 A Q h k n (pc + 1) lv (vL (x + y) :: st)) : Z p l e R s m args below meth c nL G N0 A Q h k n pc lv (vL y :: vL x :: st) := by
  obtain ⟨hx, hb, hml, hown, hts, hlocks, hKD, hSF, hA0, hAN⟩ := F
  intro H locs ls hP hA hS hl
  refine lv_ladd hx hb d ?_
  rw [← Int64.ofInt_add]
  exact K H locs ls hP hA hS hl
theorem z_lsub (F : Fx p s m args meth c own cc nL G N0 A) {x y : Int} (d : decode cc pc = .ok (.lsub, 1)) (K : Z p l e R s m args below meth c nL G N0 A Q h k n (pc + 1) lv (vL (x - y) :: st)) : Z p l e R s m args below meth c nL G N0 A Q h k n pc lv (vL y :: vL x :: st) := by
  obtain ⟨hx, hb, hml, hown, hts, hlocks, hKD, hSF, hA0, hAN⟩ := F
  intro H locs ls hP hA hS hl
  refine lv_lsub hx hb d ?_
  rw [← Int64.ofInt_sub]
  exact K H locs ls hP hA hS hl
theorem z_lor (F : Fx p s m args meth c own cc nL G N0 A) {x y z : Int} (d : decode cc pc = .ok (.lor, 1)) (hz : Int64.ofInt x ||| Int64.ofInt y = Int64.ofInt z) (K : Z p l e R s m args below meth c nL G N0 A Q h k n (pc + 1) lv (vL z :: st)) : Z p l e R s m args below meth c nL G N0 A Q h k n pc lv (vL y :: vL x :: st) := by
  obtain ⟨hx, hb, hml, hown, hts, hlocks, hKD, hSF, hA0, hAN⟩ := F
  intro H locs ls hP hA hS hl
  refine lv_lor hx hb d ?_
  rw [hz]
  exact K H locs ls hP hA hS hl
theorem z_lshl (F : Fx p s m args meth c own cc nL G N0 A) {x y z : Int} (d : decode cc pc = .ok (.lshl, 1)) (hz : Int64.ofInt x <<< ((iI y).toInt64 &&& 63) = Int64.ofInt z) (K : Z p l e R s m args below meth c nL G N0 A Q h k n (pc + 1) lv (vL z :: st)) : Z p l e R s m args below meth c nL G N0 A Q h k n pc lv (vI y :: vL x :: st) := by
  obtain ⟨hx, hb, hml, hown, hts, hlocks, hKD, hSF, hA0, hAN⟩ := F
  intro H locs ls hP hA hS hl
  exact lv_lshl hx hb d hz (K H locs ls hP hA hS hl)
theorem z_lcmp (F : Fx p s m args meth c own cc nL G N0 A) {x y : Int} (d : decode cc pc = .ok (.lcmp, 1)) (h1 : -9223372036854775808 ≤ x ∧ x < 9223372036854775808) (h2 : -9223372036854775808 ≤ y ∧ y < 9223372036854775808) (K : Z p l e R s m args below meth c nL G N0 A Q h k n (pc + 1) lv (vI (if y < x then 1 else if x = y then 0 else -1) :: st)) : Z p l e R s m args below meth c nL G N0 A Q h k n pc lv (vL y :: vL x :: st) := by
  obtain ⟨hx, hb, hml, hown, hts, hlocks, hKD, hSF, hA0, hAN⟩ := F
  intro H locs ls hP hA hS hl
  have e1 : (Int64.ofInt x).toInt = x := Int64.toInt_ofInt_of_le (by omega) (by omega)
  have e2 : (Int64.ofInt y).toInt = y := Int64.toInt_ofInt_of_le (by omega) (by omega)
  refine lv_lcmp hx hb d (v := iI (if y < x then 1 else if x = y then 0 else -1)) ?_ (K H locs ls hP hA hS hl)
  by_cases q : y < x
  · rw [if_pos q, if_pos (Int64.lt_iff_toInt_lt.mpr (by rw [e1, e2]; exact q))]
    rfl
  · rw [if_neg q, if_neg (fun w => q (by have := Int64.lt_iff_toInt_lt.mp w; rw [e1, e2] at this; exact this))]
    by_cases r : x = y
    · rw [if_pos r, if_pos (by rw [r]; exact beq_self_eq_true _)]
      rfl
    · rw [if_neg r, if_neg (fun w => r (by have := congrArg Int64.toInt (beq_iff_eq.mp w); rw [e1, e2] at this; exact this))]
      rfl
end ZL
theorem lor_52 {k d : Int} (hk : 0 ≤ k ∧ k < 2048) (hd : 0 ≤ d ∧ d < 4503599627370496) : Int64.ofInt (k * 4503599627370496) ||| Int64.ofInt d = Int64.ofInt (k * 4503599627370496 + d) := by
  apply Int64.toBitVec_inj.mp
  show BitVec.ofInt 64 (k * 4503599627370496) ||| BitVec.ofInt 64 d = BitVec.ofInt 64 (k * 4503599627370496 + d)
  apply BitVec.eq_of_toNat_eq
  rw [BitVec.toNat_or, BitVec.toNat_ofInt, BitVec.toNat_ofInt, BitVec.toNat_ofInt]
  show (k * 4503599627370496 % 18446744073709551616).toNat ||| (d % 18446744073709551616).toNat = ((k * 4503599627370496 + d) % 18446744073709551616).toNat
  rw [show (k * 4503599627370496 % 18446744073709551616).toNat = 2 ^ 52 * k.toNat by show _ = 4503599627370496 * _; omega, show (d % 18446744073709551616).toNat = d.toNat by omega, show ((k * 4503599627370496 + d) % 18446744073709551616).toNat = 2 ^ 52 * k.toNat + d.toNat by show _ = 4503599627370496 * _ + _; omega]
  exact (Nat.two_pow_add_eq_or_of_lt (by show _ < 4503599627370496; omega) k.toNat).symm
theorem lshl_52 {x : Int} (h : 0 ≤ x ∧ x < 2048) : Int64.ofInt x <<< ((iI 52).toInt64 &&& 63) = Int64.ofInt (x * 4503599627370496) := by
  obtain ⟨n, rfl⟩ : ∃ n : Nat, x = n := ⟨x.toNat, by omega⟩
  have : ∀ n : Fin 2048, Int64.ofInt ((n.val : Nat) : Int) <<< ((iI 52).toInt64 &&& 63) = Int64.ofInt (((n.val : Nat) : Int) * 4503599627370496) := by decide +kernel
  exact this ⟨n, by omega⟩
theorem fl_nat {x : UInt64} (h : x.toNat < 9223372036854775808) : x.toInt64.toInt = x.toNat := by
  have e : x.toInt64.toInt = x.toBitVec.toInt := rfl
  rw [e, BitVec.toInt_eq_toNat_cond]
  show (if 2 * x.toNat < 2 ^ 64 then (x.toNat : Int) else (x.toNat : Int) - ((2 ^ 64 : Nat) : Int)) = _
  rw [if_pos (by omega)]
/-- a quotient is not near 0 -/
theorem div_norm {x y : UInt64} {c d : Nat} {q r : Int} {K : Nat} (hx : DNm x false c q) (hy : DNm y false d r) (hK : 1 ≤ K ∧ K ≤ 2000) (h : (K : Int) + 52 ≤ q - r + 1074) : K * 2 ^ 52 ≤ (FP.ddiv x y).toNat % 2 ^ 63 ∧ (FP.ddiv x y).toNat < 2 ^ 63 := by
  obtain ⟨x1, x2, x3⟩ := hx
  obtain ⟨y1, y2, y3⟩ := hy
  have e : FP.Core.val64 (FP.ddiv x y) = FP.Core.roundRatio FP.Core.b64 false c d (q - r) := by
    have e : FP.Core.val64 (FP.ddiv x y) = FP.Core.quotient FP.Core.b64 (FP.Core.val64 x) (FP.Core.val64 y) := FP.Core.val64_ddiv _ _
    rw [e, x1, y1]
    show (if d = 0 then (if c = 0 then FP.Core.Datum.nan else .inf (false != false)) else FP.Core.roundRatio FP.Core.b64 (false != false) c d (q - r)) = _
    rw [if_neg (by omega)]
    rfl
  constructor
  · have g := FP.Core.mag_ge FP.Core.good_b64 (s := false) (n := (FP.ddiv x y).toNat) (m := K * FP.Core.b64.tails) (A := c) (B := d) (e := q - r) (e0 := FP.Core.b64.qmin) e (by omega) (Int.le_refl _) (by rw [FP.Core.qmin_b64]; omega) (by rw [FP.Core.infBits_b64, FP.Core.tails_b64]; show K * 4503599627370496 ≤ _; omega) (by
      rw [FP.Core.unitsOf_start hK.1, FP.Core.qmin_b64, FP.Core.tails_b64]
      show 2 ^ 52 * 2 ^ (K - 1) * 2 ^ ((-1074 : Int) - -1074).toNat * d ≤ c * 2 ^ (q - r - -1074).toNat
      rw [show ((-1074 : Int) - -1074).toNat = 0 by omega, Nat.pow_zero, Nat.mul_one]
      obtain ⟨j, hj⟩ : ∃ j : Nat, (q - r - -1074).toNat = K - 1 + 53 + j := ⟨(q - r - -1074).toNat - (K - 1 + 53), by omega⟩
      rw [hj, Nat.pow_add, Nat.pow_add]
      have a1 : 2 ^ 52 * 2 ^ (K - 1) * d ≤ c * 2 ^ (K - 1) * 2 ^ 53 := Nat.mul_le_mul (Nat.mul_le_mul_right _ (by show 4503599627370496 ≤ c; omega)) (by show d ≤ 9007199254740992; omega)
      have a2 := Nat.le_mul_of_pos_right (c * 2 ^ (K - 1) * 2 ^ 53) (Nat.two_pow_pos j)
      rw [← Nat.mul_assoc, ← Nat.mul_assoc]
      exact Nat.le_trans a1 a2)
    rw [FP.Core.mag_toNat64, FP.Core.tails_b64] at g
    exact g
  · have hn : FP.Core.val64 (FP.ddiv x y) ≠ .nan := by rw [e]; exact FP.Core.roundRatio_ne_nan _ _ _ _ _
    have := FP.Core.sgn_bits hn
    rw [e, FP.Core.sgn_roundRatio] at this
    have := of_decide_eq_false this.symm
    omega
/-- an int, not 0, as a double -/
theorem i2d_norm {a : Int} (ha : 1 ≤ a ∧ a ≤ 5000000) : ∃ c q, DNm (FP.i2d (iI a)) false c q ∧ -52 ≤ q ∧ q ≤ -20 := by
  have e := iI_toInt (z := a) (by omega)
  have h1 := FP.Core.i2d_mag (iI a)
  have h2 := FP.Core.fromInt_ge (FP.Core.toNat_i2d (iI a)) (by rw [e]; omega)
  have h1 : (FP.i2d (iI a)).toNat % 2 ^ 63 < 1056 * 2 ^ 52 := h1
  have h2 : 1023 * 2 ^ 52 ≤ (FP.i2d (iI a)).toNat % 2 ^ 63 := h2
  have v : FP.Core.val64 (FP.i2d (iI a)) = FP.Core.roundRatio FP.Core.b64 false a.natAbs 1 0 := by
    have e9 : FP.Core.val64 (FP.i2d (iI a)) = FP.Core.round FP.Core.b64 (FP.Core.ofInt (iI a).toInt) := FP.Core.val64_i2d _
    rw [e9, e]
    show FP.Core.roundRatio FP.Core.b64 (decide (a < 0)) a.natAbs 1 0 = _
    rw [decide_eq_false (by omega)]
  have hn : FP.Core.val64 (FP.i2d (iI a)) ≠ .nan := by rw [v]; exact FP.Core.roundRatio_ne_nan _ _ _ _ _
  have hs := FP.Core.sgn_bits hn
  rw [v, FP.Core.sgn_roundRatio] at hs
  have hs := of_decide_eq_false hs.symm
  have hd := DNm_of (x := FP.i2d (iI a)) (by omega) (by omega)
  rw [show ((FP.i2d (iI a)).toNat / 4503599627370496 / 2048 % 2 == 1) = false from beq_eq_false_iff_ne.mpr (by omega)] at hd
  exact ⟨_, _, hd, by omega, by omega⟩
theorem mean_norm {a b : Int} (ha : 0 ≤ a ∧ a ≤ 5000000) (hb : 1 ≤ b ∧ b ≤ 24) : FP.ddiv (FP.ddiv (FP.i2d (iI a)) 4633641066610819072) (FP.i2d (iI b)) = 0 ∨ (4503599627370496 ≤ (FP.ddiv (FP.ddiv (FP.i2d (iI a)) 4633641066610819072) (FP.i2d (iI b))).toNat ∧ (FP.ddiv (FP.ddiv (FP.i2d (iI a)) 4633641066610819072) (FP.i2d (iI b))).toNat < 9218868437227405312) := by
  by_cases z : a = 0
  · left
    subst z
    have h0 : FP.ddiv (FP.i2d (iI 0)) 4633641066610819072 = 0 := by decide +kernel
    rw [h0]
    obtain ⟨n, rfl⟩ : ∃ n : Nat, b = n := ⟨b.toNat, by omega⟩
    have : ∀ n : Fin 25, n.val = 0 ∨ FP.ddiv 0 (FP.i2d (iI ((n.val : Nat) : Int))) = 0 := by decide +kernel
    exact (this ⟨n, by omega⟩).resolve_left (by show ¬ n = 0; omega)
  · right
    obtain ⟨c, q, h1, h2, h3⟩ := i2d_norm (a := a) (by omega)
    have k60 := DNm_of (x := 4633641066610819072) (by decide) (by decide)
    have k60 : DNm 4633641066610819072 false _ (-47) := k60
    obtain ⟨l1, l2⟩ := div_norm (K := 1017) h1 k60 (by omega) (by omega)
    have u1 := mg_mean1 (a := a) (by omega)
    obtain ⟨x, hx⟩ : ∃ z, z = FP.ddiv (FP.i2d (iI a)) 4633641066610819072 := ⟨_, rfl⟩
    have u2 := mg_mean (a := a) (b := b) (by omega) hb
    rw [← hx] at l1 l2 u1 u2 ⊢
    have hd := DNm_of (x := x) (by omega) (by omega)
    rw [show (x.toNat / 4503599627370496 / 2048 % 2 == 1) = false from beq_eq_false_iff_ne.mpr (by omega)] at hd
    obtain ⟨c2, q2, g1, g2, g3⟩ := i2d_norm (a := b) (by omega)
    obtain ⟨m1, m2⟩ := div_norm (K := 1) hd g1 (by omega) (by omega)
    exact ⟨by omega, by omega⟩
