/-! FLOATS: rows of the Z layer -/
section ZF
variable {p : Program} {l : Launch} {e : Env} {R : Room} {s : State} {m : MethodId} {args : Array Value} {below : List Frame} {meth : Method} {c : Code} {own : String} {cc : ByteArray} {nL : Nat} {G : GG} {N0 : Nat} {A : Nat → Prop}
variable {Q : State → Prop} {h : Hp} {k n pc : Nat} {lv : List (Nat × AV)} {st : List AV}
theorem iI_toI (x : Int32) : cv (vI x.toInt) = .int x := by show Value.int (iI x.toInt) = _; rw [iI_of]
theorem iL_toI (x : Int64) : cv (vL x.toInt) = .long x := by show Value.long (Int64.ofInt x.toInt) = _; rw [Int64.ofInt_toInt]

theorem z_fconst0 (F : Fx p s m args meth c own cc nL G N0 A) (d : decode cc pc = .ok (.fconst 0, 1))  (K : Z p l e R s m args below meth c nL G N0 A Q h k n (pc + 1) lv (vF FP.fconst0 :: st)) : Z p l e R s m args below meth c nL G N0 A Q h k n pc lv (st) := by
  obtain ⟨hx, hb, hml, hown, hts, hlocks, hKD, hSF, hA0, hAN⟩ := F
  intro H locs ls hP hA hS hl
  exact lv_fconst0 hx hb d (K H locs ls hP hA hS hl)
theorem z_fconst1 (F : Fx p s m args meth c own cc nL G N0 A) (d : decode cc pc = .ok (.fconst 1, 1))  (K : Z p l e R s m args below meth c nL G N0 A Q h k n (pc + 1) lv (vF FP.fconst1 :: st)) : Z p l e R s m args below meth c nL G N0 A Q h k n pc lv (st) := by
  obtain ⟨hx, hb, hml, hown, hts, hlocks, hKD, hSF, hA0, hAN⟩ := F
  intro H locs ls hP hA hS hl
  exact lv_fconst1 hx hb d (K H locs ls hP hA hS hl)
theorem z_fconst2 (F : Fx p s m args meth c own cc nL G N0 A) (d : decode cc pc = .ok (.fconst 2, 1))  (K : Z p l e R s m args below meth c nL G N0 A Q h k n (pc + 1) lv (vF FP.fconst2 :: st)) : Z p l e R s m args below meth c nL G N0 A Q h k n pc lv (st) := by
  obtain ⟨hx, hb, hml, hown, hts, hlocks, hKD, hSF, hA0, hAN⟩ := F
  intro H locs ls hP hA hS hl
  exact lv_fconst2 hx hb d (K H locs ls hP hA hS hl)
theorem z_dconst0 (F : Fx p s m args meth c own cc nL G N0 A) (d : decode cc pc = .ok (.dconst 0, 1))  (K : Z p l e R s m args below meth c nL G N0 A Q h k n (pc + 1) lv (vD FP.dconst0 :: st)) : Z p l e R s m args below meth c nL G N0 A Q h k n pc lv (st) := by
  obtain ⟨hx, hb, hml, hown, hts, hlocks, hKD, hSF, hA0, hAN⟩ := F
  intro H locs ls hP hA hS hl
  exact lv_dconst0 hx hb d (K H locs ls hP hA hS hl)
theorem z_dconst1 (F : Fx p s m args meth c own cc nL G N0 A) (d : decode cc pc = .ok (.dconst 1, 1))  (K : Z p l e R s m args below meth c nL G N0 A Q h k n (pc + 1) lv (vD FP.dconst1 :: st)) : Z p l e R s m args below meth c nL G N0 A Q h k n pc lv (st) := by
  obtain ⟨hx, hb, hml, hown, hts, hlocks, hKD, hSF, hA0, hAN⟩ := F
  intro H locs ls hP hA hS hl
  exact lv_dconst1 hx hb d (K H locs ls hP hA hS hl)
theorem z_lconst0 (F : Fx p s m args meth c own cc nL G N0 A) (d : decode cc pc = .ok (.lconst 0, 1))  (K : Z p l e R s m args below meth c nL G N0 A Q h k n (pc + 1) lv (vL 0 :: st)) : Z p l e R s m args below meth c nL G N0 A Q h k n pc lv (st) := by
  obtain ⟨hx, hb, hml, hown, hts, hlocks, hKD, hSF, hA0, hAN⟩ := F
  intro H locs ls hP hA hS hl
  exact lv_lconst hx hb d rfl (K H locs ls hP hA hS hl)
theorem z_lconst1 (F : Fx p s m args meth c own cc nL G N0 A) (d : decode cc pc = .ok (.lconst 1, 1))  (K : Z p l e R s m args below meth c nL G N0 A Q h k n (pc + 1) lv (vL 1 :: st)) : Z p l e R s m args below meth c nL G N0 A Q h k n pc lv (st) := by
  obtain ⟨hx, hb, hml, hown, hts, hlocks, hKD, hSF, hA0, hAN⟩ := F
  intro H locs ls hP hA hS hl
  exact lv_lconst hx hb d rfl (K H locs ls hP hA hS hl)
theorem z_fadd {x y : UInt32} (F : Fx p s m args meth c own cc nL G N0 A) (d : decode cc pc = .ok (.fadd, 1)) (hne : vf_n32 (FP.fadd x y)) (K : Z p l e R s m args below meth c nL G N0 A Q h k n (pc + 1) lv (vF (FP.fadd x y) :: st)) : Z p l e R s m args below meth c nL G N0 A Q h k n pc lv (vF y :: vF x :: st) := by
  obtain ⟨hx, hb, hml, hown, hts, hlocks, hKD, hSF, hA0, hAN⟩ := F
  intro H locs ls hP hA hS hl
  exact lv_fadd hx hb d hne (K H locs ls hP hA hS hl)
theorem z_fsub {x y : UInt32} (F : Fx p s m args meth c own cc nL G N0 A) (d : decode cc pc = .ok (.fsub, 1)) (hne : vf_n32 (FP.fsub x y)) (K : Z p l e R s m args below meth c nL G N0 A Q h k n (pc + 1) lv (vF (FP.fsub x y) :: st)) : Z p l e R s m args below meth c nL G N0 A Q h k n pc lv (vF y :: vF x :: st) := by
  obtain ⟨hx, hb, hml, hown, hts, hlocks, hKD, hSF, hA0, hAN⟩ := F
  intro H locs ls hP hA hS hl
  exact lv_fsub hx hb d hne (K H locs ls hP hA hS hl)
theorem z_fmul {x y : UInt32} (F : Fx p s m args meth c own cc nL G N0 A) (d : decode cc pc = .ok (.fmul, 1)) (hne : vf_n32 (FP.fmul x y)) (K : Z p l e R s m args below meth c nL G N0 A Q h k n (pc + 1) lv (vF (FP.fmul x y) :: st)) : Z p l e R s m args below meth c nL G N0 A Q h k n pc lv (vF y :: vF x :: st) := by
  obtain ⟨hx, hb, hml, hown, hts, hlocks, hKD, hSF, hA0, hAN⟩ := F
  intro H locs ls hP hA hS hl
  exact lv_fmul hx hb d hne (K H locs ls hP hA hS hl)
theorem z_fdiv {x y : UInt32} (F : Fx p s m args meth c own cc nL G N0 A) (d : decode cc pc = .ok (.fdiv, 1)) (hne : vf_n32 (FP.fdiv x y)) (K : Z p l e R s m args below meth c nL G N0 A Q h k n (pc + 1) lv (vF (FP.fdiv x y) :: st)) : Z p l e R s m args below meth c nL G N0 A Q h k n pc lv (vF y :: vF x :: st) := by
  obtain ⟨hx, hb, hml, hown, hts, hlocks, hKD, hSF, hA0, hAN⟩ := F
  intro H locs ls hP hA hS hl
  exact lv_fdiv hx hb d hne (K H locs ls hP hA hS hl)
theorem z_dadd {x y : UInt64} (F : Fx p s m args meth c own cc nL G N0 A) (d : decode cc pc = .ok (.dadd, 1)) (hne : vf_n64 (FP.dadd x y)) (K : Z p l e R s m args below meth c nL G N0 A Q h k n (pc + 1) lv (vD (FP.dadd x y) :: st)) : Z p l e R s m args below meth c nL G N0 A Q h k n pc lv (vD y :: vD x :: st) := by
  obtain ⟨hx, hb, hml, hown, hts, hlocks, hKD, hSF, hA0, hAN⟩ := F
  intro H locs ls hP hA hS hl
  exact lv_dadd hx hb d hne (K H locs ls hP hA hS hl)
theorem z_dsub {x y : UInt64} (F : Fx p s m args meth c own cc nL G N0 A) (d : decode cc pc = .ok (.dsub, 1)) (hne : vf_n64 (FP.dsub x y)) (K : Z p l e R s m args below meth c nL G N0 A Q h k n (pc + 1) lv (vD (FP.dsub x y) :: st)) : Z p l e R s m args below meth c nL G N0 A Q h k n pc lv (vD y :: vD x :: st) := by
  obtain ⟨hx, hb, hml, hown, hts, hlocks, hKD, hSF, hA0, hAN⟩ := F
  intro H locs ls hP hA hS hl
  exact lv_dsub hx hb d hne (K H locs ls hP hA hS hl)
theorem z_dmul {x y : UInt64} (F : Fx p s m args meth c own cc nL G N0 A) (d : decode cc pc = .ok (.dmul, 1)) (hne : vf_n64 (FP.dmul x y)) (K : Z p l e R s m args below meth c nL G N0 A Q h k n (pc + 1) lv (vD (FP.dmul x y) :: st)) : Z p l e R s m args below meth c nL G N0 A Q h k n pc lv (vD y :: vD x :: st) := by
  obtain ⟨hx, hb, hml, hown, hts, hlocks, hKD, hSF, hA0, hAN⟩ := F
  intro H locs ls hP hA hS hl
  exact lv_dmul hx hb d hne (K H locs ls hP hA hS hl)
theorem z_ddiv {x y : UInt64} (F : Fx p s m args meth c own cc nL G N0 A) (d : decode cc pc = .ok (.ddiv, 1)) (hne : vf_n64 (FP.ddiv x y)) (K : Z p l e R s m args below meth c nL G N0 A Q h k n (pc + 1) lv (vD (FP.ddiv x y) :: st)) : Z p l e R s m args below meth c nL G N0 A Q h k n pc lv (vD y :: vD x :: st) := by
  obtain ⟨hx, hb, hml, hown, hts, hlocks, hKD, hSF, hA0, hAN⟩ := F
  intro H locs ls hP hA hS hl
  exact lv_ddiv hx hb d hne (K H locs ls hP hA hS hl)
theorem z_fneg {x : UInt32} (F : Fx p s m args meth c own cc nL G N0 A) (d : decode cc pc = .ok (.fneg, 1))  (K : Z p l e R s m args below meth c nL G N0 A Q h k n (pc + 1) lv (vF (FP.fneg x) :: st)) : Z p l e R s m args below meth c nL G N0 A Q h k n pc lv (vF x :: st) := by
  obtain ⟨hx, hb, hml, hown, hts, hlocks, hKD, hSF, hA0, hAN⟩ := F
  intro H locs ls hP hA hS hl
  exact lv_fneg hx hb d (K H locs ls hP hA hS hl)
theorem z_i2f {x : Int} (F : Fx p s m args meth c own cc nL G N0 A) (d : decode cc pc = .ok (.i2f, 1))  (K : Z p l e R s m args below meth c nL G N0 A Q h k n (pc + 1) lv (vF (FP.i2f (iI x)) :: st)) : Z p l e R s m args below meth c nL G N0 A Q h k n pc lv (vI x :: st) := by
  obtain ⟨hx, hb, hml, hown, hts, hlocks, hKD, hSF, hA0, hAN⟩ := F
  intro H locs ls hP hA hS hl
  exact lv_i2f hx hb d (K H locs ls hP hA hS hl)
theorem z_i2d {x : Int} (F : Fx p s m args meth c own cc nL G N0 A) (d : decode cc pc = .ok (.i2d, 1))  (K : Z p l e R s m args below meth c nL G N0 A Q h k n (pc + 1) lv (vD (FP.i2d (iI x)) :: st)) : Z p l e R s m args below meth c nL G N0 A Q h k n pc lv (vI x :: st) := by
  obtain ⟨hx, hb, hml, hown, hts, hlocks, hKD, hSF, hA0, hAN⟩ := F
  intro H locs ls hP hA hS hl
  exact lv_i2d hx hb d (K H locs ls hP hA hS hl)
theorem z_f2d {x : UInt32} (F : Fx p s m args meth c own cc nL G N0 A) (d : decode cc pc = .ok (.f2d, 1)) (hne : vf_n64 (FP.f2d x)) (K : Z p l e R s m args below meth c nL G N0 A Q h k n (pc + 1) lv (vD (FP.f2d x) :: st)) : Z p l e R s m args below meth c nL G N0 A Q h k n pc lv (vF x :: st) := by
  obtain ⟨hx, hb, hml, hown, hts, hlocks, hKD, hSF, hA0, hAN⟩ := F
  intro H locs ls hP hA hS hl
  exact lv_f2d hx hb d hne (K H locs ls hP hA hS hl)
theorem z_f2i {x : UInt32} (F : Fx p s m args meth c own cc nL G N0 A) (d : decode cc pc = .ok (.f2i, 1)) (K : Z p l e R s m args below meth c nL G N0 A Q h k n (pc + 1) lv (vI (FP.f2i x).toInt :: st)) : Z p l e R s m args below meth c nL G N0 A Q h k n pc lv (vF x :: st) := by
  obtain ⟨hx, hb, hml, hown, hts, hlocks, hKD, hSF, hA0, hAN⟩ := F
  intro H locs ls hP hA hS hl
  refine lv_f2i hx hb d ?_
  have K1 := K H locs ls hP hA hS hl
  rw [List.map_cons, iI_toI] at K1
  exact K1
theorem z_d2l {x : UInt64} (F : Fx p s m args meth c own cc nL G N0 A) (d : decode cc pc = .ok (.d2l, 1)) (K : Z p l e R s m args below meth c nL G N0 A Q h k n (pc + 1) lv (vL (FP.d2l x).toInt :: st)) : Z p l e R s m args below meth c nL G N0 A Q h k n pc lv (vD x :: st) := by
  obtain ⟨hx, hb, hml, hown, hts, hlocks, hKD, hSF, hA0, hAN⟩ := F
  intro H locs ls hP hA hS hl
  refine lv_d2l hx hb d ?_
  have K1 := K H locs ls hP hA hS hl
  rw [List.map_cons, iL_toI] at K1
  exact K1
theorem z_fcmp {x y : UInt32} {op : CmpOp} (F : Fx p s m args meth c own cc nL G N0 A) (d : decode cc pc = .ok (.fcmp op, 1)) (K : Z p l e R s m args below meth c nL G N0 A Q h k n (pc + 1) lv (vI (Op.cmpValue (FP.fcmp x y) op).toInt :: st)) : Z p l e R s m args below meth c nL G N0 A Q h k n pc lv (vF y :: vF x :: st) := by
  obtain ⟨hx, hb, hml, hown, hts, hlocks, hKD, hSF, hA0, hAN⟩ := F
  intro H locs ls hP hA hS hl
  refine lv_fcmp hx hb d ?_
  have K1 := K H locs ls hP hA hS hl
  rw [List.map_cons, iI_toI] at K1
  exact K1
theorem z_dcmp {x y : UInt64} {op : CmpOp} (F : Fx p s m args meth c own cc nL G N0 A) (d : decode cc pc = .ok (.dcmp op, 1)) (K : Z p l e R s m args below meth c nL G N0 A Q h k n (pc + 1) lv (vI (Op.cmpValue (FP.dcmp x y) op).toInt :: st)) : Z p l e R s m args below meth c nL G N0 A Q h k n pc lv (vD y :: vD x :: st) := by
  obtain ⟨hx, hb, hml, hown, hts, hlocks, hKD, hSF, hA0, hAN⟩ := F
  intro H locs ls hP hA hS hl
  refine lv_dcmp hx hb d ?_
  have K1 := K H locs ls hP hA hS hl
  rw [List.map_cons, iI_toI] at K1
  exact K1
theorem z_dup2_2 (F : Fx p s m args meth c own cc nL G N0 A) {v : AV} (d : decode cc pc = .ok (.dup2, 1)) (hv : (cv v).category = 2) (K : Z p l e R s m args below meth c nL G N0 A Q h k n (pc + 1) lv (v :: v :: st)) : Z p l e R s m args below meth c nL G N0 A Q h k n pc lv (v :: st) := by
  obtain ⟨hx, hb, hml, hown, hts, hlocks, hKD, hSF, hA0, hAN⟩ := F
  intro H locs ls hP hA hS hl
  exact lv_dup2_2 hx hb d hv (K H locs ls hP hA hS hl)
theorem z_f2raw (F : Fx p s m args meth c own cc nL G N0 A) {x : UInt32} {idx : Nat} (h1 : Cond.methodLink own idx ⟨"java/lang/Float", "floatToRawIntBits", "(F)I"⟩ ∈ LW) (h2 : Cond.native ⟨"java/lang/Float", "floatToRawIntBits", "(F)I"⟩ ∈ LW) (h3 : Cond.static ⟨"java/lang/Float", "floatToRawIntBits", "(F)I"⟩ ∈ LW) (h4 : Cond.initialized "java/lang/Float" ∈ LW) (hf : 1 ≤ R.frames) (hl0 : ((st.map cv).map fun v => v.category).sum + 15 ≤ R.locals) (d : decode cc pc = .ok (.invokestatic idx, 3)) (K : Z p l e R s m args below meth c nL G N0 A Q h k n (pc + 3) lv (vI (fi x) :: st)) : Z p l e R s m args below meth c nL G N0 A Q h k n pc lv (vF x :: st) := by
  obtain ⟨hx, hb, hml, hown, hts, hlocks, hKD, hSF, hA0, hAN⟩ := F
  intro H locs ls hP hA hS hl
  refine vn_f2i hx hb (by rw [hml]; exact hl.1.symm) hown (hts _ h1) (hts _ h2) (hts _ h3) (hts _ h4) hf hl0 d ?_
  have K1 := K H locs ls hP hA hS hl
  rw [List.map_cons, show cv (vI (fi x)) = .int x.toInt32 from iI_toI _] at K1
  exact K1
theorem z_d2raw (F : Fx p s m args meth c own cc nL G N0 A) {x : UInt64} {idx : Nat} (h1 : Cond.methodLink own idx ⟨"java/lang/Double", "doubleToRawLongBits", "(D)J"⟩ ∈ LW) (h2 : Cond.native ⟨"java/lang/Double", "doubleToRawLongBits", "(D)J"⟩ ∈ LW) (h3 : Cond.static ⟨"java/lang/Double", "doubleToRawLongBits", "(D)J"⟩ ∈ LW) (h4 : Cond.initialized "java/lang/Double" ∈ LW) (hf : 1 ≤ R.frames) (hl0 : ((st.map cv).map fun v => v.category).sum + 15 ≤ R.locals) (d : decode cc pc = .ok (.invokestatic idx, 3)) (K : Z p l e R s m args below meth c nL G N0 A Q h k n (pc + 3) lv (vL x.toInt64.toInt :: st)) : Z p l e R s m args below meth c nL G N0 A Q h k n pc lv (vD x :: st) := by
  obtain ⟨hx, hb, hml, hown, hts, hlocks, hKD, hSF, hA0, hAN⟩ := F
  intro H locs ls hP hA hS hl
  refine vn_d2l hx hb (by rw [hml]; exact hl.1.symm) hown (hts _ h1) (hts _ h2) (hts _ h3) (hts _ h4) hf hl0 d ?_
  have K1 := K H locs ls hP hA hS hl
  rw [List.map_cons, iL_toI] at K1
  exact K1
end ZF
/-! what is not NaN -/
theorem n32_of {x : UInt32} (hx : x.toNat % 2 ^ 31 ≤ 2139095040) : vf_n32 x := by
  unfold vf_n32
  rw [UInt32.le_iff_toNat_le, UInt32.toNat_and]
  have e : x.toNat &&& (2147483647 : Nat) = x.toNat % 2 ^ 31 := Nat.and_two_pow_sub_one_eq_mod x.toNat 31
  show x.toNat &&& (2147483647 : Nat) ≤ 2139095040
  omega
theorem n64_of {x : UInt64} (hx : x.toNat % 2 ^ 63 ≤ 9218868437227405312) : vf_n64 x := by
  unfold vf_n64
  rw [UInt64.le_iff_toNat_le, UInt64.toNat_and]
  have e : x.toNat &&& (9223372036854775807 : Nat) = x.toNat % 2 ^ 63 := Nat.and_two_pow_sub_one_eq_mod x.toNat 63
  show x.toNat &&& (9223372036854775807 : Nat) ≤ 9218868437227405312
  omega
/-- a float of a size -/
def MG (K : Nat) (x : UInt32) : Prop := x.toNat % 2 ^ 31 < K * 2 ^ 23
theorem MG.n {K : Nat} {x : UInt32} (h : MG K x) (hK : K ≤ 255) : vf_n32 x := n32_of (by unfold MG at h; omega)
theorem MG.le {K L : Nat} {x : UInt32} (h : MG K x) (hK : K ≤ L) : MG L x := Nat.lt_of_lt_of_le h (Nat.mul_le_mul_right _ hK)
theorem mg_i2f {z : Int} {j : Nat} (hz : z.natAbs ≤ 2 ^ j) (hj : j ≤ 30) : MG (j + 128) (FP.i2f (iI z)) := by
  have hz2 : z.natAbs ≤ 2 ^ 30 := Nat.le_trans hz (Nat.pow_le_pow_right (by decide) hj)
  have := FP.Core.fromInt_mag32 (FP.Core.toNat_i2f (iI z)) (j := j) (K := j + 127) (by rw [iI_toInt (by omega)]; exact hz) (by omega) (by omega)
  unfold MG
  have e : FP.i2f (iI z) = FP.Core.i2f (iI z) := rfl
  rw [e]
  omega
/-- a line's amount -/
def amt (z r : Int) : UInt32 := FP.fdiv (FP.fmul (FP.i2f (iI z)) (FP.i2f (iI r))) 1114636288
theorem mg_mul {z r : Int} (hz : z.natAbs ≤ 2 ^ 17) (hr : r.natAbs ≤ 2 ^ 16) : MG 163 (FP.fmul (FP.i2f (iI z)) (FP.i2f (iI r))) := by
  have h1 := mg_i2f hz (by decide)
  have h2 := mg_i2f hr (by decide)
  have q : MG (17 + 128 + (16 + 128) - 129 + 3) (FP.fmul (FP.i2f (iI z)) (FP.i2f (iI r))) := FP.Core.fmul_mag h1 h2 (by decide) (by decide)
  exact q.le (by decide)
theorem mg_amt {z r : Int} (hz : z.natAbs ≤ 2 ^ 17) (hr : r.natAbs ≤ 2 ^ 16) : MG 159 (amt z r) := by
  have q : MG (163 + (149 - 23 - 1) - 132 + 3) (amt z r) := FP.Core.fdiv_mag (b := 1114636288) (L := 132) (mg_mul hz hr) (by decide) (by decide) (by decide) (by decide)
  exact q.le (by decide)
theorem mg_add {K : Nat} {x y : UInt32} (hx : MG K x) (hy : MG K y) (hK : K ≤ 255) : MG (K + 2) (FP.fadd x y) := FP.Core.fadd_mag hx hy hK

