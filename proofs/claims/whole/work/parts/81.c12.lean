set_option maxRecDepth 100000 in
set_option maxHeartbeats 4000000 in
theorem mX8_bitsOfFloat1 (l : Launch) (G : GG) (N0 : Nat) (h : Hp) (x9 : UInt32) (h0 : 8388608 ≤ x9.toNat % 2147483648) (h1 : x9.toNat % 2147483648 < 2139095040) : Ct l G N0 yX8_bitsOfFloat (Cond.code yX8_bitsOfFloat cX8_bitsOfFloat 5 (some FieldType.int) :: LW) ({ frames := 0, cells := 0, slots := 0, locals := 0 }) [vF x9] h (fun r h' => r = some (vI (fi x9)) ∧ h' = h) := by
  refine ct_of rfl rfl ?_
  intro p e s m args below meth c F hr hnm
  have F : Fx p s m args meth c RX8 cX8_bitsOfFloat 5 G N0 (cA h s.heap.size) := F
  have hx := x9.toNat_lt
  have hn := FNm_of h0 h1
  obtain ⟨sg9, hs9⟩ : ∃ z, z = (x9.toNat / 8388608 / 256 % 2 == 1) := ⟨_, rfl⟩
  obtain ⟨cc9, hcc⟩ : ∃ z : Nat, z = 8388608 + x9.toNat % 8388608 := ⟨_, rfl⟩
  obtain ⟨qq9, hqq⟩ : ∃ z : Int, z = -149 + (((x9.toNat / 8388608 % 256 : Nat) : Int) - 1) := ⟨_, rfl⟩
  rw [← hs9, ← hcc, ← hqq] at hn
  have hcq := hn.2
  have z1 := hn.cmp0 (op := .l)
  have z2 := hn.cmp0 (op := .g)
  obtain ⟨v9, hv9⟩ : ∃ z : Int, z = if sg9 then -1 else 1 := ⟨_, rfl⟩
  rw [← hv9] at z1 z2
  have hsg : (v9 = -1 ∧ sg9 = true) ∨ (v9 = 1 ∧ sg9 = false) := by cases sg9; exact Or.inr ⟨hv9, rfl⟩; exact Or.inl ⟨hv9, rfl⟩
  have hs1 : sg9 = true ↔ 2147483648 ≤ x9.toNat := by rw [hs9, beq_iff_eq]; omega
  obtain ⟨Q, hQ⟩ : ∃ z, z = MQ below (cQc G N0 h s.heap.size (fun r h' => r = some (vI (fi x9)) ∧ h' = h)) args s 0 0 (cA h s.heap.size) := ⟨_, rfl⟩
  rw [← hQ]
  show Z _ _ _ _ _ _ _ _ _ _ _ _ _ _ _ _ _ _ _ [(0, vF x9)] []
  refine z_fload_n F dX8_bitsOfFloat_0 rfl 0 rfl ?_
  refine z_fconst0 F dX8_bitsOfFloat_1 ?_
  refine z_fcmp (op := .l) F dX8_bitsOfFloat_2 ?_
  refine z_if_ne (tgt := 8) F dX8_bitsOfFloat_3 (by decide) (iI_rng _) (fun c3 => ?_) (fun c3 => ?_)
  · refine z_fload_n F dX8_bitsOfFloat_8 rfl 0 rfl ?_
    refine z_fconst0 F dX8_bitsOfFloat_9 ?_
    refine z_fcmp (op := .g) F dX8_bitsOfFloat_10 ?_
    refine z_if_ge (tgt := 19) F dX8_bitsOfFloat_11 (by decide) (iI_rng _) (fun c11 => ?_) (fun c11 => ?_)
    · have e11 : sg9 = false := by rcases hsg with ⟨a, b⟩ | ⟨a, b⟩; exfalso; omega; exact b
      have hp : FNm x9 false cc9 qq9 := by rw [e11] at hn; exact hn
      have hs2 : ¬ 2147483648 ≤ x9.toNat := fun z => by rw [hs1.mpr z] at e11; cases e11
      refine z_fload_n F dX8_bitsOfFloat_19 rfl 0 rfl ?_
      refine z_fstore_n (lv' := [(1, vF x9), (0, vF x9)]) F dX8_bitsOfFloat_20 rfl (by decide) rfl ?_
      refine z_bipush F dX8_bitsOfFloat_21 (by decide) ?_
      refine z_istore_n (lv' := [(2, vI 127), (1, vF x9), (0, vF x9)]) F dX8_bitsOfFloat_23 rfl (by decide) rfl ?_
      have L24 : ∀ (fuel : Nat) (e9 : Int) (y9 : UInt32), (FNm y9 false cc9 (qq9 + 127 - e9)) → (127 ≤ e9 ∧ e9 ≤ 254 ∧ (e9 = 127 ∨ -23 ≤ qq9 + 127 - e9)) → 300 - e9 < (fuel : Int) → Z p l e ({ frames := 0, cells := 0, slots := 0, locals := 0 }) s m args below meth c 5 G N0 (cA h s.heap.size) Q h 0 0 24 [(2, vI e9), (1, vF y9), (0, vF x9)] [] := by
        intro fuel
        induction fuel with
        | zero => intro e9 y9  hy ha hm; exact absurd hm (by omega)
        | succ fuel ih24 =>
          intro e9 y9  hy ha hm
          have hc1 := hy.cmp (op := .l) kv2
          refine z_fload_n F dX8_bitsOfFloat_24 rfl 1 rfl ?_
          refine z_fconst2 F dX8_bitsOfFloat_25 ?_
          refine z_fcmp (op := .l) F dX8_bitsOfFloat_26 ?_
          refine z_if_lt (tgt := 47) F dX8_bitsOfFloat_27 (by decide) (iI_rng _) (fun c27 => ?_) (fun c27 => ?_)
          · have L47 : ∀ (fuel : Nat) (e8 : Int) (y8 : UInt32), (FNm y8 false cc9 (qq9 + 127 - e8)) → (qq9 + 150 ≤ e8 ∧ e8 ≤ 254) → e8 < (fuel : Int) → Z p l e ({ frames := 0, cells := 0, slots := 0, locals := 0 }) s m args below meth c 5 G N0 (cA h s.heap.size) Q h 0 0 47 [(2, vI e8), (1, vF y8), (0, vF x9)] [] := by
              intro fuel
              induction fuel with
              | zero => intro e8 y8  hy8 ha8 hm; exact absurd hm (by omega)
              | succ fuel ih47 =>
                intro e8 y8  hy8 ha8 hm
                have hc8 := hy8.cmp (op := .g) kv1
                refine z_fload_n F dX8_bitsOfFloat_47 rfl 1 rfl ?_
                refine z_fconst1 F dX8_bitsOfFloat_48 ?_
                refine z_fcmp (op := .g) F dX8_bitsOfFloat_49 ?_
                refine z_if_ge (tgt := 68) F dX8_bitsOfFloat_50 (by decide) (iI_rng _) (fun c50 => ?_) (fun c50 => ?_)
                · have hE : FNm y8 false cc9 (-23) := by rw [show (-23 : Int) = qq9 + 127 - e8 by omega]; exact hy8
                  have hfr := hE.frac
                  have he8 : e8 = qq9 + 150 := by omega
                  refine z_fload_n F dX8_bitsOfFloat_68 rfl 1 rfl ?_
                  refine z_fconst1 F dX8_bitsOfFloat_69 ?_
                  refine z_fsub F dX8_bitsOfFloat_70 (hfr.1) ?_
                  refine z_ldcwf F q1355 dX8_bitsOfFloat_71 ?_
                  refine z_fmul F dX8_bitsOfFloat_74 (hfr.2.1) ?_
                  refine z_f2i F dX8_bitsOfFloat_75 ?_
                  refine z_istore_n (lv' := [(3, vI ((FP.f2i (FP.fmul (FP.fsub y8 FP.fconst1) 1258291200)).toInt)), (2, vI e8), (1, vF y8), (0, vF x9)]) F dX8_bitsOfFloat_76 rfl (by decide) rfl ?_
                  refine z_fload_n F dX8_bitsOfFloat_77 rfl 3 rfl ?_
                  refine z_fconst0 F dX8_bitsOfFloat_78 ?_
                  refine z_fcmp (op := .g) F dX8_bitsOfFloat_79 ?_
                  refine z_if_ge (tgt := 89) F dX8_bitsOfFloat_80 (by decide) (iI_rng _) (fun c80 => ?_) (fun c80 => ?_)
                  · refine z_iconst F dX8_bitsOfFloat_89 ?_
                    refine z_istore (lv' := [(4, vI 0), (3, vI ((FP.f2i (FP.fmul (FP.fsub y8 FP.fconst1) 1258291200)).toInt)), (2, vI e8), (1, vF y8), (0, vF x9)]) F dX8_bitsOfFloat_90 (by decide) rfl ?_
                    refine z_iload F dX8_bitsOfFloat_92 0 rfl ?_
                    refine z_iload_n F dX8_bitsOfFloat_94 rfl 2 rfl ?_
                    refine z_bipush F dX8_bitsOfFloat_95 (by decide) ?_
                    refine z_ishl (z := e8 * 8388608) F dX8_bitsOfFloat_97 (shl_23 (by omega)) ?_
                    refine z_ior (z := 0 + e8 * 8388608) F dX8_bitsOfFloat_98 (or_31 (by omega) (by omega)) ?_
                    refine z_iload_n F dX8_bitsOfFloat_99 rfl 1 rfl ?_
                    refine z_ior (z := 0 + e8 * 8388608 + (FP.f2i (FP.fmul (FP.fsub y8 FP.fconst1) 1258291200)).toInt) F dX8_bitsOfFloat_100 (by have hb9 := or_23 (k := e8) (d := (FP.f2i (FP.fmul (FP.fsub y8 FP.fconst1) 1258291200)).toInt) (by omega) (by omega); rw [show (e8) * 8388608 = 0 + e8 * 8388608 by omega] at hb9; exact hb9) ?_
                    rw [hQ]
                    exact z_iret (nf_i _) F hr (Nat.le_of_ble_eq_true rfl) (Nat.le_of_ble_eq_true rfl) dX8_bitsOfFloat_101 (⟨rI (by rw [fi_nat, hfr.2.2]; split <;> omega), rfl⟩)
                  · exfalso; omega
                · refine z_iload_n F dX8_bitsOfFloat_53 rfl 0 rfl ?_
                  refine z_iconst F dX8_bitsOfFloat_54 ?_
                  refine z_icmp_le (tgt := 68) F dX8_bitsOfFloat_55 (by decide) (by omega) (by decide) (fun c55 => ?_) (fun c55 => ?_)
                  · exfalso; omega
                  · refine z_fload_n F dX8_bitsOfFloat_58 rfl 1 rfl ?_
                    refine z_fconst2 F dX8_bitsOfFloat_59 ?_
                    refine z_fmul F dX8_bitsOfFloat_60 ((hy8.dbl (by omega)).n) ?_
                    refine z_fstore_n (lv' := [(1, vF (FP.fmul y8 FP.fconst2)), (2, vI e8), (0, vF x9)]) F dX8_bitsOfFloat_61 rfl (by decide) rfl ?_
                    refine z_iinc (lv' := [(2, vI (e8 + (-1))), (1, vF (FP.fmul y8 FP.fconst2)), (0, vF x9)]) F dX8_bitsOfFloat_62 1 rfl (by decide) rfl ?_
                    refine z_goto (tgt := 47) F dX8_bitsOfFloat_65 (by decide) ?_
                    exact ih47 (e8 + (-1)) (FP.fmul y8 FP.fconst2) (by have := hy8.dbl (by omega); rw [show qq9 + 127 - (e8 + (-1)) = qq9 + 127 - e8 + 1 by omega]; exact this) (by omega) (by omega)
            exact L47 ((e9 : Int).toNat + 1) e9 y9 (hy) (by omega) (by omega)
          · refine z_iload_n F dX8_bitsOfFloat_30 rfl 0 rfl ?_
            refine z_sipush F dX8_bitsOfFloat_31 (by decide) ?_
            refine z_icmp_ge (tgt := 47) F dX8_bitsOfFloat_34 (by decide) (by omega) (by decide) (fun c34 => ?_) (fun c34 => ?_)
            · have L47 : ∀ (fuel : Nat) (e8 : Int) (y8 : UInt32), (FNm y8 false cc9 (qq9 + 127 - e8)) → (qq9 + 150 ≤ e8 ∧ e8 ≤ 254) → e8 < (fuel : Int) → Z p l e ({ frames := 0, cells := 0, slots := 0, locals := 0 }) s m args below meth c 5 G N0 (cA h s.heap.size) Q h 0 0 47 [(2, vI e8), (1, vF y8), (0, vF x9)] [] := by
                intro fuel
                induction fuel with
                | zero => intro e8 y8  hy8 ha8 hm; exact absurd hm (by omega)
                | succ fuel ih47 =>
                  intro e8 y8  hy8 ha8 hm
                  have hc8 := hy8.cmp (op := .g) kv1
                  refine z_fload_n F dX8_bitsOfFloat_47 rfl 1 rfl ?_
                  refine z_fconst1 F dX8_bitsOfFloat_48 ?_
                  refine z_fcmp (op := .g) F dX8_bitsOfFloat_49 ?_
                  refine z_if_ge (tgt := 68) F dX8_bitsOfFloat_50 (by decide) (iI_rng _) (fun c50 => ?_) (fun c50 => ?_)
                  · have hE : FNm y8 false cc9 (-23) := by rw [show (-23 : Int) = qq9 + 127 - e8 by omega]; exact hy8
                    have hfr := hE.frac
                    have he8 : e8 = qq9 + 150 := by omega
                    refine z_fload_n F dX8_bitsOfFloat_68 rfl 1 rfl ?_
                    refine z_fconst1 F dX8_bitsOfFloat_69 ?_
                    refine z_fsub F dX8_bitsOfFloat_70 (hfr.1) ?_
                    refine z_ldcwf F q1355 dX8_bitsOfFloat_71 ?_
                    refine z_fmul F dX8_bitsOfFloat_74 (hfr.2.1) ?_
                    refine z_f2i F dX8_bitsOfFloat_75 ?_
                    refine z_istore_n (lv' := [(3, vI ((FP.f2i (FP.fmul (FP.fsub y8 FP.fconst1) 1258291200)).toInt)), (2, vI e8), (1, vF y8), (0, vF x9)]) F dX8_bitsOfFloat_76 rfl (by decide) rfl ?_
                    refine z_fload_n F dX8_bitsOfFloat_77 rfl 3 rfl ?_
                    refine z_fconst0 F dX8_bitsOfFloat_78 ?_
                    refine z_fcmp (op := .g) F dX8_bitsOfFloat_79 ?_
                    refine z_if_ge (tgt := 89) F dX8_bitsOfFloat_80 (by decide) (iI_rng _) (fun c80 => ?_) (fun c80 => ?_)
                    · refine z_iconst F dX8_bitsOfFloat_89 ?_
                      refine z_istore (lv' := [(4, vI 0), (3, vI ((FP.f2i (FP.fmul (FP.fsub y8 FP.fconst1) 1258291200)).toInt)), (2, vI e8), (1, vF y8), (0, vF x9)]) F dX8_bitsOfFloat_90 (by decide) rfl ?_
                      refine z_iload F dX8_bitsOfFloat_92 0 rfl ?_
                      refine z_iload_n F dX8_bitsOfFloat_94 rfl 2 rfl ?_
                      refine z_bipush F dX8_bitsOfFloat_95 (by decide) ?_
                      refine z_ishl (z := e8 * 8388608) F dX8_bitsOfFloat_97 (shl_23 (by omega)) ?_
                      refine z_ior (z := 0 + e8 * 8388608) F dX8_bitsOfFloat_98 (or_31 (by omega) (by omega)) ?_
                      refine z_iload_n F dX8_bitsOfFloat_99 rfl 1 rfl ?_
                      refine z_ior (z := 0 + e8 * 8388608 + (FP.f2i (FP.fmul (FP.fsub y8 FP.fconst1) 1258291200)).toInt) F dX8_bitsOfFloat_100 (by have hb9 := or_23 (k := e8) (d := (FP.f2i (FP.fmul (FP.fsub y8 FP.fconst1) 1258291200)).toInt) (by omega) (by omega); rw [show (e8) * 8388608 = 0 + e8 * 8388608 by omega] at hb9; exact hb9) ?_
                      rw [hQ]
                      exact z_iret (nf_i _) F hr (Nat.le_of_ble_eq_true rfl) (Nat.le_of_ble_eq_true rfl) dX8_bitsOfFloat_101 (⟨rI (by rw [fi_nat, hfr.2.2]; split <;> omega), rfl⟩)
                    · exfalso; omega
                  · refine z_iload_n F dX8_bitsOfFloat_53 rfl 0 rfl ?_
                    refine z_iconst F dX8_bitsOfFloat_54 ?_
                    refine z_icmp_le (tgt := 68) F dX8_bitsOfFloat_55 (by decide) (by omega) (by decide) (fun c55 => ?_) (fun c55 => ?_)
                    · exfalso; omega
                    · refine z_fload_n F dX8_bitsOfFloat_58 rfl 1 rfl ?_
                      refine z_fconst2 F dX8_bitsOfFloat_59 ?_
                      refine z_fmul F dX8_bitsOfFloat_60 ((hy8.dbl (by omega)).n) ?_
                      refine z_fstore_n (lv' := [(1, vF (FP.fmul y8 FP.fconst2)), (2, vI e8), (0, vF x9)]) F dX8_bitsOfFloat_61 rfl (by decide) rfl ?_
                      refine z_iinc (lv' := [(2, vI (e8 + (-1))), (1, vF (FP.fmul y8 FP.fconst2)), (0, vF x9)]) F dX8_bitsOfFloat_62 1 rfl (by decide) rfl ?_
                      refine z_goto (tgt := 47) F dX8_bitsOfFloat_65 (by decide) ?_
                      exact ih47 (e8 + (-1)) (FP.fmul y8 FP.fconst2) (by have := hy8.dbl (by omega); rw [show qq9 + 127 - (e8 + (-1)) = qq9 + 127 - e8 + 1 by omega]; exact this) (by omega) (by omega)
              exact L47 ((e9 : Int).toNat + 1) e9 y9 (hy) (by omega) (by omega)
            · refine z_fload_n F dX8_bitsOfFloat_37 rfl 1 rfl ?_
              refine z_fconst2 F dX8_bitsOfFloat_38 ?_
              refine z_fdiv F dX8_bitsOfFloat_39 ((hy.half (by omega)).n) ?_
              refine z_fstore_n (lv' := [(1, vF (FP.fdiv y9 FP.fconst2)), (2, vI e9), (0, vF x9)]) F dX8_bitsOfFloat_40 rfl (by decide) rfl ?_
              refine z_iinc (lv' := [(2, vI (e9 + 1)), (1, vF (FP.fdiv y9 FP.fconst2)), (0, vF x9)]) F dX8_bitsOfFloat_41 1 rfl (by decide) rfl ?_
              refine z_goto (tgt := 24) F dX8_bitsOfFloat_44 (by decide) ?_
              exact ih24 (e9 + 1) (FP.fdiv y9 FP.fconst2) (by have := hy.half (by omega); rw [show qq9 + 127 - (e9 + 1) = qq9 + 127 - e9 - 1 by omega]; exact this) (by omega) (by omega)
      exact L24 ((300 - 127 : Int).toNat + 1) 127 x9 (by rw [show qq9 + 127 - 127 = qq9 by omega]; exact hp) (by omega) (by omega)
    · have e11 : sg9 = true := by rcases hsg with ⟨a, b⟩ | ⟨a, b⟩; exact b; exfalso; omega
      have hp : FNm (FP.fneg x9) false cc9 qq9 := by have := hn.neg; rw [e11] at this; exact this
      have hs2 : 2147483648 ≤ x9.toNat := hs1.mp e11
      refine z_fload_n F dX8_bitsOfFloat_14 rfl 0 rfl ?_
      refine z_fneg F dX8_bitsOfFloat_15 ?_
      refine z_goto (tgt := 20) F dX8_bitsOfFloat_16 (by decide) ?_
      refine z_fstore_n (lv' := [(1, vF (FP.fneg x9)), (0, vF x9)]) F dX8_bitsOfFloat_20 rfl (by decide) rfl ?_
      refine z_bipush F dX8_bitsOfFloat_21 (by decide) ?_
      refine z_istore_n (lv' := [(2, vI 127), (1, vF (FP.fneg x9)), (0, vF x9)]) F dX8_bitsOfFloat_23 rfl (by decide) rfl ?_
      have L24 : ∀ (fuel : Nat) (e9 : Int) (y9 : UInt32), (FNm y9 false cc9 (qq9 + 127 - e9)) → (127 ≤ e9 ∧ e9 ≤ 254 ∧ (e9 = 127 ∨ -23 ≤ qq9 + 127 - e9)) → 300 - e9 < (fuel : Int) → Z p l e ({ frames := 0, cells := 0, slots := 0, locals := 0 }) s m args below meth c 5 G N0 (cA h s.heap.size) Q h 0 0 24 [(2, vI e9), (1, vF y9), (0, vF x9)] [] := by
        intro fuel
        induction fuel with
        | zero => intro e9 y9  hy ha hm; exact absurd hm (by omega)
        | succ fuel ih24 =>
          intro e9 y9  hy ha hm
          have hc1 := hy.cmp (op := .l) kv2
          refine z_fload_n F dX8_bitsOfFloat_24 rfl 1 rfl ?_
          refine z_fconst2 F dX8_bitsOfFloat_25 ?_
          refine z_fcmp (op := .l) F dX8_bitsOfFloat_26 ?_
          refine z_if_lt (tgt := 47) F dX8_bitsOfFloat_27 (by decide) (iI_rng _) (fun c27 => ?_) (fun c27 => ?_)
          · have L47 : ∀ (fuel : Nat) (e8 : Int) (y8 : UInt32), (FNm y8 false cc9 (qq9 + 127 - e8)) → (qq9 + 150 ≤ e8 ∧ e8 ≤ 254) → e8 < (fuel : Int) → Z p l e ({ frames := 0, cells := 0, slots := 0, locals := 0 }) s m args below meth c 5 G N0 (cA h s.heap.size) Q h 0 0 47 [(2, vI e8), (1, vF y8), (0, vF x9)] [] := by
              intro fuel
              induction fuel with
              | zero => intro e8 y8  hy8 ha8 hm; exact absurd hm (by omega)
              | succ fuel ih47 =>
                intro e8 y8  hy8 ha8 hm
                have hc8 := hy8.cmp (op := .g) kv1
                refine z_fload_n F dX8_bitsOfFloat_47 rfl 1 rfl ?_
                refine z_fconst1 F dX8_bitsOfFloat_48 ?_
                refine z_fcmp (op := .g) F dX8_bitsOfFloat_49 ?_
                refine z_if_ge (tgt := 68) F dX8_bitsOfFloat_50 (by decide) (iI_rng _) (fun c50 => ?_) (fun c50 => ?_)
                · have hE : FNm y8 false cc9 (-23) := by rw [show (-23 : Int) = qq9 + 127 - e8 by omega]; exact hy8
                  have hfr := hE.frac
                  have he8 : e8 = qq9 + 150 := by omega
                  refine z_fload_n F dX8_bitsOfFloat_68 rfl 1 rfl ?_
                  refine z_fconst1 F dX8_bitsOfFloat_69 ?_
                  refine z_fsub F dX8_bitsOfFloat_70 (hfr.1) ?_
                  refine z_ldcwf F q1355 dX8_bitsOfFloat_71 ?_
                  refine z_fmul F dX8_bitsOfFloat_74 (hfr.2.1) ?_
                  refine z_f2i F dX8_bitsOfFloat_75 ?_
                  refine z_istore_n (lv' := [(3, vI ((FP.f2i (FP.fmul (FP.fsub y8 FP.fconst1) 1258291200)).toInt)), (2, vI e8), (1, vF y8), (0, vF x9)]) F dX8_bitsOfFloat_76 rfl (by decide) rfl ?_
                  refine z_fload_n F dX8_bitsOfFloat_77 rfl 3 rfl ?_
                  refine z_fconst0 F dX8_bitsOfFloat_78 ?_
                  refine z_fcmp (op := .g) F dX8_bitsOfFloat_79 ?_
                  refine z_if_ge (tgt := 89) F dX8_bitsOfFloat_80 (by decide) (iI_rng _) (fun c80 => ?_) (fun c80 => ?_)
                  · exfalso; omega
                  · refine z_ldcw F q1356 dX8_bitsOfFloat_83 ?_
                    refine z_goto (tgt := 90) F dX8_bitsOfFloat_86 (by decide) ?_
                    refine z_istore (lv' := [(4, vI (-2147483648)), (3, vI ((FP.f2i (FP.fmul (FP.fsub y8 FP.fconst1) 1258291200)).toInt)), (2, vI e8), (1, vF y8), (0, vF x9)]) F dX8_bitsOfFloat_90 (by decide) rfl ?_
                    refine z_iload F dX8_bitsOfFloat_92 0 rfl ?_
                    refine z_iload_n F dX8_bitsOfFloat_94 rfl 2 rfl ?_
                    refine z_bipush F dX8_bitsOfFloat_95 (by decide) ?_
                    refine z_ishl (z := e8 * 8388608) F dX8_bitsOfFloat_97 (shl_23 (by omega)) ?_
                    refine z_ior (z := (-2147483648) + e8 * 8388608) F dX8_bitsOfFloat_98 (or_31 (by omega) (by omega)) ?_
                    refine z_iload_n F dX8_bitsOfFloat_99 rfl 1 rfl ?_
                    refine z_ior (z := (-2147483648) + e8 * 8388608 + (FP.f2i (FP.fmul (FP.fsub y8 FP.fconst1) 1258291200)).toInt) F dX8_bitsOfFloat_100 (by have hb9 := or_23 (k := e8 - 256) (d := (FP.f2i (FP.fmul (FP.fsub y8 FP.fconst1) 1258291200)).toInt) (by omega) (by omega); rw [show (e8 - 256) * 8388608 = (-2147483648) + e8 * 8388608 by omega] at hb9; exact hb9) ?_
                    rw [hQ]
                    exact z_iret (nf_i _) F hr (Nat.le_of_ble_eq_true rfl) (Nat.le_of_ble_eq_true rfl) dX8_bitsOfFloat_101 (⟨rI (by rw [fi_nat, hfr.2.2]; split <;> omega), rfl⟩)
                · refine z_iload_n F dX8_bitsOfFloat_53 rfl 0 rfl ?_
                  refine z_iconst F dX8_bitsOfFloat_54 ?_
                  refine z_icmp_le (tgt := 68) F dX8_bitsOfFloat_55 (by decide) (by omega) (by decide) (fun c55 => ?_) (fun c55 => ?_)
                  · exfalso; omega
                  · refine z_fload_n F dX8_bitsOfFloat_58 rfl 1 rfl ?_
                    refine z_fconst2 F dX8_bitsOfFloat_59 ?_
                    refine z_fmul F dX8_bitsOfFloat_60 ((hy8.dbl (by omega)).n) ?_
                    refine z_fstore_n (lv' := [(1, vF (FP.fmul y8 FP.fconst2)), (2, vI e8), (0, vF x9)]) F dX8_bitsOfFloat_61 rfl (by decide) rfl ?_
                    refine z_iinc (lv' := [(2, vI (e8 + (-1))), (1, vF (FP.fmul y8 FP.fconst2)), (0, vF x9)]) F dX8_bitsOfFloat_62 1 rfl (by decide) rfl ?_
                    refine z_goto (tgt := 47) F dX8_bitsOfFloat_65 (by decide) ?_
                    exact ih47 (e8 + (-1)) (FP.fmul y8 FP.fconst2) (by have := hy8.dbl (by omega); rw [show qq9 + 127 - (e8 + (-1)) = qq9 + 127 - e8 + 1 by omega]; exact this) (by omega) (by omega)
            exact L47 ((e9 : Int).toNat + 1) e9 y9 (hy) (by omega) (by omega)
          · refine z_iload_n F dX8_bitsOfFloat_30 rfl 0 rfl ?_
            refine z_sipush F dX8_bitsOfFloat_31 (by decide) ?_
            refine z_icmp_ge (tgt := 47) F dX8_bitsOfFloat_34 (by decide) (by omega) (by decide) (fun c34 => ?_) (fun c34 => ?_)
            · have L47 : ∀ (fuel : Nat) (e8 : Int) (y8 : UInt32), (FNm y8 false cc9 (qq9 + 127 - e8)) → (qq9 + 150 ≤ e8 ∧ e8 ≤ 254) → e8 < (fuel : Int) → Z p l e ({ frames := 0, cells := 0, slots := 0, locals := 0 }) s m args below meth c 5 G N0 (cA h s.heap.size) Q h 0 0 47 [(2, vI e8), (1, vF y8), (0, vF x9)] [] := by
                intro fuel
                induction fuel with
                | zero => intro e8 y8  hy8 ha8 hm; exact absurd hm (by omega)
                | succ fuel ih47 =>
                  intro e8 y8  hy8 ha8 hm
                  have hc8 := hy8.cmp (op := .g) kv1
                  refine z_fload_n F dX8_bitsOfFloat_47 rfl 1 rfl ?_
                  refine z_fconst1 F dX8_bitsOfFloat_48 ?_
                  refine z_fcmp (op := .g) F dX8_bitsOfFloat_49 ?_
                  refine z_if_ge (tgt := 68) F dX8_bitsOfFloat_50 (by decide) (iI_rng _) (fun c50 => ?_) (fun c50 => ?_)
                  · have hE : FNm y8 false cc9 (-23) := by rw [show (-23 : Int) = qq9 + 127 - e8 by omega]; exact hy8
                    have hfr := hE.frac
                    have he8 : e8 = qq9 + 150 := by omega
                    refine z_fload_n F dX8_bitsOfFloat_68 rfl 1 rfl ?_
                    refine z_fconst1 F dX8_bitsOfFloat_69 ?_
                    refine z_fsub F dX8_bitsOfFloat_70 (hfr.1) ?_
                    refine z_ldcwf F q1355 dX8_bitsOfFloat_71 ?_
                    refine z_fmul F dX8_bitsOfFloat_74 (hfr.2.1) ?_
                    refine z_f2i F dX8_bitsOfFloat_75 ?_
                    refine z_istore_n (lv' := [(3, vI ((FP.f2i (FP.fmul (FP.fsub y8 FP.fconst1) 1258291200)).toInt)), (2, vI e8), (1, vF y8), (0, vF x9)]) F dX8_bitsOfFloat_76 rfl (by decide) rfl ?_
                    refine z_fload_n F dX8_bitsOfFloat_77 rfl 3 rfl ?_
                    refine z_fconst0 F dX8_bitsOfFloat_78 ?_
                    refine z_fcmp (op := .g) F dX8_bitsOfFloat_79 ?_
                    refine z_if_ge (tgt := 89) F dX8_bitsOfFloat_80 (by decide) (iI_rng _) (fun c80 => ?_) (fun c80 => ?_)
                    · exfalso; omega
                    · refine z_ldcw F q1356 dX8_bitsOfFloat_83 ?_
                      refine z_goto (tgt := 90) F dX8_bitsOfFloat_86 (by decide) ?_
                      refine z_istore (lv' := [(4, vI (-2147483648)), (3, vI ((FP.f2i (FP.fmul (FP.fsub y8 FP.fconst1) 1258291200)).toInt)), (2, vI e8), (1, vF y8), (0, vF x9)]) F dX8_bitsOfFloat_90 (by decide) rfl ?_
                      refine z_iload F dX8_bitsOfFloat_92 0 rfl ?_
                      refine z_iload_n F dX8_bitsOfFloat_94 rfl 2 rfl ?_
                      refine z_bipush F dX8_bitsOfFloat_95 (by decide) ?_
                      refine z_ishl (z := e8 * 8388608) F dX8_bitsOfFloat_97 (shl_23 (by omega)) ?_
                      refine z_ior (z := (-2147483648) + e8 * 8388608) F dX8_bitsOfFloat_98 (or_31 (by omega) (by omega)) ?_
                      refine z_iload_n F dX8_bitsOfFloat_99 rfl 1 rfl ?_
                      refine z_ior (z := (-2147483648) + e8 * 8388608 + (FP.f2i (FP.fmul (FP.fsub y8 FP.fconst1) 1258291200)).toInt) F dX8_bitsOfFloat_100 (by have hb9 := or_23 (k := e8 - 256) (d := (FP.f2i (FP.fmul (FP.fsub y8 FP.fconst1) 1258291200)).toInt) (by omega) (by omega); rw [show (e8 - 256) * 8388608 = (-2147483648) + e8 * 8388608 by omega] at hb9; exact hb9) ?_
                      rw [hQ]
                      exact z_iret (nf_i _) F hr (Nat.le_of_ble_eq_true rfl) (Nat.le_of_ble_eq_true rfl) dX8_bitsOfFloat_101 (⟨rI (by rw [fi_nat, hfr.2.2]; split <;> omega), rfl⟩)
                  · refine z_iload_n F dX8_bitsOfFloat_53 rfl 0 rfl ?_
                    refine z_iconst F dX8_bitsOfFloat_54 ?_
                    refine z_icmp_le (tgt := 68) F dX8_bitsOfFloat_55 (by decide) (by omega) (by decide) (fun c55 => ?_) (fun c55 => ?_)
                    · exfalso; omega
                    · refine z_fload_n F dX8_bitsOfFloat_58 rfl 1 rfl ?_
                      refine z_fconst2 F dX8_bitsOfFloat_59 ?_
                      refine z_fmul F dX8_bitsOfFloat_60 ((hy8.dbl (by omega)).n) ?_
                      refine z_fstore_n (lv' := [(1, vF (FP.fmul y8 FP.fconst2)), (2, vI e8), (0, vF x9)]) F dX8_bitsOfFloat_61 rfl (by decide) rfl ?_
                      refine z_iinc (lv' := [(2, vI (e8 + (-1))), (1, vF (FP.fmul y8 FP.fconst2)), (0, vF x9)]) F dX8_bitsOfFloat_62 1 rfl (by decide) rfl ?_
                      refine z_goto (tgt := 47) F dX8_bitsOfFloat_65 (by decide) ?_
                      exact ih47 (e8 + (-1)) (FP.fmul y8 FP.fconst2) (by have := hy8.dbl (by omega); rw [show qq9 + 127 - (e8 + (-1)) = qq9 + 127 - e8 + 1 by omega]; exact this) (by omega) (by omega)
              exact L47 ((e9 : Int).toNat + 1) e9 y9 (hy) (by omega) (by omega)
            · refine z_fload_n F dX8_bitsOfFloat_37 rfl 1 rfl ?_
              refine z_fconst2 F dX8_bitsOfFloat_38 ?_
              refine z_fdiv F dX8_bitsOfFloat_39 ((hy.half (by omega)).n) ?_
              refine z_fstore_n (lv' := [(1, vF (FP.fdiv y9 FP.fconst2)), (2, vI e9), (0, vF x9)]) F dX8_bitsOfFloat_40 rfl (by decide) rfl ?_
              refine z_iinc (lv' := [(2, vI (e9 + 1)), (1, vF (FP.fdiv y9 FP.fconst2)), (0, vF x9)]) F dX8_bitsOfFloat_41 1 rfl (by decide) rfl ?_
              refine z_goto (tgt := 24) F dX8_bitsOfFloat_44 (by decide) ?_
              exact ih24 (e9 + 1) (FP.fdiv y9 FP.fconst2) (by have := hy.half (by omega); rw [show qq9 + 127 - (e9 + 1) = qq9 + 127 - e9 - 1 by omega]; exact this) (by omega) (by omega)
      exact L24 ((300 - 127 : Int).toNat + 1) 127 (FP.fneg x9) (by rw [show qq9 + 127 - 127 = qq9 by omega]; exact hp) (by omega) (by omega)
  · exfalso; rcases hsg with ⟨a, b⟩ | ⟨a, b⟩ <;> omega
set_option maxRecDepth 100000 in
set_option maxHeartbeats 4000000 in
theorem mX8_bitsOfFloat0 (l : Launch) (G : GG) (N0 : Nat) (h : Hp)  : Ct l G N0 yX8_bitsOfFloat (Cond.code yX8_bitsOfFloat cX8_bitsOfFloat 5 (some FieldType.int) :: LW) ({ frames := 0, cells := 0, slots := 0, locals := 0 }) [vF 0] h (fun r h' => r = some (vI (fi 0)) ∧ h' = h) := by
  refine ct_of rfl rfl ?_
  intro p e s m args below meth c F hr hnm
  have F : Fx p s m args meth c RX8 cX8_bitsOfFloat 5 G N0 (cA h s.heap.size) := F
  show Z _ _ _ _ _ _ _ _ _ _ _ _ _ _ _ _ _ _ _ [(0, vF 0)] []
  refine z_fload_n F dX8_bitsOfFloat_0 rfl 0 rfl ?_
  refine z_fconst0 F dX8_bitsOfFloat_1 ?_
  refine z_fcmp (op := .l) F dX8_bitsOfFloat_2 ?_
  refine z_if_ne (tgt := 8) F dX8_bitsOfFloat_3 (by decide) (iI_rng _) (fun c3 => ?_) (fun c3 => ?_)
  · exfalso; exact c3 (by decide +kernel)
  · refine z_iconst F dX8_bitsOfFloat_6 ?_
    exact z_iret (nf_i _) F hr (Nat.le_of_ble_eq_true rfl) (Nat.le_of_ble_eq_true rfl) dX8_bitsOfFloat_7 (⟨rfl, rfl⟩)
theorem mX8_bitsOfFloat (l : Launch) (G : GG) (N0 : Nat) (h : Hp) {x : UInt32} (hx : NB x) : Ct l G N0 yX8_bitsOfFloat (Cond.code yX8_bitsOfFloat cX8_bitsOfFloat 5 (some FieldType.int) :: LW) ({ frames := 0, cells := 0, slots := 0, locals := 0 }) [vF x] h (fun r h' => r = some (vI (fi x)) ∧ h' = h) := by
  rcases hx with z | z
  · rw [z]; exact mX8_bitsOfFloat0 l G N0 h
  · exact mX8_bitsOfFloat1 l G N0 h x (by omega) (by omega)
set_option maxRecDepth 100000 in
set_option maxHeartbeats 4000000 in
theorem mX8_totalBits (l : Launch) (G : GG) (N0 : Nat) (h : Hp) (hl9 : l.stackTraces = false) (g : Int → Nat) (ρ : Sg) (i9 : Int) (hI : CI G g ρ h) (hV : MC ρ) (r_i9 : -2147483648 ≤ i9 ∧ i9 < 2147483648) : CtX l G N0 yX8_totalBits (Cond.code yX8_totalBits cX8_totalBits 2 (some FieldType.int) :: LW) ({ frames := 7, cells := 4, slots := 24, locals := 260 }) [vR (g 0), vI i9] h (fun r h' => ¬ (¬ (0 ≤ i9 ∧ i9 < ρ 16 0)) ∧ ∃ ρ', r = some (vI (fi (fb (ρ 23 i9)))) ∧ SA (ρ) ρ' ∧ CI G g ρ' h') (fun E h' => ∃ ρ', SA ρ ρ' ∧ CI G g ρ' h' ∧ ((E = "java/lang/IndexOutOfBoundsException" ∧ (¬ (0 ≤ i9 ∧ i9 < ρ 16 0))))) := by
  refine ctX_of rfl rfl ?_
  intro p e s m args below meth c F hr htab
  have F : Fx p s m args meth c RX8 cX8_totalBits 2 G N0 (cA h s.heap.size) := F
  obtain ⟨v0, v1, v2, v8, v16, v24, v39, vC, vE, vJ, vK, vB, vO⟩ := id hV
  show Z _ _ _ _ _ _ _ _ _ _ _ _ _ _ _ _ _ _ _ [(0, vR (g 0)), (1, vI i9)] []
  refine z_aload_n F dX8_totalBits_0 rfl 0 rfl ?_
  refine z_iload_n F dX8_totalBits_1 rfl 1 rfl ?_
  refine z_xcallV (As := [vI i9]) (st := []) F htab (mX8_invoiceAt l G N0 h hl9 g ρ i9 hI hV (by omega)) cvX8_282 (ci_0 hI) (fun r9 h9 => by cases h9; rfl) rfl rfl ⟨Nat.le_of_ble_eq_true rfl, Nat.le_of_ble_eq_true rfl⟩ rfl ⟨Nat.le_of_ble_eq_true rfl, Nat.le_of_ble_eq_true rfl⟩ dX8_totalBits_2 (fun E h9 hx => by obtain ⟨e1, rfl⟩ := hx; refine ⟨ρ, SA.refl _, hI, ?_⟩; obtain ⟨rfl, e2⟩ := e1; first | exact ⟨rfl, by omega⟩) (Nat.le_of_ble_eq_true rfl) (Nat.le_of_ble_eq_true rfl) ?_
  rintro _ h9 ⟨f2_0, rfl, hh9⟩
  rw [hh9]
  clear hh9 h9
  show Z _ _ _ _ _ _ _ _ _ _ _ _ _ _ _ _ _ _ _ _ [vR (aI ρ i9)]
  have J9 := vJ i9 (by omega) (by omega)
  refine z_get (v := vF (fb (ρ 23 i9))) F (ci_i hI (show 0 ≤ i9 ∧ i9 < ρ 39 0 ∧ i9 < 100 from by omega)) fX8_308 rfl dX8_totalBits_5 ?_
  refine z_callS (As := [vF (fb (ρ 23 i9))]) (st := []) F (mX8_bitsOfFloat l G N0 h J9.2.2.2.2.1) csX8_311 rfl rfl ⟨Nat.le_of_ble_eq_true rfl, Nat.le_of_ble_eq_true rfl⟩ rfl ⟨Nat.le_of_ble_eq_true rfl, Nat.le_of_ble_eq_true rfl⟩ dX8_totalBits_8 ?_
  rintro _ h9 ⟨rfl, hh9⟩
  rw [hh9]
  clear hh9 h9
  show Z _ _ _ _ _ _ _ _ _ _ _ _ _ _ _ _ _ _ _ _ [vI (fi (fb (ρ 23 i9)))]
  exact z_iretX (nf_i _) F hr (Nat.le_of_ble_eq_true rfl) (Nat.le_of_ble_eq_true rfl) dX8_totalBits_11 (⟨by omega, ρ, rI (by first | rfl | omega), SA.refl _, hI⟩)
