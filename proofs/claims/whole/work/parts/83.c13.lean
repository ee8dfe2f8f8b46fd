set_option maxRecDepth 100000 in
set_option maxHeartbeats 4000000 in
theorem mX8_bitsOfDouble1 (l : Launch) (G : GG) (N0 : Nat) (h : Hp) (x9 : UInt64) (h0 : 4503599627370496 ≤ x9.toNat % 9223372036854775808) (h1 : x9.toNat % 9223372036854775808 < 9218868437227405312) (hs : x9.toNat < 9223372036854775808) : Ct l G N0 yX8_bitsOfDouble (Cond.code yX8_bitsOfDouble cX8_bitsOfDouble 8 (some FieldType.long) :: LW) ({ frames := 0, cells := 0, slots := 0, locals := 0 }) [vD x9] h (fun r h' => r = some (vL x9.toInt64.toInt) ∧ h' = h) := by
  refine ct_of rfl rfl ?_
  intro p e s m args below meth c F hr hnm
  have F : Fx p s m args meth c RX8 cX8_bitsOfDouble 8 G N0 (cA h s.heap.size) := F
  have hn := DNm_of h0 h1
  rw [show (x9.toNat / 4503599627370496 / 2048 % 2 == 1) = false from beq_eq_false_iff_ne.mpr (by omega)] at hn
  obtain ⟨cc9, hcc⟩ : ∃ z : Nat, z = 4503599627370496 + x9.toNat % 4503599627370496 := ⟨_, rfl⟩
  obtain ⟨qq9, hqq⟩ : ∃ z : Int, z = -1074 + (((x9.toNat / 4503599627370496 % 2048 : Nat) : Int) - 1) := ⟨_, rfl⟩
  rw [← hcc, ← hqq] at hn
  have hp := hn
  have hcq := hn.2
  have z2 := hn.cmp0 (op := .g)
  have z3 : (Op.cmpValue (FP.dcmp x9 FP.dconst0) .g).toInt = 1 := z2
  obtain ⟨Q, hQ⟩ : ∃ z, z = MQ below (cQc G N0 h s.heap.size (fun r h' => r = some (vL x9.toInt64.toInt) ∧ h' = h)) args s 0 0 (cA h s.heap.size) := ⟨_, rfl⟩
  rw [← hQ]
  show Z _ _ _ _ _ _ _ _ _ _ _ _ _ _ _ _ _ _ _ [(0, vD x9)] []
  refine z_dload_n F dX8_bitsOfDouble_0 rfl 0 rfl ?_
  refine z_dconst0 F dX8_bitsOfDouble_1 ?_
  refine z_dcmp (op := .g) F dX8_bitsOfDouble_2 ?_
  refine z_if_gt (tgt := 8) F dX8_bitsOfDouble_3 (by decide) (iI_rng _) (fun c3 => ?_) (fun c3 => ?_)
  · refine z_dload_n F dX8_bitsOfDouble_8 rfl 0 rfl ?_
    refine z_dstore_n (lv' := [(2, vD x9), (0, vD x9)]) F dX8_bitsOfDouble_9 rfl (by decide) rfl ?_
    refine z_ldc2 F q1465 dX8_bitsOfDouble_10 ?_
    refine z_lstore (lv' := [(4, vL 1023), (2, vD x9), (0, vD x9)]) F dX8_bitsOfDouble_13 (by decide) rfl ?_
    have L15 : ∀ (fuel : Nat) (e9 : Int) (y9 : UInt64), (DNm y9 false cc9 (qq9 + 1023 - e9)) → (1023 ≤ e9 ∧ e9 ≤ 2046 ∧ (e9 = 1023 ∨ -52 ≤ qq9 + 1023 - e9)) → 3000 - e9 < (fuel : Int) → Z p l e ({ frames := 0, cells := 0, slots := 0, locals := 0 }) s m args below meth c 8 G N0 (cA h s.heap.size) Q h 0 0 15 [(4, vL e9), (2, vD y9), (0, vD x9)] [] := by
      intro fuel
      induction fuel with
      | zero => intro e9 y9  hy ha hm; exact absurd hm (by omega)
      | succ fuel ih15 =>
        intro e9 y9  hy ha hm
        have hc1 := hy.cmp (op := .l) kd2
        refine z_dload_n F dX8_bitsOfDouble_15 rfl 1 rfl ?_
        refine z_ldc2d F q1466 dX8_bitsOfDouble_16 ?_
        refine z_dcmp (op := .l) F dX8_bitsOfDouble_19 ?_
        refine z_if_lt (tgt := 47) F dX8_bitsOfDouble_20 (by decide) (iI_rng _) (fun c20 => ?_) (fun c20 => ?_)
        · have L47 : ∀ (fuel : Nat) (e8 : Int) (y8 : UInt64), (DNm y8 false cc9 (qq9 + 1023 - e8)) → (qq9 + 1075 ≤ e8 ∧ e8 ≤ 2046) → e8 < (fuel : Int) → Z p l e ({ frames := 0, cells := 0, slots := 0, locals := 0 }) s m args below meth c 8 G N0 (cA h s.heap.size) Q h 0 0 47 [(4, vL e8), (2, vD y8), (0, vD x9)] [] := by
            intro fuel
            induction fuel with
            | zero => intro e8 y8  hy8 ha8 hm; exact absurd hm (by omega)
            | succ fuel ih47 =>
              intro e8 y8  hy8 ha8 hm
              have hc8 := hy8.cmp (op := .g) kd1
              refine z_dload_n F dX8_bitsOfDouble_47 rfl 1 rfl ?_
              refine z_dconst1 F dX8_bitsOfDouble_48 ?_
              refine z_dcmp (op := .g) F dX8_bitsOfDouble_49 ?_
              refine z_if_ge (tgt := 75) F dX8_bitsOfDouble_50 (by decide) (iI_rng _) (fun c50 => ?_) (fun c50 => ?_)
              · have hE : DNm y8 false cc9 (-52) := by rw [show (-52 : Int) = qq9 + 1023 - e8 by omega]; exact hy8
                have hfr := hE.frac
                have he8 : e8 = qq9 + 1075 := by omega
                refine z_dload_n F dX8_bitsOfDouble_75 rfl 1 rfl ?_
                refine z_dconst1 F dX8_bitsOfDouble_76 ?_
                refine z_dsub F dX8_bitsOfDouble_77 (hfr.1) ?_
                refine z_ldc2d F q1468 dX8_bitsOfDouble_78 ?_
                refine z_dmul F dX8_bitsOfDouble_81 (hfr.2.1) ?_
                refine z_d2l F dX8_bitsOfDouble_82 ?_
                refine z_lstore (lv' := [(6, vL ((FP.d2l (FP.dmul (FP.dsub y8 FP.dconst1) 4841369599423283200)).toInt)), (4, vL e8), (2, vD y8), (0, vD x9)]) F dX8_bitsOfDouble_83 (by decide) rfl ?_
                refine z_lload F dX8_bitsOfDouble_85 1 rfl ?_
                refine z_bipush F dX8_bitsOfDouble_87 (by decide) ?_
                refine z_lshl (z := e8 * 4503599627370496) F dX8_bitsOfDouble_89 (lshl_52 (by omega)) ?_
                refine z_lload F dX8_bitsOfDouble_90 0 rfl ?_
                refine z_lor (z := e8 * 4503599627370496 + (FP.d2l (FP.dmul (FP.dsub y8 FP.dconst1) 4841369599423283200)).toInt) F dX8_bitsOfDouble_92 (lor_52 (by omega) (by omega)) ?_
                rw [hQ]
                exact z_lret F hr (Nat.le_of_ble_eq_true rfl) (Nat.le_of_ble_eq_true rfl) dX8_bitsOfDouble_93 (⟨by rw [fl_nat hs, hfr.2.2]; exact congrArg (fun z => some (vL z)) (by omega), rfl⟩)
              · refine z_lload F dX8_bitsOfDouble_53 0 rfl ?_
                refine z_lconst1 F dX8_bitsOfDouble_55 ?_
                refine z_lcmp F dX8_bitsOfDouble_56 (by omega) (by omega) ?_
                refine z_if_le (tgt := 75) F dX8_bitsOfDouble_57 (by decide) (by omega) (fun c57 => ?_) (fun c57 => ?_)
                · exfalso; omega
                · refine z_dload_n F dX8_bitsOfDouble_60 rfl 1 rfl ?_
                  refine z_ldc2d F q1466 dX8_bitsOfDouble_61 ?_
                  refine z_dmul F dX8_bitsOfDouble_64 ((hy8.dbl (by omega)).n) ?_
                  refine z_dstore_n (lv' := [(2, vD (FP.dmul y8 4611686018427387904)), (4, vL e8), (0, vD x9)]) F dX8_bitsOfDouble_65 rfl (by decide) rfl ?_
                  refine z_lload F dX8_bitsOfDouble_66 1 rfl ?_
                  refine z_lconst1 F dX8_bitsOfDouble_68 ?_
                  refine z_lsub F dX8_bitsOfDouble_69 ?_
                  refine z_lstore (lv' := [(4, vL (e8 - 1)), (2, vD (FP.dmul y8 4611686018427387904)), (0, vD x9)]) F dX8_bitsOfDouble_70 (by decide) rfl ?_
                  refine z_goto (tgt := 47) F dX8_bitsOfDouble_72 (by decide) ?_
                  exact ih47 (e8 - 1) (FP.dmul y8 4611686018427387904) (by have := hy8.dbl (by omega); rw [show qq9 + 1023 - (e8 - 1) = qq9 + 1023 - e8 + 1 by omega]; exact this) (by omega) (by omega)
          exact L47 ((e9 : Int).toNat + 1) e9 y9 (hy) (by omega) (by omega)
        · refine z_lload F dX8_bitsOfDouble_23 0 rfl ?_
          refine z_ldc2 F q1467 dX8_bitsOfDouble_25 ?_
          refine z_lcmp F dX8_bitsOfDouble_28 (by omega) (by omega) ?_
          refine z_if_ge (tgt := 47) F dX8_bitsOfDouble_29 (by decide) (by omega) (fun c29 => ?_) (fun c29 => ?_)
          · have L47 : ∀ (fuel : Nat) (e8 : Int) (y8 : UInt64), (DNm y8 false cc9 (qq9 + 1023 - e8)) → (qq9 + 1075 ≤ e8 ∧ e8 ≤ 2046) → e8 < (fuel : Int) → Z p l e ({ frames := 0, cells := 0, slots := 0, locals := 0 }) s m args below meth c 8 G N0 (cA h s.heap.size) Q h 0 0 47 [(4, vL e8), (2, vD y8), (0, vD x9)] [] := by
              intro fuel
              induction fuel with
              | zero => intro e8 y8  hy8 ha8 hm; exact absurd hm (by omega)
              | succ fuel ih47 =>
                intro e8 y8  hy8 ha8 hm
                have hc8 := hy8.cmp (op := .g) kd1
                refine z_dload_n F dX8_bitsOfDouble_47 rfl 1 rfl ?_
                refine z_dconst1 F dX8_bitsOfDouble_48 ?_
                refine z_dcmp (op := .g) F dX8_bitsOfDouble_49 ?_
                refine z_if_ge (tgt := 75) F dX8_bitsOfDouble_50 (by decide) (iI_rng _) (fun c50 => ?_) (fun c50 => ?_)
                · have hE : DNm y8 false cc9 (-52) := by rw [show (-52 : Int) = qq9 + 1023 - e8 by omega]; exact hy8
                  have hfr := hE.frac
                  have he8 : e8 = qq9 + 1075 := by omega
                  refine z_dload_n F dX8_bitsOfDouble_75 rfl 1 rfl ?_
                  refine z_dconst1 F dX8_bitsOfDouble_76 ?_
                  refine z_dsub F dX8_bitsOfDouble_77 (hfr.1) ?_
                  refine z_ldc2d F q1468 dX8_bitsOfDouble_78 ?_
                  refine z_dmul F dX8_bitsOfDouble_81 (hfr.2.1) ?_
                  refine z_d2l F dX8_bitsOfDouble_82 ?_
                  refine z_lstore (lv' := [(6, vL ((FP.d2l (FP.dmul (FP.dsub y8 FP.dconst1) 4841369599423283200)).toInt)), (4, vL e8), (2, vD y8), (0, vD x9)]) F dX8_bitsOfDouble_83 (by decide) rfl ?_
                  refine z_lload F dX8_bitsOfDouble_85 1 rfl ?_
                  refine z_bipush F dX8_bitsOfDouble_87 (by decide) ?_
                  refine z_lshl (z := e8 * 4503599627370496) F dX8_bitsOfDouble_89 (lshl_52 (by omega)) ?_
                  refine z_lload F dX8_bitsOfDouble_90 0 rfl ?_
                  refine z_lor (z := e8 * 4503599627370496 + (FP.d2l (FP.dmul (FP.dsub y8 FP.dconst1) 4841369599423283200)).toInt) F dX8_bitsOfDouble_92 (lor_52 (by omega) (by omega)) ?_
                  rw [hQ]
                  exact z_lret F hr (Nat.le_of_ble_eq_true rfl) (Nat.le_of_ble_eq_true rfl) dX8_bitsOfDouble_93 (⟨by rw [fl_nat hs, hfr.2.2]; exact congrArg (fun z => some (vL z)) (by omega), rfl⟩)
                · refine z_lload F dX8_bitsOfDouble_53 0 rfl ?_
                  refine z_lconst1 F dX8_bitsOfDouble_55 ?_
                  refine z_lcmp F dX8_bitsOfDouble_56 (by omega) (by omega) ?_
                  refine z_if_le (tgt := 75) F dX8_bitsOfDouble_57 (by decide) (by omega) (fun c57 => ?_) (fun c57 => ?_)
                  · exfalso; omega
                  · refine z_dload_n F dX8_bitsOfDouble_60 rfl 1 rfl ?_
                    refine z_ldc2d F q1466 dX8_bitsOfDouble_61 ?_
                    refine z_dmul F dX8_bitsOfDouble_64 ((hy8.dbl (by omega)).n) ?_
                    refine z_dstore_n (lv' := [(2, vD (FP.dmul y8 4611686018427387904)), (4, vL e8), (0, vD x9)]) F dX8_bitsOfDouble_65 rfl (by decide) rfl ?_
                    refine z_lload F dX8_bitsOfDouble_66 1 rfl ?_
                    refine z_lconst1 F dX8_bitsOfDouble_68 ?_
                    refine z_lsub F dX8_bitsOfDouble_69 ?_
                    refine z_lstore (lv' := [(4, vL (e8 - 1)), (2, vD (FP.dmul y8 4611686018427387904)), (0, vD x9)]) F dX8_bitsOfDouble_70 (by decide) rfl ?_
                    refine z_goto (tgt := 47) F dX8_bitsOfDouble_72 (by decide) ?_
                    exact ih47 (e8 - 1) (FP.dmul y8 4611686018427387904) (by have := hy8.dbl (by omega); rw [show qq9 + 1023 - (e8 - 1) = qq9 + 1023 - e8 + 1 by omega]; exact this) (by omega) (by omega)
            exact L47 ((e9 : Int).toNat + 1) e9 y9 (hy) (by omega) (by omega)
          · refine z_dload_n F dX8_bitsOfDouble_32 rfl 1 rfl ?_
            refine z_ldc2d F q1466 dX8_bitsOfDouble_33 ?_
            refine z_ddiv F dX8_bitsOfDouble_36 ((hy.half (by omega)).n) ?_
            refine z_dstore_n (lv' := [(2, vD (FP.ddiv y9 4611686018427387904)), (4, vL e9), (0, vD x9)]) F dX8_bitsOfDouble_37 rfl (by decide) rfl ?_
            refine z_lload F dX8_bitsOfDouble_38 1 rfl ?_
            refine z_lconst1 F dX8_bitsOfDouble_40 ?_
            refine z_ladd F dX8_bitsOfDouble_41 ?_
            refine z_lstore (lv' := [(4, vL (e9 + 1)), (2, vD (FP.ddiv y9 4611686018427387904)), (0, vD x9)]) F dX8_bitsOfDouble_42 (by decide) rfl ?_
            refine z_goto (tgt := 15) F dX8_bitsOfDouble_44 (by decide) ?_
            exact ih15 (e9 + 1) (FP.ddiv y9 4611686018427387904) (by have := hy.half (by omega); rw [show qq9 + 1023 - (e9 + 1) = qq9 + 1023 - e9 - 1 by omega]; exact this) (by omega) (by omega)
    exact L15 ((3000 - 1023 : Int).toNat + 1) 1023 x9 (by rw [show qq9 + 1023 - 1023 = qq9 by omega]; exact hp) (by omega) (by omega)
  · exfalso; omega
set_option maxRecDepth 100000 in
set_option maxHeartbeats 4000000 in
theorem mX8_bitsOfDouble0 (l : Launch) (G : GG) (N0 : Nat) (h : Hp)  : Ct l G N0 yX8_bitsOfDouble (Cond.code yX8_bitsOfDouble cX8_bitsOfDouble 8 (some FieldType.long) :: LW) ({ frames := 0, cells := 0, slots := 0, locals := 0 }) [vD 0] h (fun r h' => r = some (vL (0 : UInt64).toInt64.toInt) ∧ h' = h) := by
  refine ct_of rfl rfl ?_
  intro p e s m args below meth c F hr hnm
  have F : Fx p s m args meth c RX8 cX8_bitsOfDouble 8 G N0 (cA h s.heap.size) := F
  show Z _ _ _ _ _ _ _ _ _ _ _ _ _ _ _ _ _ _ _ [(0, vD 0)] []
  refine z_dload_n F dX8_bitsOfDouble_0 rfl 0 rfl ?_
  refine z_dconst0 F dX8_bitsOfDouble_1 ?_
  refine z_dcmp (op := .g) F dX8_bitsOfDouble_2 ?_
  refine z_if_gt (tgt := 8) F dX8_bitsOfDouble_3 (by decide) (iI_rng _) (fun c3 => ?_) (fun c3 => ?_)
  · exfalso; exact absurd c3 (by decide +kernel)
  · refine z_lconst0 F dX8_bitsOfDouble_6 ?_
    exact z_lret F hr (Nat.le_of_ble_eq_true rfl) (Nat.le_of_ble_eq_true rfl) dX8_bitsOfDouble_7 (⟨rfl, rfl⟩)
theorem mX8_bitsOfDouble (l : Launch) (G : GG) (N0 : Nat) (h : Hp) {x : UInt64} (hx : x = 0 ∨ (4503599627370496 ≤ x.toNat ∧ x.toNat < 9218868437227405312)) : Ct l G N0 yX8_bitsOfDouble (Cond.code yX8_bitsOfDouble cX8_bitsOfDouble 8 (some FieldType.long) :: LW) ({ frames := 0, cells := 0, slots := 0, locals := 0 }) [vD x] h (fun r h' => r = some (vL x.toInt64.toInt) ∧ h' = h) := by
  rcases hx with z | z
  · rw [z]; exact mX8_bitsOfDouble0 l G N0 h
  · exact mX8_bitsOfDouble1 l G N0 h x (by omega) (by omega) (by omega)
theorem mean_nb {ρ : Sg} (hV : MC ρ) (hk : ¬ keptS ρ = 0) : meanS ρ = 0 ∨ (4503599627370496 ≤ (meanS ρ).toNat ∧ (meanS ρ).toNat < 9218868437227405312) := by
  have h8 := hV.2.2.2.1
  have hks := keptS_b hV
  have hscb := scS_in (f := secS ρ) (N := (ρ 8 0).toNat) (fun x q1 q2 => secS_b hV q1 (by omega)) (ρ 8 0).toNat (Nat.le_refl _)
  exact mean_norm (by omega) (by omega)
set_option maxRecDepth 100000 in
set_option maxHeartbeats 4000000 in
theorem mX8_meanBits (l : Launch) (G : GG) (N0 : Nat) (h : Hp) (hl9 : l.stackTraces = false) (g : Int → Nat) (ρ : Sg) (hI : CI G g ρ h) (hV : MC ρ) : CtX l G N0 yX8_meanBits (Cond.code yX8_meanBits cX8_meanBits 1 (some FieldType.long) :: LW) ({ frames := 8, cells := 4, slots := 24, locals := 320 }) [vR (g 0)] h (fun r h' => ¬ (keptS ρ = 0) ∧ ∃ ρ', r = some (vL (meanS ρ).toInt64.toInt) ∧ SA (ρ) ρ' ∧ CI G g ρ' h') (fun E h' => ∃ ρ', SA ρ ρ' ∧ CI G g ρ' h' ∧ ((E = "java/lang/ArithmeticException" ∧ (keptS ρ = 0)))) := by
  refine ctX_of rfl rfl ?_
  intro p e s m args below meth c F hr htab
  have F : Fx p s m args meth c RX8 cX8_meanBits 1 G N0 (cA h s.heap.size) := F
  obtain ⟨v0, v1, v2, v8, v16, v24, v39, vC, vE, vJ, vK, vB, vO⟩ := id hV
  show Z _ _ _ _ _ _ _ _ _ _ _ _ _ _ _ _ _ _ _ [(0, vR (g 0))] []
  refine z_aload_n F dX8_meanBits_0 rfl 0 rfl ?_
  refine z_xcallV (As := []) (st := []) F htab (mX8_meanMinutes l G N0 h hl9 g ρ hI hV) cvX8_348 (ci_0 hI) (fun r9 h9 => by cases h9; rfl) rfl rfl ⟨Nat.le_of_ble_eq_true rfl, Nat.le_of_ble_eq_true rfl⟩ rfl ⟨Nat.le_of_ble_eq_true rfl, Nat.le_of_ble_eq_true rfl⟩ dX8_meanBits_1 (fun E h9 hx => hx) (Nat.le_of_ble_eq_true rfl) (Nat.le_of_ble_eq_true rfl) ?_
  rintro _ h7 ⟨n7, r7, rfl, S7, I7⟩
  show Z _ _ _ _ _ _ _ _ _ _ _ _ _ _ _ _ _ _ _ _ [vD (meanS ρ)]
  refine z_callS (As := [vD (meanS ρ)]) (st := []) F (mX8_bitsOfDouble l G N0 h7 (mean_nb hV n7)) csX8_352 rfl rfl ⟨Nat.le_of_ble_eq_true rfl, Nat.le_of_ble_eq_true rfl⟩ rfl ⟨Nat.le_of_ble_eq_true rfl, Nat.le_of_ble_eq_true rfl⟩ dX8_meanBits_4 ?_
  rintro _ h9 ⟨rfl, hh9⟩
  rw [hh9]
  clear hh9 h9
  show Z _ _ _ _ _ _ _ _ _ _ _ _ _ _ _ _ _ _ _ _ [vL ((meanS ρ).toInt64.toInt)]
  exact z_lretX F hr (Nat.le_of_ble_eq_true rfl) (Nat.le_of_ble_eq_true rfl) dX8_meanBits_7 (⟨by omega, r7, rfl, S7, I7⟩)
