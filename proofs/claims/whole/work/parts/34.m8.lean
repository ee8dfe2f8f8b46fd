theorem MI_sdsd {g : Nat → Nat} {σ : Sg} {h : Hp} {s d s2 d2 : Int → Int} (H : MI g (sw (sw (sw (sw σ 14 s) 15 d) 14 s2) 15 d2) h) : MI g (sw (sw σ 14 s2) 15 d2) h := H.to (fun k' j => by
  unfold sw
  by_cases a : k' = 15
  · simp only [if_pos a]
  · by_cases b : k' = 14
    · simp only [if_neg a, if_pos b]
    · simp only [if_neg a, if_neg b])
set_option maxRecDepth 100000 in
set_option maxHeartbeats 4000000 in
theorem mX9_warning (l : Launch) (G : GG) (N0 : Nat) (h : Hp) (g : Nat → Nat) (σ : Sg) (c9 : Int) (hI : MI g σ h) (hR : RG σ) (hV : MV σ) (r_c9 : -2147483648 ≤ c9 ∧ c9 < 2147483648) : Ct l G N0 yX9_warning (Cond.code yX9_warning cX9_warning 2 (some FieldType.char) :: LW) ({ frames := 7, cells := 0, slots := 0, locals := 240 }) [vR (g 0), vI c9] h (fun r h' => (¬ (0 ≤ c9 ∧ c9 < σ 2 0) ∧ r = some (vI 32) ∧ MI g (su σ 30 0 1) h') ∨ (¬ ¬ (0 ≤ c9 ∧ c9 < σ 2 0) ∧ r = some (vI (if σ 7 c9 = 0 then 110 else if (Op.cmpValue (FP.fcmp (shF σ c9) 1061997773) .g).toInt < 0 then 110 else if σ 7 c9 < usS σ c9 then 111 else 119)) ∧ ∃ s d : Int → Int, MI g (sw (sw (su σ 30 0 0) 14 s) 15 d) h' ∧ RF s ∧ RF d)) := by
  refine ct_of rfl rfl ?_
  intro p e s m args below meth c F hr hnm
  have F : Fx p s m args meth c RX9 cX9_warning 2 G N0 (cA h s.heap.size) := F
  obtain ⟨v0, v1, v2, v8, v16, v24, v29, vC, vE, vL, vK, vT⟩ := id hV
  have C_c9 := vC c9
  have hus := fun q1 q2 => usS_in hV (c := c9) ⟨q1, q2⟩
  obtain ⟨Q, hQ⟩ : ∃ z, z = MQ below (cQc G N0 h s.heap.size (fun r h' => (¬ (0 ≤ c9 ∧ c9 < σ 2 0) ∧ r = some (vI 32) ∧ MI g (su σ 30 0 1) h') ∨ (¬ ¬ (0 ≤ c9 ∧ c9 < σ 2 0) ∧ r = some (vI (if σ 7 c9 = 0 then 110 else if (Op.cmpValue (FP.fcmp (shF σ c9) 1061997773) .g).toInt < 0 then 110 else if σ 7 c9 < usS σ c9 then 111 else 119)) ∧ ∃ s d : Int → Int, MI g (sw (sw (su σ 30 0 0) 14 s) 15 d) h' ∧ RF s ∧ RF d))) args s 0 0 (cA h s.heap.size) := ⟨_, rfl⟩
  rw [← hQ]
  show Z _ _ _ _ _ _ _ _ _ _ _ _ _ _ _ _ _ _ _ [(0, vR (g 0)), (1, vI c9)] []
  refine z_aload_n F dX9_warning_0 rfl 0 rfl ?_
  refine z_aload_n F dX9_warning_1 rfl 0 rfl ?_
  refine z_iload_n F dX9_warning_2 rfl 1 rfl ?_
  refine z_callV (As := [vI c9]) (st := [vR (g 0)]) F (mX9_isNoClient l G N0 h g σ c9 hI hR (by omega) (by omega)) cvX9_120 (mI hI 0 rfl) (fun r9 h9 => by cases h9; rfl) rfl rfl ⟨Nat.le_of_ble_eq_true rfl, Nat.le_of_ble_eq_true rfl⟩ rfl ⟨Nat.le_of_ble_eq_true rfl, Nat.le_of_ble_eq_true rfl⟩ dX9_warning_3 ?_
  rintro _ h9 ⟨rfl, hh9⟩
  rw [hh9]
  clear hh9 h9
  generalize ex1 : (if 0 ≤ c9 ∧ c9 < σ 2 0 then (0 : Int) else 1) = x1
  show Z _ _ _ _ _ _ _ _ _ _ _ _ _ _ _ _ _ _ _ _ [vI x1, vR (g 0)]
  refine z_if_eq (tgt := 13) F dX9_warning_6 (by decide) (by omega) (fun c6 => ?_) (fun c6 => ?_)
  · refine z_iconst F dX9_warning_13 ?_
    refine z_callV (As := [vI 0]) (st := []) F (mX9_fails l G N0 h g σ 0 hI hR (by decide)) cvX9_107 (mI hI 0 rfl) (fun r9 h9 => by cases h9; rfl) rfl rfl ⟨Nat.le_of_ble_eq_true rfl, Nat.le_of_ble_eq_true rfl⟩ rfl ⟨Nat.le_of_ble_eq_true rfl, Nat.le_of_ble_eq_true rfl⟩ dX9_warning_14 ?_
    rintro _ h2 ⟨rfl, Ih2⟩
    rw [if_neg (by decide)]
    show Z _ _ _ _ _ _ _ _ _ _ _ _ _ _ _ _ _ _ _ _ [vI 0]
    refine z_if_eq (tgt := 23) F dX9_warning_17 (by decide) (by decide) (fun c17 => ?_) (fun c17 => ?_)
    · refine z_aload_n F dX9_warning_23 rfl 0 rfl ?_
      refine z_get (v := vR (g 7)) F (mI Ih2 0 rfl) fX9_27 rfl dX9_warning_24 ?_
      refine z_iload_n F dX9_warning_27 rfl 1 rfl ?_
      refine z_iaload (N := 5) (f := fun j => σ 7 j) F (mI Ih2 7 rfl) (by omega) (by omega) (by omega) dX9_warning_28 ?_
      refine z_if_eq (tgt := 43) F dX9_warning_29 (by decide) (hR 7 c9) (fun c29 => ?_) (fun c29 => ?_)
      · refine z_bipush F dX9_warning_43 (by decide) ?_
        rw [hQ]
        exact z_iret (nf_c (by omega)) F hr (Nat.le_of_ble_eq_true rfl) (Nat.le_of_ble_eq_true rfl) dX9_warning_45 (Or.inr ⟨by omega, rI (by rw [if_pos (by omega)]), _, _, MI_sw (MI_sw Ih2 14) 15, fun j => hR 14 j, fun j => hR 15 j⟩)
      · refine z_aload_n F dX9_warning_32 rfl 0 rfl ?_
        refine z_iload_n F dX9_warning_33 rfl 1 rfl ?_
        have Vh3 : MV (su σ 30 0 0) := (MV_q (EQ.symm (EQ.c _ _)) hV)
        refine z_callV (As := [vI c9]) (st := []) F (mX9_shareOf l G N0 h2 g (su σ 30 0 0) c9 Ih2 (rg_su hR (by decide)) Vh3 (show 0 ≤ c9 ∧ c9 < σ 2 0 from by omega) (show σ 7 c9 ≠ 0 from by omega)) cvX9_224 (mI Ih2 0 rfl) (fun r9 h9 => by cases h9; rfl) rfl rfl ⟨Nat.le_of_ble_eq_true rfl, Nat.le_of_ble_eq_true rfl⟩ rfl ⟨Nat.le_of_ble_eq_true rfl, Nat.le_of_ble_eq_true rfl⟩ dX9_warning_34 ?_
        rintro _ h3 ⟨sh3, dh3, rfl, Ih3, Rsh3, Rdh3⟩
        have eoh3 : shF (su σ 30 0 0) c9 = shF σ c9 := shF_q (EQ.c _ _) c9
        rw [eoh3]
        show Z _ _ _ _ _ _ _ _ _ _ _ _ _ _ _ _ _ _ _ _ [vF (shF σ c9)]
        refine z_ldcf F q1878 dX9_warning_37 ?_
        refine z_fcmp (op := .g) F dX9_warning_39 ?_
        refine z_if_ge (tgt := 46) F dX9_warning_40 (by decide) (iI_rng _) (fun c40 => ?_) (fun c40 => ?_)
        · have hus2 := hus (by omega) (by omega)
          refine z_aload_n F dX9_warning_46 rfl 0 rfl ?_
          refine z_iload_n F dX9_warning_47 rfl 1 rfl ?_
          have Vh4 : MV (sw (sw (su σ 30 0 0) 14 sh3) 15 dh3) := (MV_q (EQ.symm (EQ.trans (EQ.trans (EQ.w _ 15 _ rfl) (EQ.w _ 14 _ rfl)) (EQ.c _ _))) hV)
          refine z_callV (As := [vI c9]) (st := []) F (mX9_usedOf l G N0 h3 g (sw (sw (su σ 30 0 0) 14 sh3) 15 dh3) c9 Ih3 (rg_sw (rg_sw (rg_su hR (by decide)) Rsh3) Rdh3) Vh4 (show 0 ≤ c9 ∧ c9 < σ 2 0 from by omega)) cvX9_221 (mI Ih3 0 rfl) (fun r9 h9 => by cases h9; rfl) rfl rfl ⟨Nat.le_of_ble_eq_true rfl, Nat.le_of_ble_eq_true rfl⟩ rfl ⟨Nat.le_of_ble_eq_true rfl, Nat.le_of_ble_eq_true rfl⟩ dX9_warning_48 ?_
          rintro _ h4 ⟨sh4, dh4, rfl, Ih4, Rsh4, Rdh4⟩
          have eoh4 : usS (sw (sw (su σ 30 0 0) 14 sh3) 15 dh3) c9 = usS σ c9 := usS_q (EQ.trans (EQ.trans (EQ.w _ 15 _ rfl) (EQ.w _ 14 _ rfl)) (EQ.c _ _)) c9
          rw [eoh4]
          show Z _ _ _ _ _ _ _ _ _ _ _ _ _ _ _ _ _ _ _ _ [vI (usS σ c9)]
          refine z_aload_n F dX9_warning_51 rfl 0 rfl ?_
          refine z_get (v := vR (g 7)) F (mI Ih4 0 rfl) fX9_27 rfl dX9_warning_52 ?_
          refine z_iload_n F dX9_warning_55 rfl 1 rfl ?_
          refine z_iaload (N := 5) (f := fun j => σ 7 j) F (mI Ih4 7 rfl) (by omega) (by omega) (by omega) dX9_warning_56 ?_
          refine z_icmp_le (tgt := 65) F dX9_warning_57 (by decide) (by omega) (hR 7 c9) (fun c57 => ?_) (fun c57 => ?_)
          · refine z_bipush F dX9_warning_65 (by decide) ?_
            rw [hQ]
            exact z_iret (nf_c (by omega)) F hr (Nat.le_of_ble_eq_true rfl) (Nat.le_of_ble_eq_true rfl) dX9_warning_67 (Or.inr ⟨by omega, rI (by omega), sh4, dh4, MI_sdsd Ih4, Rsh4, Rdh4⟩)
          · refine z_bipush F dX9_warning_60 (by decide) ?_
            refine z_goto (tgt := 67) F dX9_warning_62 (by decide) ?_
            rw [hQ]
            exact z_iret (nf_c (by omega)) F hr (Nat.le_of_ble_eq_true rfl) (Nat.le_of_ble_eq_true rfl) dX9_warning_67 (Or.inr ⟨by omega, rI (by omega), sh4, dh4, MI_sdsd Ih4, Rsh4, Rdh4⟩)
        · refine z_bipush F dX9_warning_43 (by decide) ?_
          rw [hQ]
          exact z_iret (nf_c (by omega)) F hr (Nat.le_of_ble_eq_true rfl) (Nat.le_of_ble_eq_true rfl) dX9_warning_45 (Or.inr ⟨by omega, rI (by omega), sh3, dh3, Ih3, Rsh3, Rdh3⟩)
    · exact absurd c17 (by decide)
  · refine z_iconst F dX9_warning_9 ?_
    refine z_goto (tgt := 14) F dX9_warning_10 (by decide) ?_
    refine z_callV (As := [vI 1]) (st := []) F (mX9_fails l G N0 h g σ 1 hI hR (by decide)) cvX9_107 (mI hI 0 rfl) (fun r9 h9 => by cases h9; rfl) rfl rfl ⟨Nat.le_of_ble_eq_true rfl, Nat.le_of_ble_eq_true rfl⟩ rfl ⟨Nat.le_of_ble_eq_true rfl, Nat.le_of_ble_eq_true rfl⟩ dX9_warning_14 ?_
    rintro _ h5 ⟨rfl, Ih5⟩
    rw [if_pos (by decide)]
    show Z _ _ _ _ _ _ _ _ _ _ _ _ _ _ _ _ _ _ _ _ [vI 1]
    refine z_if_eq (tgt := 23) F dX9_warning_17 (by decide) (by decide) (fun c17 => ?_) (fun c17 => ?_)
    · exact absurd c17 (by decide)
    · refine z_bipush F dX9_warning_20 (by decide) ?_
      rw [hQ]
      exact z_iret (nf_c (by omega)) F hr (Nat.le_of_ble_eq_true rfl) (Nat.le_of_ble_eq_true rfl) dX9_warning_22 (Or.inl ⟨by omega, rfl, Ih5⟩)
set_option maxRecDepth 100000 in
set_option maxHeartbeats 4000000 in
theorem mX9_mean (l : Launch) (G : GG) (N0 : Nat) (h : Hp) (g : Nat → Nat) (σ : Sg) (hI : MI g σ h) (hR : RG σ) (hV : MV σ) : Ct l G N0 yX9_mean (Cond.code yX9_mean cX9_mean 4 (some FieldType.double) :: LW) ({ frames := 4, cells := 0, slots := 0, locals := 150 }) [vR (g 0)] h (fun r h' => (keptS σ = 0 ∧ r = some (vD 0) ∧ MI g (su σ 30 0 1) h') ∨ (¬ keptS σ = 0 ∧ r = some (vD (meanS σ)) ∧ ∃ s d : Int → Int, MI g (sw (sw (su σ 30 0 0) 14 s) 15 d) h' ∧ RF s ∧ RF d)) := by
  refine ct_of rfl rfl ?_
  intro p e s m args below meth c F hr hnm
  have F : Fx p s m args meth c RX9 cX9_mean 4 G N0 (cA h s.heap.size) := F
  obtain ⟨v0, v1, v2, v8, v16, v24, v29, vC, vE, vL, vK, vT⟩ := id hV
  have hks := keptS_in hV
  have hkd : keptS σ = σ 8 0 - cst σ 120 (σ 8 0).toNat := rfl
  obtain ⟨Q, hQ⟩ : ∃ z, z = MQ below (cQc G N0 h s.heap.size (fun r h' => (keptS σ = 0 ∧ r = some (vD 0) ∧ MI g (su σ 30 0 1) h') ∨ (¬ keptS σ = 0 ∧ r = some (vD (meanS σ)) ∧ ∃ s d : Int → Int, MI g (sw (sw (su σ 30 0 0) 14 s) 15 d) h' ∧ RF s ∧ RF d))) args s 0 0 (cA h s.heap.size) := ⟨_, rfl⟩
  rw [← hQ]
  show Z _ _ _ _ _ _ _ _ _ _ _ _ _ _ _ _ _ _ _ [(0, vR (g 0))] []
  refine z_aload_n F dX9_mean_0 rfl 0 rfl ?_
  refine z_get (v := vI (σ 8 0)) F (mI hI 0 rfl) fX9_97 rfl dX9_mean_1 ?_
  refine z_aload_n F dX9_mean_4 rfl 0 rfl ?_
  refine z_bipush F dX9_mean_5 (by decide) ?_
  refine z_callV (As := [vI 120]) (st := [vI (σ 8 0)]) F (mX9_inState l G N0 h g σ 120 hI hR (show 0 ≤ σ 8 0 ∧ σ 8 0 ≤ 24 from by omega) (by omega)) cvX9_123 (mI hI 0 rfl) (fun r9 h9 => by cases h9; rfl) rfl rfl ⟨Nat.le_of_ble_eq_true rfl, Nat.le_of_ble_eq_true rfl⟩ rfl ⟨Nat.le_of_ble_eq_true rfl, Nat.le_of_ble_eq_true rfl⟩ dX9_mean_7 ?_
  rintro _ h9 ⟨rfl, hh9⟩
  rw [hh9]
  clear hh9 h9
  show Z _ _ _ _ _ _ _ _ _ _ _ _ _ _ _ _ _ _ _ _ [vI (cst σ 120 (σ 8 0).toNat), vI (σ 8 0)]
  have qx1 := cst_in σ 120 (σ 8 0).toNat
  generalize ex1 : cst σ 120 (σ 8 0).toNat = x1 at qx1 ⊢
  show Z _ _ _ _ _ _ _ _ _ _ _ _ _ _ _ _ _ _ _ _ [vI x1, vI (σ 8 0)]
  refine z_isub F dX9_mean_10 ?_
  refine z_istore_n (lv' := [(1, vI ((σ 8 0) - x1)), (0, vR (g 0))]) F dX9_mean_11 rfl (by decide) rfl ?_
  refine z_aload_n F dX9_mean_12 rfl 1 rfl ?_
  refine z_iload_n F dX9_mean_13 rfl 0 rfl ?_
  refine z_if_ne (tgt := 21) F dX9_mean_14 (by decide) (by omega) (fun c14 => ?_) (fun c14 => ?_)
  · refine z_iconst F dX9_mean_21 ?_
    refine z_callV (As := [vI 0]) (st := []) F (mX9_fails l G N0 h g σ 0 hI hR (by decide)) cvX9_107 (mI hI 0 rfl) (fun r9 h9 => by cases h9; rfl) rfl rfl ⟨Nat.le_of_ble_eq_true rfl, Nat.le_of_ble_eq_true rfl⟩ rfl ⟨Nat.le_of_ble_eq_true rfl, Nat.le_of_ble_eq_true rfl⟩ dX9_mean_22 ?_
    rintro _ h2 ⟨rfl, Ih2⟩
    rw [if_neg (by decide)]
    show Z _ _ _ _ _ _ _ _ _ _ _ _ _ _ _ _ _ _ _ _ [vI 0]
    refine z_if_eq (tgt := 30) F dX9_mean_25 (by decide) (by decide) (fun c25 => ?_) (fun c25 => ?_)
    · refine z_aload_n F dX9_mean_30 rfl 1 rfl ?_
      refine z_callV (As := []) (st := []) F (mX9_counts l G N0 h2 g (su σ 30 0 0) Ih2 (rg_su hR (by decide)) hV) cvX9_148 (mI Ih2 0 rfl) (fun r9 h9 => by cases h9; rfl) rfl rfl ⟨Nat.le_of_ble_eq_true rfl, Nat.le_of_ble_eq_true rfl⟩ rfl ⟨Nat.le_of_ble_eq_true rfl, Nat.le_of_ble_eq_true rfl⟩ dX9_mean_31 ?_
      rintro _ h3 ⟨rfl, sh3, dh3, Ih3, Rsh3, Rdh3, Sh3, Dh3⟩
      show Z _ _ _ _ _ _ _ _ _ _ _ _ _ _ _ _ _ _ _ _ []
      simp only [secS_c, dayS_c] at Sh3 Dh3
      have nh3 : ∀ e, 0 ≤ e → e < σ 8 0 → sh3 e = secS σ e := Sh3
      have oh3 : ∀ e dd, 0 ≤ e → e < σ 8 0 → 0 ≤ dd → dd < 5 → dh3 (5 * e + dd) = dayS σ e dd := Dh3
      refine z_iconst F dX9_mean_34 ?_
      refine z_istore_n (lv' := [(2, vI 0), (1, vI ((σ 8 0) - x1)), (0, vR (g 0))]) F dX9_mean_35 rfl (by decide) rfl ?_
      refine z_iconst F dX9_mean_36 ?_
      refine z_istore_n (lv' := [(3, vI 0), (2, vI 0), (1, vI ((σ 8 0) - x1)), (0, vR (g 0))]) F dX9_mean_37 rfl (by decide) rfl ?_
      have L38 : ∀ (fuel : Nat) (sm : Int) (i9 : Int), (0 ≤ i9) → (i9 ≤ σ 8 0) → (sm = scS sh3 i9.toNat) → σ 8 0 - i9 < (fuel : Int) → Z p l e ({ frames := 4, cells := 0, slots := 0, locals := 150 }) s m args below meth c 4 G N0 (cA h s.heap.size) Q h3 0 0 38 [(3, vI i9), (2, vI sm), (1, vI ((σ 8 0) - x1)), (0, vR (g 0))] [] := by
        intro fuel
        induction fuel with
        | zero => intro sm i9  ha hb hn hm; exact absurd hm (by omega)
        | succ fuel ih38 =>
          intro sm i9  ha hb hn hm
          refine z_iload_n F dX9_mean_38 rfl 0 rfl ?_
          refine z_aload_n F dX9_mean_39 rfl 3 rfl ?_
          refine z_get (v := vI (σ 8 0)) F (mI Ih3 0 rfl) fX9_97 rfl dX9_mean_40 ?_
          refine z_icmp_ge (tgt := 61) F dX9_mean_43 (by decide) (by omega) (hR 8 0) (fun c43 => ?_) (fun c43 => ?_)
          · have hsc : sm = scS (secS σ) (σ 8 0).toNat := by rw [hn, show i9 = σ 8 0 by omega]; exact scS_c _ (fun x q1 q2 => nh3 x q1 (by omega))
            have hscb := scS_in (f := secS σ) (N := (σ 8 0).toNat) (fun x q1 q2 => secS_in hV q1 (by omega)) (σ 8 0).toNat (Nat.le_refl _)
            refine z_iload_n F dX9_mean_61 rfl 1 rfl ?_
            refine z_i2d F dX9_mean_62 ?_
            refine z_ldc2d F q1887 dX9_mean_63 ?_
            refine z_ddiv F dX9_mean_66 (n64_of (Nat.le_of_lt (Nat.lt_of_lt_of_le (mg_mean1 (by omega)) (by decide)))) ?_
            refine z_iload_n F dX9_mean_67 rfl 2 rfl ?_
            refine z_i2d F dX9_mean_68 ?_
            refine z_ddiv F dX9_mean_69 (n64_of (Nat.le_of_lt (Nat.lt_of_lt_of_le (mg_mean (by omega) (by omega)) (by decide)))) ?_
            rw [hQ]
            exact z_dret F hr (Nat.le_of_ble_eq_true rfl) (Nat.le_of_ble_eq_true rfl) dX9_mean_70 (Or.inr ⟨by omega, by rw [hsc, show (σ 8 0) - x1 = keptS σ by omega], sh3, dh3, Ih3, Rsh3, Rdh3⟩)
          · refine z_iload_n F dX9_mean_46 rfl 1 rfl ?_
            refine z_aload_n F dX9_mean_47 rfl 3 rfl ?_
            refine z_get (v := vR (g 14)) F (mI Ih3 0 rfl) fX9_45 rfl dX9_mean_48 ?_
            refine z_iload_n F dX9_mean_51 rfl 0 rfl ?_
            refine z_iaload (N := 24) (f := fun j => sh3 j) F (mI Ih3 14 rfl) (by omega) (by omega) (by omega) dX9_mean_52 ?_
            refine z_iadd F dX9_mean_53 ?_
            refine z_istore_n (lv' := [(2, vI (sm + (sh3 i9))), (3, vI i9), (1, vI ((σ 8 0) - x1)), (0, vR (g 0))]) F dX9_mean_54 rfl (by decide) rfl ?_
            refine z_iinc (lv' := [(3, vI (i9 + 1)), (2, vI (sm + (sh3 i9))), (1, vI ((σ 8 0) - x1)), (0, vR (g 0))]) F dX9_mean_55 1 rfl (by decide) rfl ?_
            refine z_goto (tgt := 38) F dX9_mean_58 (by decide) ?_
            exact ih38 (sm + (sh3 i9)) (i9 + 1)  (by omega) (by omega) (by rw [scS_s _ ha, ← hn]) (by omega)
      exact L38 ((σ 8 0 - 0 : Int).toNat + 1) 0 0  (by omega) (by omega) (rfl) (by omega)
    · exact absurd c25 (by decide)
  · refine z_iconst F dX9_mean_17 ?_
    refine z_goto (tgt := 22) F dX9_mean_18 (by decide) ?_
    refine z_callV (As := [vI 1]) (st := []) F (mX9_fails l G N0 h g σ 1 hI hR (by decide)) cvX9_107 (mI hI 0 rfl) (fun r9 h9 => by cases h9; rfl) rfl rfl ⟨Nat.le_of_ble_eq_true rfl, Nat.le_of_ble_eq_true rfl⟩ rfl ⟨Nat.le_of_ble_eq_true rfl, Nat.le_of_ble_eq_true rfl⟩ dX9_mean_22 ?_
    rintro _ h4 ⟨rfl, Ih4⟩
    rw [if_pos (by decide)]
    show Z _ _ _ _ _ _ _ _ _ _ _ _ _ _ _ _ _ _ _ _ [vI 1]
    refine z_if_eq (tgt := 30) F dX9_mean_25 (by decide) (by decide) (fun c25 => ?_) (fun c25 => ?_)
    · exact absurd c25 (by decide)
    · refine z_dconst0 F dX9_mean_28 ?_
      rw [hQ]
      exact z_dret F hr (Nat.le_of_ble_eq_true rfl) (Nat.le_of_ble_eq_true rfl) dX9_mean_29 (Or.inl ⟨by omega, rfl, Ih4⟩)
set_option maxRecDepth 100000 in
set_option maxHeartbeats 4000000 in
theorem mX9_meanMinutes (l : Launch) (G : GG) (N0 : Nat) (h : Hp) (g : Nat → Nat) (σ : Sg) (hI : MI g σ h) (hR : RG σ) (hV : MV σ) : Ct l G N0 yX9_meanMinutes (Cond.code yX9_meanMinutes cX9_meanMinutes 1 (some FieldType.double) :: LW) ({ frames := 5, cells := 0, slots := 0, locals := 180 }) [vR (g 0)] h (fun r h' => (keptS σ = 0 ∧ r = some (vD 0) ∧ MI g (su σ 30 0 1) h') ∨ (¬ keptS σ = 0 ∧ r = some (vD (meanS σ)) ∧ ∃ s d : Int → Int, MI g (sw (sw (su σ 30 0 0) 14 s) 15 d) h' ∧ RF s ∧ RF d)) := by
  refine ct_of rfl rfl ?_
  intro p e s m args below meth c F hr hnm
  have F : Fx p s m args meth c RX9 cX9_meanMinutes 1 G N0 (cA h s.heap.size) := F
  obtain ⟨v0, v1, v2, v8, v16, v24, v29, vC, vE, vL, vK, vT⟩ := id hV
  show Z _ _ _ _ _ _ _ _ _ _ _ _ _ _ _ _ _ _ _ [(0, vR (g 0))] []
  refine z_aload_n F dX9_meanMinutes_0 rfl 0 rfl ?_
  refine z_callV (As := []) (st := []) F (mX9_mean l G N0 h g σ hI hR hV) cvX9_231 (mI hI 0 rfl) (fun r9 h9 => by cases h9; rfl) rfl rfl ⟨Nat.le_of_ble_eq_true rfl, Nat.le_of_ble_eq_true rfl⟩ rfl ⟨Nat.le_of_ble_eq_true rfl, Nat.le_of_ble_eq_true rfl⟩ dX9_meanMinutes_1 ?_
  intro r h9 hp
  obtain ⟨x9, ex9⟩ : ∃ z, r = some (vD z) := by rcases hp with ⟨_, h8, _⟩ | ⟨_, h8, _⟩ <;> exact ⟨_, h8⟩
  subst ex9
  exact z_dret F hr (Nat.le_of_ble_eq_true rfl) (Nat.le_of_ble_eq_true rfl) dX9_meanMinutes_4 hp
set_option maxRecDepth 100000 in
set_option maxHeartbeats 4000000 in
theorem mX9_meanBits (l : Launch) (G : GG) (N0 : Nat) (h : Hp) (g : Nat → Nat) (σ : Sg) (hI : MI g σ h) (hR : RG σ) (hV : MV σ) : Ct l G N0 yX9_meanBits (Cond.code yX9_meanBits cX9_meanBits 3 (some FieldType.long) :: LW) ({ frames := 5, cells := 0, slots := 0, locals := 180 }) [vR (g 0)] h (fun r h' => (keptS σ = 0 ∧ r = some (vL 0) ∧ MI g (su σ 30 0 1) h') ∨ (¬ keptS σ = 0 ∧ r = some (vL (meanS σ).toInt64.toInt) ∧ ∃ s d : Int → Int, MI g (sw (sw (su σ 30 0 0) 14 s) 15 d) h' ∧ RF s ∧ RF d)) := by
  refine ct_of rfl rfl ?_
  intro p e s m args below meth c F hr hnm
  have F : Fx p s m args meth c RX9 cX9_meanBits 3 G N0 (cA h s.heap.size) := F
  obtain ⟨v0, v1, v2, v8, v16, v24, v29, vC, vE, vLx, vK, vT⟩ := id hV
  have hks := keptS_in hV
  have hscb := scS_in (f := secS σ) (N := (σ 8 0).toNat) (fun x q1 q2 => secS_in hV q1 (by obtain ⟨v0, v1, v2, v8, v16, v24, v29, vC, vE, vL, vK, vT⟩ := id hV; omega)) (σ 8 0).toNat (Nat.le_refl _)
  show Z _ _ _ _ _ _ _ _ _ _ _ _ _ _ _ _ _ _ _ [(0, vR (g 0))] []
  refine z_aload_n F dX9_meanBits_0 rfl 0 rfl ?_
  refine z_callV (As := []) (st := []) F (mX9_mean l G N0 h g σ hI hR hV) cvX9_231 (mI hI 0 rfl) (fun r9 h9 => by cases h9; rfl) rfl rfl ⟨Nat.le_of_ble_eq_true rfl, Nat.le_of_ble_eq_true rfl⟩ rfl ⟨Nat.le_of_ble_eq_true rfl, Nat.le_of_ble_eq_true rfl⟩ dX9_meanBits_1 ?_
  intro r9 h5 hp
  obtain ⟨x5, σ5, rfl, I5, R5, hx5, hp5⟩ : ∃ (x5 : UInt64) (σ5 : Sg), r9 = some (vD x5) ∧ MI g σ5 h5 ∧ RG σ5 ∧ x5.toNat % 2 ^ 63 ≤ 9218868437227405312 ∧ ((keptS σ = 0 ∧ σ5 30 0 = 1 ∧ σ5 = su σ 30 0 1) ∨ (¬ keptS σ = 0 ∧ σ5 30 0 = 0 ∧ x5 = meanS σ ∧ ∃ s d : Int → Int, σ5 = sw (sw (su σ 30 0 0) 14 s) 15 d ∧ RF s ∧ RF d)) := by
    rcases hp with ⟨a1, a2, a3⟩ | ⟨a1, a2, s, d, a3, a4, a5⟩
    · exact ⟨0, _, a2, a3, rg_su hR (by decide), by decide, Or.inl ⟨a1, rfl, rfl⟩⟩
    · exact ⟨_, _, a2, a3, rg_sw (rg_sw (rg_su hR (by decide)) a4) a5, Nat.le_of_lt (Nat.lt_of_lt_of_le (mg_mean (by omega) (by omega)) (by decide)), Or.inr ⟨a1, rfl, rfl, s, d, rfl, a4, a5⟩⟩
  show Z _ _ _ _ _ _ _ _ _ _ _ _ _ _ _ _ _ _ _ _ [vD x5]
  refine z_dstore_n (lv' := [(1, vD x5), (0, vR (g 0))]) F dX9_meanBits_4 rfl (by decide) rfl ?_
  refine z_aload_n F dX9_meanBits_5 rfl 1 rfl ?_
  refine z_get (v := vI (σ5 30 0)) F (mI I5 0 rfl) fX9_86 rfl dX9_meanBits_6 ?_
  refine z_if_le (tgt := 16) F dX9_meanBits_9 (by decide) (by omega) (fun c9 => ?_) (fun c9 => ?_)
  · refine z_dload_n F dX9_meanBits_16 rfl 0 rfl ?_
    refine z_callS (As := [vD x5]) (st := []) F (mJxe99ae_doubleToLongBits_ccdee l G N0 h5 x5 hx5) csX9_235 rfl rfl ⟨Nat.le_of_ble_eq_true rfl, Nat.le_of_ble_eq_true rfl⟩ rfl ⟨Nat.le_of_ble_eq_true rfl, Nat.le_of_ble_eq_true rfl⟩ dX9_meanBits_17 ?_
    rintro _ h9 ⟨rfl, hh9⟩
    rw [hh9]
    clear hh9 h9
    show Z _ _ _ _ _ _ _ _ _ _ _ _ _ _ _ _ _ _ _ _ [vL ((x5).toInt64.toInt)]
    exact z_lret F hr (Nat.le_of_ble_eq_true rfl) (Nat.le_of_ble_eq_true rfl) dX9_meanBits_20 (Or.inr (by rcases hp5 with ⟨a1, a2, a3⟩ | ⟨a1, a2, a3, s, d, a4, a5, a6⟩; exact absurd a2 (by omega); exact ⟨a1, by rw [a3], s, d, a4 ▸ I5, a5, a6⟩))
  · refine z_lconst0 F dX9_meanBits_12 ?_
    refine z_goto (tgt := 20) F dX9_meanBits_13 (by decide) ?_
    exact z_lret F hr (Nat.le_of_ble_eq_true rfl) (Nat.le_of_ble_eq_true rfl) dX9_meanBits_20 (Or.inl (by rcases hp5 with ⟨a1, a2, a3⟩ | ⟨a1, a2, a3⟩; exact ⟨a1, rfl, a3 ▸ I5⟩; exact absurd a2 (by omega)))
set_option maxRecDepth 100000 in
set_option maxHeartbeats 4000000 in
theorem mX9_isConsistent (l : Launch) (G : GG) (N0 : Nat) (h : Hp) (g : Nat → Nat) (σ : Sg) (hI : MI g σ h) (hR : RG σ) (hV : MV σ) : Ct l G N0 yX9_isConsistent (Cond.code yX9_isConsistent cX9_isConsistent 4 (some FieldType.boolean) :: LW) ({ frames := 4, cells := 0, slots := 0, locals := 150 }) [vR (g 0)] h (fun r h' => r = some (vI 1) ∧ ∃ s d : Int → Int, MI g (sw (sw (su σ 30 0 0) 14 s) 15 d) h' ∧ RF s ∧ RF d) := by
  refine ct_of rfl rfl ?_
  intro p e s m args below meth c F hr hnm
  have F : Fx p s m args meth c RX9 cX9_isConsistent 4 G N0 (cA h s.heap.size) := F
  obtain ⟨v0, v1, v2, v8, v16, v24, v29, vC, vE, vL, vK, vT⟩ := id hV
  obtain ⟨Q, hQ⟩ : ∃ z, z = MQ below (cQc G N0 h s.heap.size (fun r h' => r = some (vI 1) ∧ ∃ s d : Int → Int, MI g (sw (sw (su σ 30 0 0) 14 s) 15 d) h' ∧ RF s ∧ RF d)) args s 0 0 (cA h s.heap.size) := ⟨_, rfl⟩
  rw [← hQ]
  show Z _ _ _ _ _ _ _ _ _ _ _ _ _ _ _ _ _ _ _ [(0, vR (g 0))] []
  refine z_aload_n F dX9_isConsistent_0 rfl 0 rfl ?_
  refine z_iconst F dX9_isConsistent_1 ?_
  obtain ⟨h1, eh1, Ih1⟩ : ∃ z : Hp, hu h (g 0) (eO 14 [vI (σ 0 0), vI (σ 1 0), vI (σ 2 0), vR (g 3), vR (g 4), vR (g 5), vR (g 6), vR (g 7), vI (σ 8 0), vR (g 9), vR (g 10), vR (g 11), vR (g 12), vR (g 13), vR (g 14), vR (g 15), vI (σ 16 0), vR (g 17), vR (g 18), vR (g 19), vR (g 20), vR (g 21), vR (g 22), vR (g 23), vI (σ 24 0), vR (g 25), vR (g 26), vR (g 27), vR (g 28), vI (σ 29 0), vI 0]) = z ∧ MI g (su σ 30 0 0) z := ⟨_, rfl, mPs hI 30 rfl 0⟩
  refine z_put (fs := [vI (σ 0 0), vI (σ 1 0), vI (σ 2 0), vR (g 3), vR (g 4), vR (g 5), vR (g 6), vR (g 7), vI (σ 8 0), vR (g 9), vR (g 10), vR (g 11), vR (g 12), vR (g 13), vR (g 14), vR (g 15), vI (σ 16 0), vR (g 17), vR (g 18), vR (g 19), vR (g 20), vR (g 21), vR (g 22), vR (g 23), vI (σ 24 0), vR (g 25), vR (g 26), vR (g 27), vR (g 28), vI (σ 29 0), vI (σ 30 0)]) (fs' := [vI (σ 0 0), vI (σ 1 0), vI (σ 2 0), vR (g 3), vR (g 4), vR (g 5), vR (g 6), vR (g 7), vI (σ 8 0), vR (g 9), vR (g 10), vR (g 11), vR (g 12), vR (g 13), vR (g 14), vR (g 15), vI (σ 16 0), vR (g 17), vR (g 18), vR (g 19), vR (g 20), vR (g 21), vR (g 22), vR (g 23), vI (σ 24 0), vR (g 25), vR (g 26), vR (g 27), vR (g 28), vI (σ 29 0), vI 0]) (h' := h1) F (mI hI 0 rfl) fX9_86 ftX9_30 (nf_i _) (Nat.le_of_ble_eq_true rfl) rfl dX9_isConsistent_2 eh1 ?_
  refine z_aload_n F dX9_isConsistent_5 rfl 0 rfl ?_
  refine z_callV (As := []) (st := []) F (mX9_counts l G N0 h1 g (su σ 30 0 0) Ih1 (rg_su hR (by decide)) hV) cvX9_148 (mI Ih1 0 rfl) (fun r9 h9 => by cases h9; rfl) rfl rfl ⟨Nat.le_of_ble_eq_true rfl, Nat.le_of_ble_eq_true rfl⟩ rfl ⟨Nat.le_of_ble_eq_true rfl, Nat.le_of_ble_eq_true rfl⟩ dX9_isConsistent_6 ?_
  rintro _ h2 ⟨rfl, sh2, dh2, Ih2, Rsh2, Rdh2, Sh2, Dh2⟩
  show Z _ _ _ _ _ _ _ _ _ _ _ _ _ _ _ _ _ _ _ _ []
  simp only [secS_c, dayS_c] at Sh2 Dh2
  have nh2 : ∀ e, 0 ≤ e → e < σ 8 0 → sh2 e = secS σ e := Sh2
  have oh2 : ∀ e dd, 0 ≤ e → e < σ 8 0 → 0 ≤ dd → dd < 5 → dh2 (5 * e + dd) = dayS σ e dd := Dh2
  refine z_iconst F dX9_isConsistent_9 ?_
  refine z_istore_n (lv' := [(1, vI 0), (0, vR (g 0))]) F dX9_isConsistent_10 rfl (by decide) rfl ?_
  have L11 : ∀ (fuel : Nat) (i9 : Int), (0 ≤ i9) → (i9 ≤ σ 8 0) → σ 8 0 - i9 < (fuel : Int) → Z p l e ({ frames := 4, cells := 0, slots := 0, locals := 150 }) s m args below meth c 4 G N0 (cA h s.heap.size) Q h2 0 0 11 [(1, vI i9), (0, vR (g 0))] [] := by
    intro fuel
    induction fuel with
    | zero => intro i9  ha hb hm; exact absurd hm (by omega)
    | succ fuel ih11 =>
      intro i9  ha hb hm
      have E_i := vE i9 ha
      refine z_iload_n F dX9_isConsistent_11 rfl 0 rfl ?_
      refine z_aload_n F dX9_isConsistent_12 rfl 1 rfl ?_
      refine z_get (v := vI (σ 8 0)) F (mI Ih2 0 rfl) fX9_97 rfl dX9_isConsistent_13 ?_
      refine z_icmp_ge (tgt := 73) F dX9_isConsistent_16 (by decide) (by omega) (hR 8 0) (fun c16 => ?_) (fun c16 => ?_)
      · refine z_iconst F dX9_isConsistent_73 ?_
        rw [hQ]
        exact z_iret (nf_z (by omega)) F hr (Nat.le_of_ble_eq_true rfl) (Nat.le_of_ble_eq_true rfl) dX9_isConsistent_74 (⟨rfl, sh2, dh2, Ih2, Rsh2, Rdh2⟩)
      · refine z_iconst F dX9_isConsistent_19 ?_
        refine z_istore_n (lv' := [(2, vI 0), (1, vI i9), (0, vR (g 0))]) F dX9_isConsistent_20 rfl (by decide) rfl ?_
        refine z_iconst F dX9_isConsistent_21 ?_
        refine z_istore_n (lv' := [(3, vI 0), (2, vI 0), (1, vI i9), (0, vR (g 0))]) F dX9_isConsistent_22 rfl (by decide) rfl ?_
        have L23 : ∀ (fuel : Nat) (sm : Int) (d9 : Int), (0 ≤ d9) → (d9 ≤ 5) → (sm = dsS σ i9 d9.toNat) → 5 - d9 < (fuel : Int) → Z p l e ({ frames := 4, cells := 0, slots := 0, locals := 150 }) s m args below meth c 4 G N0 (cA h s.heap.size) Q h2 0 0 23 [(3, vI d9), (2, vI sm), (1, vI i9), (0, vR (g 0))] [] := by
          intro fuel
          induction fuel with
          | zero => intro sm d9  hc hd hn hm; exact absurd hm (by omega)
          | succ fuel ih23 =>
            intro sm d9  hc hd hn hm
            refine z_iload_n F dX9_isConsistent_23 rfl 0 rfl ?_
            refine z_iconst F dX9_isConsistent_24 ?_
            refine z_icmp_ge (tgt := 47) F dX9_isConsistent_25 (by decide) (by omega) (by decide) (fun c25 => ?_) (fun c25 => ?_)
            · refine z_aload_n F dX9_isConsistent_47 rfl 3 rfl ?_
              refine z_iload_n F dX9_isConsistent_48 rfl 2 rfl ?_
              refine z_callV (As := [vI i9]) (st := []) F (mX9_isOpen l G N0 h2 g (sw (sw (su σ 30 0 0) 14 sh2) 15 dh2) i9 Ih2 (rg_sw (rg_sw (rg_su hR (by decide)) Rsh2) Rdh2) (by omega)) cvX9_134 (mI Ih2 0 rfl) (fun r9 h9 => by cases h9; rfl) rfl rfl ⟨Nat.le_of_ble_eq_true rfl, Nat.le_of_ble_eq_true rfl⟩ rfl ⟨Nat.le_of_ble_eq_true rfl, Nat.le_of_ble_eq_true rfl⟩ dX9_isConsistent_49 ?_
              rintro _ h9 ⟨rfl, hh9⟩
              rw [hh9]
              clear hh9 h9
              show Z _ _ _ _ _ _ _ _ _ _ _ _ _ _ _ _ _ _ _ _ [vI (if σ 12 i9 = 114 ∨ σ 12 i9 = 101 then (1 : Int) else 0)]
              generalize ex3 : (if σ 12 i9 = 114 ∨ σ 12 i9 = 101 then (1 : Int) else 0) = x3
              show Z _ _ _ _ _ _ _ _ _ _ _ _ _ _ _ _ _ _ _ _ [vI x3]
              refine z_if_eq (tgt := 67) F dX9_isConsistent_52 (by decide) (by omega) (fun c52 => ?_) (fun c52 => ?_)
              · refine z_iinc (lv' := [(1, vI (i9 + 1)), (3, vI d9), (2, vI sm), (0, vR (g 0))]) F dX9_isConsistent_67 2 rfl (by decide) rfl ?_
                refine z_goto (tgt := 11) F dX9_isConsistent_70 (by decide) ?_
                refine z_pick (lv' := [(1, vI (i9 + 1)), (0, vR (g 0))]) [0, 3] rfl ?_
                exact ih11 (i9 + 1)  (by omega) (by omega) (by omega)
              · refine z_iload_n F dX9_isConsistent_55 rfl 1 rfl ?_
                refine z_aload_n F dX9_isConsistent_56 rfl 3 rfl ?_
                refine z_get (v := vR (g 14)) F (mI Ih2 0 rfl) fX9_45 rfl dX9_isConsistent_57 ?_
                refine z_iload_n F dX9_isConsistent_60 rfl 2 rfl ?_
                refine z_iaload (N := 24) (f := fun j => sh2 j) F (mI Ih2 14 rfl) (by omega) (by omega) (by omega) dX9_isConsistent_61 ?_
                have hso : sm = secS σ i9 := by rw [hn, show d9 = 5 by omega]; exact dsS_5 hV (by omega)
                have hse := secS_in hV ha (by omega)
                have hsx := nh2 i9 ha (by omega)
                refine z_icmp_eq (tgt := 67) F dX9_isConsistent_62 (by decide) (by omega) (by omega) (fun c62 => ?_) (fun c62 => ?_)
                · refine z_iinc (lv' := [(1, vI (i9 + 1)), (3, vI d9), (2, vI sm), (0, vR (g 0))]) F dX9_isConsistent_67 2 rfl (by decide) rfl ?_
                  refine z_goto (tgt := 11) F dX9_isConsistent_70 (by decide) ?_
                  refine z_pick (lv' := [(1, vI (i9 + 1)), (0, vR (g 0))]) [0, 3] rfl ?_
                  exact ih11 (i9 + 1)  (by omega) (by omega) (by omega)
                · exfalso; omega
            · refine z_iload_n F dX9_isConsistent_28 rfl 1 rfl ?_
              refine z_aload_n F dX9_isConsistent_29 rfl 3 rfl ?_
              refine z_get (v := vR (g 15)) F (mI Ih2 0 rfl) fX9_48 rfl dX9_isConsistent_30 ?_
              refine z_iconst F dX9_isConsistent_33 ?_
              refine z_iload_n F dX9_isConsistent_34 rfl 2 rfl ?_
              refine z_imul F dX9_isConsistent_35 ?_
              refine z_iload_n F dX9_isConsistent_36 rfl 0 rfl ?_
              refine z_iadd F dX9_isConsistent_37 ?_
              refine z_iaload (N := 120) (f := fun j => dh2 j) F (mI Ih2 15 rfl) (by omega) (by omega) (by omega) dX9_isConsistent_38 ?_
              refine z_iadd F dX9_isConsistent_39 ?_
              refine z_istore_n (lv' := [(2, vI (sm + (dh2 ((5 * i9) + d9)))), (3, vI d9), (1, vI i9), (0, vR (g 0))]) F dX9_isConsistent_40 rfl (by decide) rfl ?_
              refine z_iinc (lv' := [(3, vI (d9 + 1)), (2, vI (sm + (dh2 ((5 * i9) + d9)))), (1, vI i9), (0, vR (g 0))]) F dX9_isConsistent_41 1 rfl (by decide) rfl ?_
              refine z_goto (tgt := 23) F dX9_isConsistent_44 (by decide) ?_
              exact ih23 (sm + (dh2 ((5 * i9) + d9))) (d9 + 1)  (by omega) (by omega) (by rw [dsS_s σ i9 hc, hn, oh2 i9 d9 ha (by omega) hc (by omega)]) (by omega)
        exact L23 ((5 - 0 : Int).toNat + 1) 0 0  (by omega) (by omega) (rfl) (by omega)
  exact L11 ((σ 8 0 - 0 : Int).toNat + 1) 0  (by omega) (by omega) (by omega)
