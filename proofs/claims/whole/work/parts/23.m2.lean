set_option maxRecDepth 100000 in
set_option maxHeartbeats 4000000 in
theorem mX9_pass (l : Launch) (G : GG) (N0 : Nat) (h : Hp) (g : Nat → Nat) (σ : Sg) (m9 : Int) (hI : MI g σ h) (hR : RG σ) (hV : MV σ) (r_m9 : -2147483648 ≤ m9 ∧ m9 < 2147483648) : Ct l G N0 yX9_pass (Cond.code yX9_pass cX9_pass 2 (some FieldType.int) :: LW) ({ frames := 1, cells := 0, slots := 0, locals := 40 }) [vR (g 0), vI m9] h (fun r h' => ((¬ (1 ≤ m9 ∧ m9 ≤ 600)) ∧ r = some (vI 0) ∧ MI g (su σ 30 0 1) h') ∨ (¬ (¬ (1 ≤ m9 ∧ m9 ≤ 600)) ∧ (2999 < σ 0 0 + m9) ∧ r = some (vI 0) ∧ MI g (su σ 30 0 2) h') ∨ (¬ (¬ (1 ≤ m9 ∧ m9 ≤ 600)) ∧ ¬ (2999 < σ 0 0 + m9) ∧ r = some (vI (σ 0 0 + m9)) ∧ MI g (su (su σ 30 0 0) 0 0 (σ 0 0 + m9)) h')) := by
  refine ct_of rfl rfl ?_
  intro p e s m args below meth c F hr hnm
  have F : Fx p s m args meth c RX9 cX9_pass 2 G N0 (cA h s.heap.size) := F
  obtain ⟨v0, v1, v2, v8, v16, v24, v29, vC, vE, vL, vK, vT⟩ := id hV
  show Z _ _ _ _ _ _ _ _ _ _ _ _ _ _ _ _ _ _ _ [(0, vR (g 0)), (1, vI m9)] []
  refine z_aload_n F dX9_pass_0 rfl 0 rfl ?_
  refine z_iload_n F dX9_pass_1 rfl 1 rfl ?_
  refine z_iconst F dX9_pass_2 ?_
  refine z_sipush F dX9_pass_3 (by decide) ?_
  refine z_callS (As := [vI m9, vI 1, vI 600]) (st := [vR (g 0)]) F (mX9_in l G N0 h m9 1 600 (by omega) (by decide) (by decide)) csX9_93 rfl rfl ⟨Nat.le_of_ble_eq_true rfl, Nat.le_of_ble_eq_true rfl⟩ rfl ⟨Nat.le_of_ble_eq_true rfl, Nat.le_of_ble_eq_true rfl⟩ dX9_pass_6 ?_
  rintro _ h9 ⟨rfl, hh9⟩
  rw [hh9]
  clear hh9 h9
  generalize ex1 : (if 1 ≤ m9 ∧ m9 ≤ 600 then (1 : Int) else 0) = x1
  show Z _ _ _ _ _ _ _ _ _ _ _ _ _ _ _ _ _ _ _ _ [vI x1, vR (g 0)]
  refine z_if_ne (tgt := 16) F dX9_pass_9 (by decide) (by omega) (fun c9 => ?_) (fun c9 => ?_)
  · refine z_aload_n F dX9_pass_16 rfl 0 rfl ?_
    refine z_get (v := vI (σ 0 0)) F (mI hI 0 rfl) fX9_100 rfl dX9_pass_17 ?_
    refine z_iload_n F dX9_pass_20 rfl 1 rfl ?_
    refine z_iadd F dX9_pass_21 ?_
    refine z_sipush F dX9_pass_22 (by decide) ?_
    refine z_icmp_le (tgt := 32) F dX9_pass_25 (by decide) (by omega) (by decide) (fun c25 => ?_) (fun c25 => ?_)
    · refine z_iconst F dX9_pass_32 ?_
      refine z_callV (As := [vI 0]) (st := []) F (mX9_fails l G N0 h g σ 0 hI hR (by decide)) cvX9_107 (mI hI 0 rfl) (fun r9 h9 => by cases h9; rfl) rfl rfl ⟨Nat.le_of_ble_eq_true rfl, Nat.le_of_ble_eq_true rfl⟩ rfl ⟨Nat.le_of_ble_eq_true rfl, Nat.le_of_ble_eq_true rfl⟩ dX9_pass_33 ?_
      rintro _ h2 ⟨rfl, Ih2⟩
      rw [if_neg (by decide)]
      show Z _ _ _ _ _ _ _ _ _ _ _ _ _ _ _ _ _ _ _ _ [vI 0]
      refine z_if_eq (tgt := 41) F dX9_pass_36 (by decide) (by decide) (fun c36 => ?_) (fun c36 => ?_)
      · refine z_aload_n F dX9_pass_41 rfl 0 rfl ?_
        refine z_dup F dX9_pass_42 rfl ?_
        refine z_get (v := vI (σ 0 0)) F (mI Ih2 0 rfl) fX9_100 rfl dX9_pass_43 ?_
        refine z_iload_n F dX9_pass_46 rfl 1 rfl ?_
        refine z_iadd F dX9_pass_47 ?_
        obtain ⟨h3, eh3, Ih3⟩ : ∃ z : Hp, hu h2 (g 0) (eO 14 [vI ((σ 0 0) + m9), vI (σ 1 0), vI (σ 2 0), vR (g 3), vR (g 4), vR (g 5), vR (g 6), vR (g 7), vI (σ 8 0), vR (g 9), vR (g 10), vR (g 11), vR (g 12), vR (g 13), vR (g 14), vR (g 15), vI (σ 16 0), vR (g 17), vR (g 18), vR (g 19), vR (g 20), vR (g 21), vR (g 22), vR (g 23), vI (σ 24 0), vR (g 25), vR (g 26), vR (g 27), vR (g 28), vI (σ 29 0), vI 0]) = z ∧ MI g (su (su σ 30 0 0) 0 0 ((σ 0 0) + m9)) z := ⟨_, rfl, mPs Ih2 0 rfl ((σ 0 0) + m9)⟩
        refine z_put (fs := [vI (σ 0 0), vI (σ 1 0), vI (σ 2 0), vR (g 3), vR (g 4), vR (g 5), vR (g 6), vR (g 7), vI (σ 8 0), vR (g 9), vR (g 10), vR (g 11), vR (g 12), vR (g 13), vR (g 14), vR (g 15), vI (σ 16 0), vR (g 17), vR (g 18), vR (g 19), vR (g 20), vR (g 21), vR (g 22), vR (g 23), vI (σ 24 0), vR (g 25), vR (g 26), vR (g 27), vR (g 28), vI (σ 29 0), vI 0]) (fs' := [vI ((σ 0 0) + m9), vI (σ 1 0), vI (σ 2 0), vR (g 3), vR (g 4), vR (g 5), vR (g 6), vR (g 7), vI (σ 8 0), vR (g 9), vR (g 10), vR (g 11), vR (g 12), vR (g 13), vR (g 14), vR (g 15), vI (σ 16 0), vR (g 17), vR (g 18), vR (g 19), vR (g 20), vR (g 21), vR (g 22), vR (g 23), vI (σ 24 0), vR (g 25), vR (g 26), vR (g 27), vR (g 28), vI (σ 29 0), vI 0]) (h' := h3) F (mI Ih2 0 rfl) fX9_100 ftX9_0 (nf_i _) (Nat.le_of_ble_eq_true rfl) rfl dX9_pass_48 eh3 ?_
        refine z_aload_n F dX9_pass_51 rfl 0 rfl ?_
        refine z_get (v := vI ((σ 0 0) + m9)) F (mI Ih3 0 rfl) fX9_100 rfl dX9_pass_52 ?_
        exact z_iret (nf_i _) F hr (Nat.le_of_ble_eq_true rfl) (Nat.le_of_ble_eq_true rfl) dX9_pass_55 (Or.inr (Or.inr (⟨by omega, by omega, rfl, Ih3⟩)))
      · exact absurd c36 (by decide)
    · refine z_iconst F dX9_pass_28 ?_
      refine z_goto (tgt := 33) F dX9_pass_29 (by decide) ?_
      refine z_callV (As := [vI 2]) (st := []) F (mX9_fails l G N0 h g σ 2 hI hR (by decide)) cvX9_107 (mI hI 0 rfl) (fun r9 h9 => by cases h9; rfl) rfl rfl ⟨Nat.le_of_ble_eq_true rfl, Nat.le_of_ble_eq_true rfl⟩ rfl ⟨Nat.le_of_ble_eq_true rfl, Nat.le_of_ble_eq_true rfl⟩ dX9_pass_33 ?_
      rintro _ h4 ⟨rfl, Ih4⟩
      rw [if_pos (by decide)]
      show Z _ _ _ _ _ _ _ _ _ _ _ _ _ _ _ _ _ _ _ _ [vI 1]
      refine z_if_eq (tgt := 41) F dX9_pass_36 (by decide) (by decide) (fun c36 => ?_) (fun c36 => ?_)
      · exact absurd c36 (by decide)
      · refine z_iconst F dX9_pass_39 ?_
        exact z_iret (nf_i _) F hr (Nat.le_of_ble_eq_true rfl) (Nat.le_of_ble_eq_true rfl) dX9_pass_40 (Or.inr (Or.inl ⟨by omega, by omega, rfl, Ih4⟩))
  · refine z_iconst F dX9_pass_12 ?_
    refine z_goto (tgt := 33) F dX9_pass_13 (by decide) ?_
    refine z_callV (As := [vI 1]) (st := []) F (mX9_fails l G N0 h g σ 1 hI hR (by decide)) cvX9_107 (mI hI 0 rfl) (fun r9 h9 => by cases h9; rfl) rfl rfl ⟨Nat.le_of_ble_eq_true rfl, Nat.le_of_ble_eq_true rfl⟩ rfl ⟨Nat.le_of_ble_eq_true rfl, Nat.le_of_ble_eq_true rfl⟩ dX9_pass_33 ?_
    rintro _ h5 ⟨rfl, Ih5⟩
    rw [if_pos (by decide)]
    show Z _ _ _ _ _ _ _ _ _ _ _ _ _ _ _ _ _ _ _ _ [vI 1]
    refine z_if_eq (tgt := 41) F dX9_pass_36 (by decide) (by decide) (fun c36 => ?_) (fun c36 => ?_)
    · exact absurd c36 (by decide)
    · refine z_iconst F dX9_pass_39 ?_
      exact z_iret (nf_i _) F hr (Nat.le_of_ble_eq_true rfl) (Nat.le_of_ble_eq_true rfl) dX9_pass_40 (Or.inl ⟨by omega, rfl, Ih5⟩)
set_option maxRecDepth 100000 in
set_option maxHeartbeats 4000000 in
theorem mX9_setRule (l : Launch) (G : GG) (N0 : Nat) (h : Hp) (g : Nat → Nat) (σ : Sg) (ru : Int) (hI : MI g σ h) (hR : RG σ) (hV : MV σ) (r_ru : 0 ≤ ru ∧ ru < 65536) : Ct l G N0 yX9_setRule (Cond.code yX9_setRule cX9_setRule 3 (some FieldType.char) :: LW) ({ frames := 1, cells := 0, slots := 0, locals := 40 }) [vR (g 0), vI ru] h (fun r h' => ((ru ≠ 102 ∧ ru ≠ 108 ∧ ru ≠ 115) ∧ r = some (vI 32) ∧ MI g (su σ 30 0 1) h') ∨ (¬ (ru ≠ 102 ∧ ru ≠ 108 ∧ ru ≠ 115) ∧ r = some (vI (σ 1 0)) ∧ MI g (su (su σ 30 0 0) 1 0 ru) h')) := by
  refine ct_of rfl rfl ?_
  intro p e s m args below meth c F hr hnm
  have F : Fx p s m args meth c RX9 cX9_setRule 3 G N0 (cA h s.heap.size) := F
  obtain ⟨v0, v1, v2, v8, v16, v24, v29, vC, vE, vL, vK, vT⟩ := id hV
  show Z _ _ _ _ _ _ _ _ _ _ _ _ _ _ _ _ _ _ _ [(0, vR (g 0)), (1, vI ru)] []
  refine z_aload_n F dX9_setRule_0 rfl 0 rfl ?_
  refine z_iload_n F dX9_setRule_1 rfl 1 rfl ?_
  refine z_bipush F dX9_setRule_2 (by decide) ?_
  refine z_icmp_eq (tgt := 23) F dX9_setRule_4 (by decide) (by omega) (by decide) (fun c4 => ?_) (fun c4 => ?_)
  · refine z_iconst F dX9_setRule_23 ?_
    refine z_callV (As := [vI 0]) (st := []) F (mX9_fails l G N0 h g σ 0 hI hR (by decide)) cvX9_107 (mI hI 0 rfl) (fun r9 h9 => by cases h9; rfl) rfl rfl ⟨Nat.le_of_ble_eq_true rfl, Nat.le_of_ble_eq_true rfl⟩ rfl ⟨Nat.le_of_ble_eq_true rfl, Nat.le_of_ble_eq_true rfl⟩ dX9_setRule_24 ?_
    rintro _ h1 ⟨rfl, Ih1⟩
    rw [if_neg (by decide)]
    show Z _ _ _ _ _ _ _ _ _ _ _ _ _ _ _ _ _ _ _ _ [vI 0]
    refine z_if_eq (tgt := 33) F dX9_setRule_27 (by decide) (by decide) (fun c27 => ?_) (fun c27 => ?_)
    · refine z_aload_n F dX9_setRule_33 rfl 0 rfl ?_
      refine z_get (v := vI (σ 1 0)) F (mI Ih1 0 rfl) fX9_7 rfl dX9_setRule_34 ?_
      refine z_istore_n (lv' := [(2, vI (σ 1 0)), (0, vR (g 0)), (1, vI ru)]) F dX9_setRule_37 rfl (by decide) rfl ?_
      refine z_aload_n F dX9_setRule_38 rfl 1 rfl ?_
      refine z_iload_n F dX9_setRule_39 rfl 2 rfl ?_
      obtain ⟨h2, eh2, Ih2⟩ : ∃ z : Hp, hu h1 (g 0) (eO 14 [vI (σ 0 0), vI ru, vI (σ 2 0), vR (g 3), vR (g 4), vR (g 5), vR (g 6), vR (g 7), vI (σ 8 0), vR (g 9), vR (g 10), vR (g 11), vR (g 12), vR (g 13), vR (g 14), vR (g 15), vI (σ 16 0), vR (g 17), vR (g 18), vR (g 19), vR (g 20), vR (g 21), vR (g 22), vR (g 23), vI (σ 24 0), vR (g 25), vR (g 26), vR (g 27), vR (g 28), vI (σ 29 0), vI 0]) = z ∧ MI g (su (su σ 30 0 0) 1 0 ru) z := ⟨_, rfl, mPs Ih1 1 rfl ru⟩
      refine z_put (fs := [vI (σ 0 0), vI (σ 1 0), vI (σ 2 0), vR (g 3), vR (g 4), vR (g 5), vR (g 6), vR (g 7), vI (σ 8 0), vR (g 9), vR (g 10), vR (g 11), vR (g 12), vR (g 13), vR (g 14), vR (g 15), vI (σ 16 0), vR (g 17), vR (g 18), vR (g 19), vR (g 20), vR (g 21), vR (g 22), vR (g 23), vI (σ 24 0), vR (g 25), vR (g 26), vR (g 27), vR (g 28), vI (σ 29 0), vI 0]) (fs' := [vI (σ 0 0), vI ru, vI (σ 2 0), vR (g 3), vR (g 4), vR (g 5), vR (g 6), vR (g 7), vI (σ 8 0), vR (g 9), vR (g 10), vR (g 11), vR (g 12), vR (g 13), vR (g 14), vR (g 15), vI (σ 16 0), vR (g 17), vR (g 18), vR (g 19), vR (g 20), vR (g 21), vR (g 22), vR (g 23), vI (σ 24 0), vR (g 25), vR (g 26), vR (g 27), vR (g 28), vI (σ 29 0), vI 0]) (h' := h2) F (mI Ih1 0 rfl) fX9_7 ftX9_1 (nf_c (by omega)) (Nat.le_of_ble_eq_true rfl) rfl dX9_setRule_40 eh2 ?_
      refine z_iload_n F dX9_setRule_43 rfl 0 rfl ?_
      exact z_iret (nf_c (by omega)) F hr (Nat.le_of_ble_eq_true rfl) (Nat.le_of_ble_eq_true rfl) dX9_setRule_44 (Or.inr (⟨by omega, rfl, Ih2⟩))
    · exact absurd c27 (by decide)
  · refine z_iload_n F dX9_setRule_7 rfl 1 rfl ?_
    refine z_bipush F dX9_setRule_8 (by decide) ?_
    refine z_icmp_eq (tgt := 23) F dX9_setRule_10 (by decide) (by omega) (by decide) (fun c10 => ?_) (fun c10 => ?_)
    · refine z_iconst F dX9_setRule_23 ?_
      refine z_callV (As := [vI 0]) (st := []) F (mX9_fails l G N0 h g σ 0 hI hR (by decide)) cvX9_107 (mI hI 0 rfl) (fun r9 h9 => by cases h9; rfl) rfl rfl ⟨Nat.le_of_ble_eq_true rfl, Nat.le_of_ble_eq_true rfl⟩ rfl ⟨Nat.le_of_ble_eq_true rfl, Nat.le_of_ble_eq_true rfl⟩ dX9_setRule_24 ?_
      rintro _ h3 ⟨rfl, Ih3⟩
      rw [if_neg (by decide)]
      show Z _ _ _ _ _ _ _ _ _ _ _ _ _ _ _ _ _ _ _ _ [vI 0]
      refine z_if_eq (tgt := 33) F dX9_setRule_27 (by decide) (by decide) (fun c27 => ?_) (fun c27 => ?_)
      · refine z_aload_n F dX9_setRule_33 rfl 0 rfl ?_
        refine z_get (v := vI (σ 1 0)) F (mI Ih3 0 rfl) fX9_7 rfl dX9_setRule_34 ?_
        refine z_istore_n (lv' := [(2, vI (σ 1 0)), (0, vR (g 0)), (1, vI ru)]) F dX9_setRule_37 rfl (by decide) rfl ?_
        refine z_aload_n F dX9_setRule_38 rfl 1 rfl ?_
        refine z_iload_n F dX9_setRule_39 rfl 2 rfl ?_
        obtain ⟨h4, eh4, Ih4⟩ : ∃ z : Hp, hu h3 (g 0) (eO 14 [vI (σ 0 0), vI ru, vI (σ 2 0), vR (g 3), vR (g 4), vR (g 5), vR (g 6), vR (g 7), vI (σ 8 0), vR (g 9), vR (g 10), vR (g 11), vR (g 12), vR (g 13), vR (g 14), vR (g 15), vI (σ 16 0), vR (g 17), vR (g 18), vR (g 19), vR (g 20), vR (g 21), vR (g 22), vR (g 23), vI (σ 24 0), vR (g 25), vR (g 26), vR (g 27), vR (g 28), vI (σ 29 0), vI 0]) = z ∧ MI g (su (su σ 30 0 0) 1 0 ru) z := ⟨_, rfl, mPs Ih3 1 rfl ru⟩
        refine z_put (fs := [vI (σ 0 0), vI (σ 1 0), vI (σ 2 0), vR (g 3), vR (g 4), vR (g 5), vR (g 6), vR (g 7), vI (σ 8 0), vR (g 9), vR (g 10), vR (g 11), vR (g 12), vR (g 13), vR (g 14), vR (g 15), vI (σ 16 0), vR (g 17), vR (g 18), vR (g 19), vR (g 20), vR (g 21), vR (g 22), vR (g 23), vI (σ 24 0), vR (g 25), vR (g 26), vR (g 27), vR (g 28), vI (σ 29 0), vI 0]) (fs' := [vI (σ 0 0), vI ru, vI (σ 2 0), vR (g 3), vR (g 4), vR (g 5), vR (g 6), vR (g 7), vI (σ 8 0), vR (g 9), vR (g 10), vR (g 11), vR (g 12), vR (g 13), vR (g 14), vR (g 15), vI (σ 16 0), vR (g 17), vR (g 18), vR (g 19), vR (g 20), vR (g 21), vR (g 22), vR (g 23), vI (σ 24 0), vR (g 25), vR (g 26), vR (g 27), vR (g 28), vI (σ 29 0), vI 0]) (h' := h4) F (mI Ih3 0 rfl) fX9_7 ftX9_1 (nf_c (by omega)) (Nat.le_of_ble_eq_true rfl) rfl dX9_setRule_40 eh4 ?_
        refine z_iload_n F dX9_setRule_43 rfl 0 rfl ?_
        exact z_iret (nf_c (by omega)) F hr (Nat.le_of_ble_eq_true rfl) (Nat.le_of_ble_eq_true rfl) dX9_setRule_44 (Or.inr (⟨by omega, rfl, Ih4⟩))
      · exact absurd c27 (by decide)
    · refine z_iload_n F dX9_setRule_13 rfl 1 rfl ?_
      refine z_bipush F dX9_setRule_14 (by decide) ?_
      refine z_icmp_eq (tgt := 23) F dX9_setRule_16 (by decide) (by omega) (by decide) (fun c16 => ?_) (fun c16 => ?_)
      · refine z_iconst F dX9_setRule_23 ?_
        refine z_callV (As := [vI 0]) (st := []) F (mX9_fails l G N0 h g σ 0 hI hR (by decide)) cvX9_107 (mI hI 0 rfl) (fun r9 h9 => by cases h9; rfl) rfl rfl ⟨Nat.le_of_ble_eq_true rfl, Nat.le_of_ble_eq_true rfl⟩ rfl ⟨Nat.le_of_ble_eq_true rfl, Nat.le_of_ble_eq_true rfl⟩ dX9_setRule_24 ?_
        rintro _ h5 ⟨rfl, Ih5⟩
        rw [if_neg (by decide)]
        show Z _ _ _ _ _ _ _ _ _ _ _ _ _ _ _ _ _ _ _ _ [vI 0]
        refine z_if_eq (tgt := 33) F dX9_setRule_27 (by decide) (by decide) (fun c27 => ?_) (fun c27 => ?_)
        · refine z_aload_n F dX9_setRule_33 rfl 0 rfl ?_
          refine z_get (v := vI (σ 1 0)) F (mI Ih5 0 rfl) fX9_7 rfl dX9_setRule_34 ?_
          refine z_istore_n (lv' := [(2, vI (σ 1 0)), (0, vR (g 0)), (1, vI ru)]) F dX9_setRule_37 rfl (by decide) rfl ?_
          refine z_aload_n F dX9_setRule_38 rfl 1 rfl ?_
          refine z_iload_n F dX9_setRule_39 rfl 2 rfl ?_
          obtain ⟨h6, eh6, Ih6⟩ : ∃ z : Hp, hu h5 (g 0) (eO 14 [vI (σ 0 0), vI ru, vI (σ 2 0), vR (g 3), vR (g 4), vR (g 5), vR (g 6), vR (g 7), vI (σ 8 0), vR (g 9), vR (g 10), vR (g 11), vR (g 12), vR (g 13), vR (g 14), vR (g 15), vI (σ 16 0), vR (g 17), vR (g 18), vR (g 19), vR (g 20), vR (g 21), vR (g 22), vR (g 23), vI (σ 24 0), vR (g 25), vR (g 26), vR (g 27), vR (g 28), vI (σ 29 0), vI 0]) = z ∧ MI g (su (su σ 30 0 0) 1 0 ru) z := ⟨_, rfl, mPs Ih5 1 rfl ru⟩
          refine z_put (fs := [vI (σ 0 0), vI (σ 1 0), vI (σ 2 0), vR (g 3), vR (g 4), vR (g 5), vR (g 6), vR (g 7), vI (σ 8 0), vR (g 9), vR (g 10), vR (g 11), vR (g 12), vR (g 13), vR (g 14), vR (g 15), vI (σ 16 0), vR (g 17), vR (g 18), vR (g 19), vR (g 20), vR (g 21), vR (g 22), vR (g 23), vI (σ 24 0), vR (g 25), vR (g 26), vR (g 27), vR (g 28), vI (σ 29 0), vI 0]) (fs' := [vI (σ 0 0), vI ru, vI (σ 2 0), vR (g 3), vR (g 4), vR (g 5), vR (g 6), vR (g 7), vI (σ 8 0), vR (g 9), vR (g 10), vR (g 11), vR (g 12), vR (g 13), vR (g 14), vR (g 15), vI (σ 16 0), vR (g 17), vR (g 18), vR (g 19), vR (g 20), vR (g 21), vR (g 22), vR (g 23), vI (σ 24 0), vR (g 25), vR (g 26), vR (g 27), vR (g 28), vI (σ 29 0), vI 0]) (h' := h6) F (mI Ih5 0 rfl) fX9_7 ftX9_1 (nf_c (by omega)) (Nat.le_of_ble_eq_true rfl) rfl dX9_setRule_40 eh6 ?_
          refine z_iload_n F dX9_setRule_43 rfl 0 rfl ?_
          exact z_iret (nf_c (by omega)) F hr (Nat.le_of_ble_eq_true rfl) (Nat.le_of_ble_eq_true rfl) dX9_setRule_44 (Or.inr (⟨by omega, rfl, Ih6⟩))
        · exact absurd c27 (by decide)
      · refine z_iconst F dX9_setRule_19 ?_
        refine z_goto (tgt := 24) F dX9_setRule_20 (by decide) ?_
        refine z_callV (As := [vI 1]) (st := []) F (mX9_fails l G N0 h g σ 1 hI hR (by decide)) cvX9_107 (mI hI 0 rfl) (fun r9 h9 => by cases h9; rfl) rfl rfl ⟨Nat.le_of_ble_eq_true rfl, Nat.le_of_ble_eq_true rfl⟩ rfl ⟨Nat.le_of_ble_eq_true rfl, Nat.le_of_ble_eq_true rfl⟩ dX9_setRule_24 ?_
        rintro _ h7 ⟨rfl, Ih7⟩
        rw [if_pos (by decide)]
        show Z _ _ _ _ _ _ _ _ _ _ _ _ _ _ _ _ _ _ _ _ [vI 1]
        refine z_if_eq (tgt := 33) F dX9_setRule_27 (by decide) (by decide) (fun c27 => ?_) (fun c27 => ?_)
        · exact absurd c27 (by decide)
        · refine z_bipush F dX9_setRule_30 (by decide) ?_
          exact z_iret (nf_c (by omega)) F hr (Nat.le_of_ble_eq_true rfl) (Nat.le_of_ble_eq_true rfl) dX9_setRule_32 (Or.inl ⟨by omega, rfl, Ih7⟩)
set_option maxRecDepth 100000 in
set_option maxHeartbeats 4000000 in
theorem mX9_isRounding (l : Launch) (G : GG) (N0 : Nat) (h : Hp) (u9 mo le : Int) (r_u9 : -2147483648 ≤ u9 ∧ u9 < 2147483648) (r_mo : 0 ≤ mo ∧ mo < 65536) (r_le : 0 ≤ le ∧ le < 65536) : Ct l G N0 yX9_isRounding (Cond.code yX9_isRounding cX9_isRounding 3 (some FieldType.boolean) :: LW) ({ frames := 1, cells := 0, slots := 0, locals := 40 }) [vI u9, vI mo, vI le] h (fun r h' => r = some (vI (if (1 ≤ u9 ∧ u9 ≤ 60) ∧ (mo = 117 ∨ mo = 100 ∨ mo = 110) ∧ (le = 101 ∨ le = 100 ∨ le = 99) then 1 else 0)) ∧ h' = h) := by
  refine ct_of rfl rfl ?_
  intro p e s m args below meth c F hr hnm
  have F : Fx p s m args meth c RX9 cX9_isRounding 3 G N0 (cA h s.heap.size) := F
  show Z _ _ _ _ _ _ _ _ _ _ _ _ _ _ _ _ _ _ _ [(0, vI u9), (1, vI mo), (2, vI le)] []
  refine z_iload_n F dX9_isRounding_0 rfl 0 rfl ?_
  refine z_iconst F dX9_isRounding_1 ?_
  refine z_bipush F dX9_isRounding_2 (by decide) ?_
  refine z_callS (As := [vI u9, vI 1, vI 60]) (st := []) F (mX9_in l G N0 h u9 1 60 (by omega) (by decide) (by decide)) csX9_93 rfl rfl ⟨Nat.le_of_ble_eq_true rfl, Nat.le_of_ble_eq_true rfl⟩ rfl ⟨Nat.le_of_ble_eq_true rfl, Nat.le_of_ble_eq_true rfl⟩ dX9_isRounding_4 ?_
  rintro _ h9 ⟨rfl, hh9⟩
  rw [hh9]
  clear hh9 h9
  generalize ex1 : (if 1 ≤ u9 ∧ u9 ≤ 60 then (1 : Int) else 0) = x1
  show Z _ _ _ _ _ _ _ _ _ _ _ _ _ _ _ _ _ _ _ _ [vI x1]
  refine z_if_eq (tgt := 50) F dX9_isRounding_7 (by decide) (by omega) (fun c7 => ?_) (fun c7 => ?_)
  · refine z_iconst F dX9_isRounding_50 ?_
    exact z_iret (nf_z (by omega)) F hr (Nat.le_of_ble_eq_true rfl) (Nat.le_of_ble_eq_true rfl) dX9_isRounding_51 (⟨rI (by omega), rfl⟩)
  · refine z_iload_n F dX9_isRounding_10 rfl 1 rfl ?_
    refine z_bipush F dX9_isRounding_11 (by decide) ?_
    refine z_icmp_eq (tgt := 28) F dX9_isRounding_13 (by decide) (by omega) (by decide) (fun c13 => ?_) (fun c13 => ?_)
    · refine z_iload_n F dX9_isRounding_28 rfl 2 rfl ?_
      refine z_bipush F dX9_isRounding_29 (by decide) ?_
      refine z_icmp_eq (tgt := 46) F dX9_isRounding_31 (by decide) (by omega) (by decide) (fun c31 => ?_) (fun c31 => ?_)
      · refine z_iconst F dX9_isRounding_46 ?_
        refine z_goto (tgt := 51) F dX9_isRounding_47 (by decide) ?_
        exact z_iret (nf_z (by omega)) F hr (Nat.le_of_ble_eq_true rfl) (Nat.le_of_ble_eq_true rfl) dX9_isRounding_51 (⟨rI (by omega), rfl⟩)
      · refine z_iload_n F dX9_isRounding_34 rfl 2 rfl ?_
        refine z_bipush F dX9_isRounding_35 (by decide) ?_
        refine z_icmp_eq (tgt := 46) F dX9_isRounding_37 (by decide) (by omega) (by decide) (fun c37 => ?_) (fun c37 => ?_)
        · refine z_iconst F dX9_isRounding_46 ?_
          refine z_goto (tgt := 51) F dX9_isRounding_47 (by decide) ?_
          exact z_iret (nf_z (by omega)) F hr (Nat.le_of_ble_eq_true rfl) (Nat.le_of_ble_eq_true rfl) dX9_isRounding_51 (⟨rI (by omega), rfl⟩)
        · refine z_iload_n F dX9_isRounding_40 rfl 2 rfl ?_
          refine z_bipush F dX9_isRounding_41 (by decide) ?_
          refine z_icmp_ne (tgt := 50) F dX9_isRounding_43 (by decide) (by omega) (by decide) (fun c43 => ?_) (fun c43 => ?_)
          · refine z_iconst F dX9_isRounding_50 ?_
            exact z_iret (nf_z (by omega)) F hr (Nat.le_of_ble_eq_true rfl) (Nat.le_of_ble_eq_true rfl) dX9_isRounding_51 (⟨rI (by omega), rfl⟩)
          · refine z_iconst F dX9_isRounding_46 ?_
            refine z_goto (tgt := 51) F dX9_isRounding_47 (by decide) ?_
            exact z_iret (nf_z (by omega)) F hr (Nat.le_of_ble_eq_true rfl) (Nat.le_of_ble_eq_true rfl) dX9_isRounding_51 (⟨rI (by omega), rfl⟩)
    · refine z_iload_n F dX9_isRounding_16 rfl 1 rfl ?_
      refine z_bipush F dX9_isRounding_17 (by decide) ?_
      refine z_icmp_eq (tgt := 28) F dX9_isRounding_19 (by decide) (by omega) (by decide) (fun c19 => ?_) (fun c19 => ?_)
      · refine z_iload_n F dX9_isRounding_28 rfl 2 rfl ?_
        refine z_bipush F dX9_isRounding_29 (by decide) ?_
        refine z_icmp_eq (tgt := 46) F dX9_isRounding_31 (by decide) (by omega) (by decide) (fun c31 => ?_) (fun c31 => ?_)
        · refine z_iconst F dX9_isRounding_46 ?_
          refine z_goto (tgt := 51) F dX9_isRounding_47 (by decide) ?_
          exact z_iret (nf_z (by omega)) F hr (Nat.le_of_ble_eq_true rfl) (Nat.le_of_ble_eq_true rfl) dX9_isRounding_51 (⟨rI (by omega), rfl⟩)
        · refine z_iload_n F dX9_isRounding_34 rfl 2 rfl ?_
          refine z_bipush F dX9_isRounding_35 (by decide) ?_
          refine z_icmp_eq (tgt := 46) F dX9_isRounding_37 (by decide) (by omega) (by decide) (fun c37 => ?_) (fun c37 => ?_)
          · refine z_iconst F dX9_isRounding_46 ?_
            refine z_goto (tgt := 51) F dX9_isRounding_47 (by decide) ?_
            exact z_iret (nf_z (by omega)) F hr (Nat.le_of_ble_eq_true rfl) (Nat.le_of_ble_eq_true rfl) dX9_isRounding_51 (⟨rI (by omega), rfl⟩)
          · refine z_iload_n F dX9_isRounding_40 rfl 2 rfl ?_
            refine z_bipush F dX9_isRounding_41 (by decide) ?_
            refine z_icmp_ne (tgt := 50) F dX9_isRounding_43 (by decide) (by omega) (by decide) (fun c43 => ?_) (fun c43 => ?_)
            · refine z_iconst F dX9_isRounding_50 ?_
              exact z_iret (nf_z (by omega)) F hr (Nat.le_of_ble_eq_true rfl) (Nat.le_of_ble_eq_true rfl) dX9_isRounding_51 (⟨rI (by omega), rfl⟩)
            · refine z_iconst F dX9_isRounding_46 ?_
              refine z_goto (tgt := 51) F dX9_isRounding_47 (by decide) ?_
              exact z_iret (nf_z (by omega)) F hr (Nat.le_of_ble_eq_true rfl) (Nat.le_of_ble_eq_true rfl) dX9_isRounding_51 (⟨rI (by omega), rfl⟩)
      · refine z_iload_n F dX9_isRounding_22 rfl 1 rfl ?_
        refine z_bipush F dX9_isRounding_23 (by decide) ?_
        refine z_icmp_ne (tgt := 50) F dX9_isRounding_25 (by decide) (by omega) (by decide) (fun c25 => ?_) (fun c25 => ?_)
        · refine z_iconst F dX9_isRounding_50 ?_
          exact z_iret (nf_z (by omega)) F hr (Nat.le_of_ble_eq_true rfl) (Nat.le_of_ble_eq_true rfl) dX9_isRounding_51 (⟨rI (by omega), rfl⟩)
        · refine z_iload_n F dX9_isRounding_28 rfl 2 rfl ?_
          refine z_bipush F dX9_isRounding_29 (by decide) ?_
          refine z_icmp_eq (tgt := 46) F dX9_isRounding_31 (by decide) (by omega) (by decide) (fun c31 => ?_) (fun c31 => ?_)
          · refine z_iconst F dX9_isRounding_46 ?_
            refine z_goto (tgt := 51) F dX9_isRounding_47 (by decide) ?_
            exact z_iret (nf_z (by omega)) F hr (Nat.le_of_ble_eq_true rfl) (Nat.le_of_ble_eq_true rfl) dX9_isRounding_51 (⟨rI (by omega), rfl⟩)
          · refine z_iload_n F dX9_isRounding_34 rfl 2 rfl ?_
            refine z_bipush F dX9_isRounding_35 (by decide) ?_
            refine z_icmp_eq (tgt := 46) F dX9_isRounding_37 (by decide) (by omega) (by decide) (fun c37 => ?_) (fun c37 => ?_)
            · refine z_iconst F dX9_isRounding_46 ?_
              refine z_goto (tgt := 51) F dX9_isRounding_47 (by decide) ?_
              exact z_iret (nf_z (by omega)) F hr (Nat.le_of_ble_eq_true rfl) (Nat.le_of_ble_eq_true rfl) dX9_isRounding_51 (⟨rI (by omega), rfl⟩)
            · refine z_iload_n F dX9_isRounding_40 rfl 2 rfl ?_
              refine z_bipush F dX9_isRounding_41 (by decide) ?_
              refine z_icmp_ne (tgt := 50) F dX9_isRounding_43 (by decide) (by omega) (by decide) (fun c43 => ?_) (fun c43 => ?_)
              · refine z_iconst F dX9_isRounding_50 ?_
                exact z_iret (nf_z (by omega)) F hr (Nat.le_of_ble_eq_true rfl) (Nat.le_of_ble_eq_true rfl) dX9_isRounding_51 (⟨rI (by omega), rfl⟩)
              · refine z_iconst F dX9_isRounding_46 ?_
                refine z_goto (tgt := 51) F dX9_isRounding_47 (by decide) ?_
                exact z_iret (nf_z (by omega)) F hr (Nat.le_of_ble_eq_true rfl) (Nat.le_of_ble_eq_true rfl) dX9_isRounding_51 (⟨rI (by omega), rfl⟩)
set_option maxRecDepth 100000 in
set_option maxHeartbeats 4000000 in
theorem mX9_rounds (l : Launch) (G : GG) (N0 : Nat) (h : Hp) (g : Nat → Nat) (σ : Sg) (c9 u9 mo le : Int) (hI : MI g σ h) (hR : RG σ) (hc : 0 ≤ c9 ∧ c9 < 5) (r_u9 : -2147483648 ≤ u9 ∧ u9 < 2147483648) (r_mo : 0 ≤ mo ∧ mo < 65536) (r_le : 0 ≤ le ∧ le < 65536) : Ct l G N0 yX9_rounds (Cond.code yX9_rounds cX9_rounds 5 none :: LW) ({ frames := 0, cells := 0, slots := 0, locals := 0 }) [vR (g 0), vI c9, vI u9, vI mo, vI le] h (fun r h' => r = none ∧ MI g (su (su (su σ 3 c9 u9) 4 c9 mo) 5 c9 le) h') := by
  refine ct_of rfl rfl ?_
  intro p e s m args below meth c F hr hnm
  have F : Fx p s m args meth c RX9 cX9_rounds 5 G N0 (cA h s.heap.size) := F
  show Z _ _ _ _ _ _ _ _ _ _ _ _ _ _ _ _ _ _ _ [(0, vR (g 0)), (1, vI c9), (2, vI u9), (3, vI mo), (4, vI le)] []
  refine z_aload_n F dX9_rounds_0 rfl 0 rfl ?_
  refine z_get (v := vR (g 3)) F (mI hI 0 rfl) fX9_13 rfl dX9_rounds_1 ?_
  refine z_iload_n F dX9_rounds_4 rfl 1 rfl ?_
  refine z_iload_n F dX9_rounds_5 rfl 2 rfl ?_
  obtain ⟨h1, eh1, Ih1⟩ : ∃ z : Hp, hu h (g 3) (eA 0 5 (fun j => vI (if j = c9 then u9 else σ 3 j))) = z ∧ MI g (su σ 3 c9 u9) z := ⟨_, rfl, mP hI 3 rfl rfl c9 u9⟩
  refine z_iastore (N := 5) (f := fun j => σ 3 j) (h' := h1) F (mI hI 3 rfl) (by omega) (by omega) (by omega) dX9_rounds_6 eh1 ?_
  refine z_aload_n F dX9_rounds_7 rfl 0 rfl ?_
  refine z_get (v := vR (g 4)) F (mI Ih1 0 rfl) fX9_17 rfl dX9_rounds_8 ?_
  refine z_iload_n F dX9_rounds_11 rfl 1 rfl ?_
  refine z_iload_n F dX9_rounds_12 rfl 3 rfl ?_
  obtain ⟨h2, eh2, Ih2⟩ : ∃ z : Hp, hu h1 (g 4) (eA 1 5 (fun j => vI (if j = c9 then mo else σ 4 j))) = z ∧ MI g (su (su σ 3 c9 u9) 4 c9 mo) z := ⟨_, rfl, mP Ih1 4 rfl rfl c9 mo⟩
  refine z_castore (N := 5) (f := fun j => σ 4 j) (h' := h2) F (mI Ih1 4 rfl) (nf_c (by omega)) (by omega) (by omega) (by omega) dX9_rounds_13 eh2 ?_
  refine z_aload_n F dX9_rounds_14 rfl 0 rfl ?_
  refine z_get (v := vR (g 5)) F (mI Ih2 0 rfl) fX9_21 rfl dX9_rounds_15 ?_
  refine z_iload_n F dX9_rounds_18 rfl 1 rfl ?_
  refine z_iload F dX9_rounds_19 4 rfl ?_
  obtain ⟨h3, eh3, Ih3⟩ : ∃ z : Hp, hu h2 (g 5) (eA 1 5 (fun j => vI (if j = c9 then le else σ 5 j))) = z ∧ MI g (su (su (su σ 3 c9 u9) 4 c9 mo) 5 c9 le) z := ⟨_, rfl, mP Ih2 5 rfl rfl c9 le⟩
  refine z_castore (N := 5) (f := fun j => σ 5 j) (h' := h3) F (mI Ih2 5 rfl) (nf_c (by omega)) (by omega) (by omega) (by omega) dX9_rounds_21 eh3 ?_
  exact z_vret F hr (Nat.le_of_ble_eq_true rfl) (Nat.le_of_ble_eq_true rfl) dX9_rounds_22 (⟨rfl, Ih3⟩)
set_option maxRecDepth 100000 in
set_option maxHeartbeats 4000000 in
theorem mX9_addClient (l : Launch) (G : GG) (N0 : Nat) (h : Hp) (g : Nat → Nat) (σ : Sg) (u9 mo le ra : Int) (hI : MI g σ h) (hR : RG σ) (hV : MV σ) (r_u9 : -2147483648 ≤ u9 ∧ u9 < 2147483648) (r_mo : 0 ≤ mo ∧ mo < 65536) (r_le : 0 ≤ le ∧ le < 65536) (r_ra : -2147483648 ≤ ra ∧ ra < 2147483648) : Ct l G N0 yX9_addClient (Cond.code yX9_addClient cX9_addClient 5 (some FieldType.int) :: LW) ({ frames := 2, cells := 0, slots := 0, locals := 70 }) [vR (g 0), vI u9, vI mo, vI le, vI ra] h (fun r h' => ((¬ ((1 ≤ u9 ∧ u9 ≤ 60) ∧ (mo = 117 ∨ mo = 100 ∨ mo = 110) ∧ (le = 101 ∨ le = 100 ∨ le = 99)) ∨ ¬ (0 ≤ ra ∧ ra ≤ 50000)) ∧ r = some (vI 0) ∧ MI g (su σ 30 0 1) h') ∨ (¬ (¬ ((1 ≤ u9 ∧ u9 ≤ 60) ∧ (mo = 117 ∨ mo = 100 ∨ mo = 110) ∧ (le = 101 ∨ le = 100 ∨ le = 99)) ∨ ¬ (0 ≤ ra ∧ ra ≤ 50000)) ∧ (σ 2 0 = 5) ∧ r = some (vI 0) ∧ MI g (su σ 30 0 2) h') ∨ (¬ (¬ ((1 ≤ u9 ∧ u9 ≤ 60) ∧ (mo = 117 ∨ mo = 100 ∨ mo = 110) ∧ (le = 101 ∨ le = 100 ∨ le = 99)) ∨ ¬ (0 ≤ ra ∧ ra ≤ 50000)) ∧ ¬ (σ 2 0 = 5) ∧ r = some (vI (σ 2 0)) ∧ MI g (su (su (su (su (su (su σ 30 0 0) 3 (σ 2 0) u9) 4 (σ 2 0) mo) 5 (σ 2 0) le) 6 (σ 2 0) ra) 2 0 (σ 2 0 + 1)) h')) := by
  refine ct_of rfl rfl ?_
  intro p e s m args below meth c F hr hnm
  have F : Fx p s m args meth c RX9 cX9_addClient 5 G N0 (cA h s.heap.size) := F
  obtain ⟨v0, v1, v2, v8, v16, v24, v29, vC, vE, vL, vK, vT⟩ := id hV
  show Z _ _ _ _ _ _ _ _ _ _ _ _ _ _ _ _ _ _ _ [(0, vR (g 0)), (1, vI u9), (2, vI mo), (3, vI le), (4, vI ra)] []
  refine z_aload_n F dX9_addClient_0 rfl 0 rfl ?_
  refine z_iload_n F dX9_addClient_1 rfl 1 rfl ?_
  refine z_iload_n F dX9_addClient_2 rfl 2 rfl ?_
  refine z_iload_n F dX9_addClient_3 rfl 3 rfl ?_
  refine z_callS (As := [vI u9, vI mo, vI le]) (st := [vR (g 0)]) F (mX9_isRounding l G N0 h u9 mo le (by omega) (by omega) (by omega)) csX9_111 rfl rfl ⟨Nat.le_of_ble_eq_true rfl, Nat.le_of_ble_eq_true rfl⟩ rfl ⟨Nat.le_of_ble_eq_true rfl, Nat.le_of_ble_eq_true rfl⟩ dX9_addClient_4 ?_
  rintro _ h9 ⟨rfl, hh9⟩
  rw [hh9]
  clear hh9 h9
  generalize ex1 : (if (1 ≤ u9 ∧ u9 ≤ 60) ∧ (mo = 117 ∨ mo = 100 ∨ mo = 110) ∧ (le = 101 ∨ le = 100 ∨ le = 99) then (1 : Int) else 0) = x1
  show Z _ _ _ _ _ _ _ _ _ _ _ _ _ _ _ _ _ _ _ _ [vI x1, vR (g 0)]
  refine z_if_eq (tgt := 21) F dX9_addClient_7 (by decide) (by omega) (fun c7 => ?_) (fun c7 => ?_)
  · refine z_iconst F dX9_addClient_21 ?_
    refine z_goto (tgt := 38) F dX9_addClient_22 (by decide) ?_
    refine z_callV (As := [vI 1]) (st := []) F (mX9_fails l G N0 h g σ 1 hI hR (by decide)) cvX9_107 (mI hI 0 rfl) (fun r9 h9 => by cases h9; rfl) rfl rfl ⟨Nat.le_of_ble_eq_true rfl, Nat.le_of_ble_eq_true rfl⟩ rfl ⟨Nat.le_of_ble_eq_true rfl, Nat.le_of_ble_eq_true rfl⟩ dX9_addClient_38 ?_
    rintro _ h2 ⟨rfl, Ih2⟩
    rw [if_pos (by decide)]
    show Z _ _ _ _ _ _ _ _ _ _ _ _ _ _ _ _ _ _ _ _ [vI 1]
    refine z_if_eq (tgt := 46) F dX9_addClient_41 (by decide) (by decide) (fun c41 => ?_) (fun c41 => ?_)
    · exact absurd c41 (by decide)
    · refine z_iconst F dX9_addClient_44 ?_
      exact z_iret (nf_i _) F hr (Nat.le_of_ble_eq_true rfl) (Nat.le_of_ble_eq_true rfl) dX9_addClient_45 (Or.inl ⟨by omega, rfl, Ih2⟩)
  · refine z_iload F dX9_addClient_10 4 rfl ?_
    refine z_iconst F dX9_addClient_12 ?_
    refine z_ldc F q1606 dX9_addClient_13 ?_
    refine z_callS (As := [vI ra, vI 0, vI 50000]) (st := [vR (g 0)]) F (mX9_in l G N0 h ra 0 50000 (by omega) (by decide) (by decide)) csX9_93 rfl rfl ⟨Nat.le_of_ble_eq_true rfl, Nat.le_of_ble_eq_true rfl⟩ rfl ⟨Nat.le_of_ble_eq_true rfl, Nat.le_of_ble_eq_true rfl⟩ dX9_addClient_15 ?_
    rintro _ h9 ⟨rfl, hh9⟩
    rw [hh9]
    clear hh9 h9
    generalize ex3 : (if 0 ≤ ra ∧ ra ≤ 50000 then (1 : Int) else 0) = x3
    show Z _ _ _ _ _ _ _ _ _ _ _ _ _ _ _ _ _ _ _ _ [vI x3, vR (g 0)]
    refine z_if_ne (tgt := 25) F dX9_addClient_18 (by decide) (by omega) (fun c18 => ?_) (fun c18 => ?_)
    · refine z_aload_n F dX9_addClient_25 rfl 0 rfl ?_
      refine z_get (v := vI (σ 2 0)) F (mI hI 0 rfl) fX9_90 rfl dX9_addClient_26 ?_
      refine z_iconst F dX9_addClient_29 ?_
      refine z_icmp_ne (tgt := 37) F dX9_addClient_30 (by decide) (hR 2 0) (by decide) (fun c30 => ?_) (fun c30 => ?_)
      · refine z_iconst F dX9_addClient_37 ?_
        refine z_callV (As := [vI 0]) (st := []) F (mX9_fails l G N0 h g σ 0 hI hR (by decide)) cvX9_107 (mI hI 0 rfl) (fun r9 h9 => by cases h9; rfl) rfl rfl ⟨Nat.le_of_ble_eq_true rfl, Nat.le_of_ble_eq_true rfl⟩ rfl ⟨Nat.le_of_ble_eq_true rfl, Nat.le_of_ble_eq_true rfl⟩ dX9_addClient_38 ?_
        rintro _ h4 ⟨rfl, Ih4⟩
        rw [if_neg (by decide)]
        show Z _ _ _ _ _ _ _ _ _ _ _ _ _ _ _ _ _ _ _ _ [vI 0]
        refine z_if_eq (tgt := 46) F dX9_addClient_41 (by decide) (by decide) (fun c41 => ?_) (fun c41 => ?_)
        · refine z_aload_n F dX9_addClient_46 rfl 0 rfl ?_
          refine z_aload_n F dX9_addClient_47 rfl 0 rfl ?_
          refine z_get (v := vI (σ 2 0)) F (mI Ih4 0 rfl) fX9_90 rfl dX9_addClient_48 ?_
          refine z_iload_n F dX9_addClient_51 rfl 1 rfl ?_
          refine z_iload_n F dX9_addClient_52 rfl 2 rfl ?_
          refine z_iload_n F dX9_addClient_53 rfl 3 rfl ?_
          refine z_callV (As := [vI (σ 2 0), vI u9, vI mo, vI le]) (st := []) F (mX9_rounds l G N0 h4 g (su σ 30 0 0) (σ 2 0) u9 mo le Ih4 (rg_su hR (by decide)) (by omega) (by omega) (by omega) (by omega)) cvX9_116 (mI Ih4 0 rfl) (fun r9 h9 => by cases h9; rfl) rfl rfl ⟨Nat.le_of_ble_eq_true rfl, Nat.le_of_ble_eq_true rfl⟩ rfl ⟨Nat.le_of_ble_eq_true rfl, Nat.le_of_ble_eq_true rfl⟩ dX9_addClient_54 ?_
          rintro _ h5 ⟨rfl, Ih5⟩
          show Z _ _ _ _ _ _ _ _ _ _ _ _ _ _ _ _ _ _ _ _ []
          refine z_aload_n F dX9_addClient_57 rfl 0 rfl ?_
          refine z_get (v := vR (g 6)) F (mI Ih5 0 rfl) fX9_24 rfl dX9_addClient_58 ?_
          refine z_aload_n F dX9_addClient_61 rfl 0 rfl ?_
          refine z_get (v := vI (σ 2 0)) F (mI Ih5 0 rfl) fX9_90 rfl dX9_addClient_62 ?_
          refine z_iload F dX9_addClient_65 4 rfl ?_
          obtain ⟨h6, eh6, Ih6⟩ : ∃ z : Hp, hu h5 (g 6) (eA 0 5 (fun j => vI (if j = σ 2 0 then ra else σ 6 j))) = z ∧ MI g (su (su (su (su (su σ 30 0 0) 3 (σ 2 0) u9) 4 (σ 2 0) mo) 5 (σ 2 0) le) 6 (σ 2 0) ra) z := ⟨_, rfl, mP Ih5 6 rfl rfl (σ 2 0) ra⟩
          refine z_iastore (N := 5) (f := fun j => σ 6 j) (h' := h6) F (mI Ih5 6 rfl) (by omega) (by omega) (by omega) dX9_addClient_67 eh6 ?_
          refine z_aload_n F dX9_addClient_68 rfl 0 rfl ?_
          refine z_dup F dX9_addClient_69 rfl ?_
          refine z_get (v := vI (σ 2 0)) F (mI Ih6 0 rfl) fX9_90 rfl dX9_addClient_70 ?_
          refine z_iconst F dX9_addClient_73 ?_
          refine z_iadd F dX9_addClient_74 ?_
          obtain ⟨h7, eh7, Ih7⟩ : ∃ z : Hp, hu h6 (g 0) (eO 14 [vI (σ 0 0), vI (σ 1 0), vI ((σ 2 0) + 1), vR (g 3), vR (g 4), vR (g 5), vR (g 6), vR (g 7), vI (σ 8 0), vR (g 9), vR (g 10), vR (g 11), vR (g 12), vR (g 13), vR (g 14), vR (g 15), vI (σ 16 0), vR (g 17), vR (g 18), vR (g 19), vR (g 20), vR (g 21), vR (g 22), vR (g 23), vI (σ 24 0), vR (g 25), vR (g 26), vR (g 27), vR (g 28), vI (σ 29 0), vI 0]) = z ∧ MI g (su (su (su (su (su (su σ 30 0 0) 3 (σ 2 0) u9) 4 (σ 2 0) mo) 5 (σ 2 0) le) 6 (σ 2 0) ra) 2 0 ((σ 2 0) + 1)) z := ⟨_, rfl, mPs Ih6 2 rfl ((σ 2 0) + 1)⟩
          refine z_put (fs := [vI (σ 0 0), vI (σ 1 0), vI (σ 2 0), vR (g 3), vR (g 4), vR (g 5), vR (g 6), vR (g 7), vI (σ 8 0), vR (g 9), vR (g 10), vR (g 11), vR (g 12), vR (g 13), vR (g 14), vR (g 15), vI (σ 16 0), vR (g 17), vR (g 18), vR (g 19), vR (g 20), vR (g 21), vR (g 22), vR (g 23), vI (σ 24 0), vR (g 25), vR (g 26), vR (g 27), vR (g 28), vI (σ 29 0), vI 0]) (fs' := [vI (σ 0 0), vI (σ 1 0), vI ((σ 2 0) + 1), vR (g 3), vR (g 4), vR (g 5), vR (g 6), vR (g 7), vI (σ 8 0), vR (g 9), vR (g 10), vR (g 11), vR (g 12), vR (g 13), vR (g 14), vR (g 15), vI (σ 16 0), vR (g 17), vR (g 18), vR (g 19), vR (g 20), vR (g 21), vR (g 22), vR (g 23), vI (σ 24 0), vR (g 25), vR (g 26), vR (g 27), vR (g 28), vI (σ 29 0), vI 0]) (h' := h7) F (mI Ih6 0 rfl) fX9_90 ftX9_2 (nf_i _) (Nat.le_of_ble_eq_true rfl) rfl dX9_addClient_75 eh7 ?_
          refine z_aload_n F dX9_addClient_78 rfl 0 rfl ?_
          refine z_get (v := vI ((σ 2 0) + 1)) F (mI Ih7 0 rfl) fX9_90 rfl dX9_addClient_79 ?_
          refine z_iconst F dX9_addClient_82 ?_
          refine z_isub F dX9_addClient_83 ?_
          exact z_iret (nf_i _) F hr (Nat.le_of_ble_eq_true rfl) (Nat.le_of_ble_eq_true rfl) dX9_addClient_84 (Or.inr (Or.inr (⟨by omega, by omega, rI (by omega), Ih7⟩)))
        · exact absurd c41 (by decide)
      · refine z_iconst F dX9_addClient_33 ?_
        refine z_goto (tgt := 38) F dX9_addClient_34 (by decide) ?_
        refine z_callV (As := [vI 2]) (st := []) F (mX9_fails l G N0 h g σ 2 hI hR (by decide)) cvX9_107 (mI hI 0 rfl) (fun r9 h9 => by cases h9; rfl) rfl rfl ⟨Nat.le_of_ble_eq_true rfl, Nat.le_of_ble_eq_true rfl⟩ rfl ⟨Nat.le_of_ble_eq_true rfl, Nat.le_of_ble_eq_true rfl⟩ dX9_addClient_38 ?_
        rintro _ h8 ⟨rfl, Ih8⟩
        rw [if_pos (by decide)]
        show Z _ _ _ _ _ _ _ _ _ _ _ _ _ _ _ _ _ _ _ _ [vI 1]
        refine z_if_eq (tgt := 46) F dX9_addClient_41 (by decide) (by decide) (fun c41 => ?_) (fun c41 => ?_)
        · exact absurd c41 (by decide)
        · refine z_iconst F dX9_addClient_44 ?_
          exact z_iret (nf_i _) F hr (Nat.le_of_ble_eq_true rfl) (Nat.le_of_ble_eq_true rfl) dX9_addClient_45 (Or.inr (Or.inl ⟨by omega, by omega, rfl, Ih8⟩))
    · refine z_iconst F dX9_addClient_21 ?_
      refine z_goto (tgt := 38) F dX9_addClient_22 (by decide) ?_
      refine z_callV (As := [vI 1]) (st := []) F (mX9_fails l G N0 h g σ 1 hI hR (by decide)) cvX9_107 (mI hI 0 rfl) (fun r9 h9 => by cases h9; rfl) rfl rfl ⟨Nat.le_of_ble_eq_true rfl, Nat.le_of_ble_eq_true rfl⟩ rfl ⟨Nat.le_of_ble_eq_true rfl, Nat.le_of_ble_eq_true rfl⟩ dX9_addClient_38 ?_
      rintro _ h9 ⟨rfl, Ih9⟩
      rw [if_pos (by decide)]
      show Z _ _ _ _ _ _ _ _ _ _ _ _ _ _ _ _ _ _ _ _ [vI 1]
      refine z_if_eq (tgt := 46) F dX9_addClient_41 (by decide) (by decide) (fun c41 => ?_) (fun c41 => ?_)
      · exact absurd c41 (by decide)
      · refine z_iconst F dX9_addClient_44 ?_
        exact z_iret (nf_i _) F hr (Nat.le_of_ble_eq_true rfl) (Nat.le_of_ble_eq_true rfl) dX9_addClient_45 (Or.inl ⟨by omega, rfl, Ih9⟩)
set_option maxRecDepth 100000 in
set_option maxHeartbeats 4000000 in
theorem mX9_setRounding (l : Launch) (G : GG) (N0 : Nat) (h : Hp) (g : Nat → Nat) (σ : Sg) (c9 u9 mo le : Int) (hI : MI g σ h) (hR : RG σ) (hV : MV σ) (r_c9 : -2147483648 ≤ c9 ∧ c9 < 2147483648) (r_u9 : -2147483648 ≤ u9 ∧ u9 < 2147483648) (r_mo : 0 ≤ mo ∧ mo < 65536) (r_le : 0 ≤ le ∧ le < 65536) : Ct l G N0 yX9_setRounding (Cond.code yX9_setRounding cX9_setRounding 6 (some FieldType.int) :: LW) ({ frames := 2, cells := 0, slots := 0, locals := 70 }) [vR (g 0), vI c9, vI u9, vI mo, vI le] h (fun r h' => ((¬ (0 ≤ c9 ∧ c9 < σ 2 0)) ∧ r = some (vI 0) ∧ MI g (su σ 30 0 1) h') ∨ (¬ (¬ (0 ≤ c9 ∧ c9 < σ 2 0)) ∧ (¬ ((1 ≤ u9 ∧ u9 ≤ 60) ∧ (mo = 117 ∨ mo = 100 ∨ mo = 110) ∧ (le = 101 ∨ le = 100 ∨ le = 99))) ∧ r = some (vI 0) ∧ MI g (su σ 30 0 2) h') ∨ (¬ (¬ (0 ≤ c9 ∧ c9 < σ 2 0)) ∧ ¬ (¬ ((1 ≤ u9 ∧ u9 ≤ 60) ∧ (mo = 117 ∨ mo = 100 ∨ mo = 110) ∧ (le = 101 ∨ le = 100 ∨ le = 99))) ∧ r = some (vI (σ 3 c9)) ∧ MI g (su (su (su (su σ 30 0 0) 3 c9 u9) 4 c9 mo) 5 c9 le) h')) := by
  refine ct_of rfl rfl ?_
  intro p e s m args below meth c F hr hnm
  have F : Fx p s m args meth c RX9 cX9_setRounding 6 G N0 (cA h s.heap.size) := F
  obtain ⟨v0, v1, v2, v8, v16, v24, v29, vC, vE, vL, vK, vT⟩ := id hV
  have C_c9 := vC c9
  show Z _ _ _ _ _ _ _ _ _ _ _ _ _ _ _ _ _ _ _ [(0, vR (g 0)), (1, vI c9), (2, vI u9), (3, vI mo), (4, vI le)] []
  refine z_aload_n F dX9_setRounding_0 rfl 0 rfl ?_
  refine z_aload_n F dX9_setRounding_1 rfl 0 rfl ?_
  refine z_iload_n F dX9_setRounding_2 rfl 1 rfl ?_
  refine z_callV (As := [vI c9]) (st := [vR (g 0)]) F (mX9_isNoClient l G N0 h g σ c9 hI hR (by omega) (by omega)) cvX9_120 (mI hI 0 rfl) (fun r9 h9 => by cases h9; rfl) rfl rfl ⟨Nat.le_of_ble_eq_true rfl, Nat.le_of_ble_eq_true rfl⟩ rfl ⟨Nat.le_of_ble_eq_true rfl, Nat.le_of_ble_eq_true rfl⟩ dX9_setRounding_3 ?_
  rintro _ h9 ⟨rfl, hh9⟩
  rw [hh9]
  clear hh9 h9
  generalize ex1 : (if 0 ≤ c9 ∧ c9 < σ 2 0 then (0 : Int) else 1) = x1
  show Z _ _ _ _ _ _ _ _ _ _ _ _ _ _ _ _ _ _ _ _ [vI x1, vR (g 0)]
  refine z_if_eq (tgt := 13) F dX9_setRounding_6 (by decide) (by omega) (fun c6 => ?_) (fun c6 => ?_)
  · refine z_iload_n F dX9_setRounding_13 rfl 2 rfl ?_
    refine z_iload_n F dX9_setRounding_14 rfl 3 rfl ?_
    refine z_iload F dX9_setRounding_15 4 rfl ?_
    refine z_callS (As := [vI u9, vI mo, vI le]) (st := [vR (g 0)]) F (mX9_isRounding l G N0 h u9 mo le (by omega) (by omega) (by omega)) csX9_111 rfl rfl ⟨Nat.le_of_ble_eq_true rfl, Nat.le_of_ble_eq_true rfl⟩ rfl ⟨Nat.le_of_ble_eq_true rfl, Nat.le_of_ble_eq_true rfl⟩ dX9_setRounding_17 ?_
    rintro _ h9 ⟨rfl, hh9⟩
    rw [hh9]
    clear hh9 h9
    generalize ex2 : (if (1 ≤ u9 ∧ u9 ≤ 60) ∧ (mo = 117 ∨ mo = 100 ∨ mo = 110) ∧ (le = 101 ∨ le = 100 ∨ le = 99) then (1 : Int) else 0) = x2
    show Z _ _ _ _ _ _ _ _ _ _ _ _ _ _ _ _ _ _ _ _ [vI x2, vR (g 0)]
    refine z_if_eq (tgt := 27) F dX9_setRounding_20 (by decide) (by omega) (fun c20 => ?_) (fun c20 => ?_)
    · refine z_iconst F dX9_setRounding_27 ?_
      refine z_callV (As := [vI 2]) (st := []) F (mX9_fails l G N0 h g σ 2 hI hR (by decide)) cvX9_107 (mI hI 0 rfl) (fun r9 h9 => by cases h9; rfl) rfl rfl ⟨Nat.le_of_ble_eq_true rfl, Nat.le_of_ble_eq_true rfl⟩ rfl ⟨Nat.le_of_ble_eq_true rfl, Nat.le_of_ble_eq_true rfl⟩ dX9_setRounding_28 ?_
      rintro _ h3 ⟨rfl, Ih3⟩
      rw [if_pos (by decide)]
      show Z _ _ _ _ _ _ _ _ _ _ _ _ _ _ _ _ _ _ _ _ [vI 1]
      refine z_if_eq (tgt := 36) F dX9_setRounding_31 (by decide) (by decide) (fun c31 => ?_) (fun c31 => ?_)
      · exact absurd c31 (by decide)
      · refine z_iconst F dX9_setRounding_34 ?_
        exact z_iret (nf_i _) F hr (Nat.le_of_ble_eq_true rfl) (Nat.le_of_ble_eq_true rfl) dX9_setRounding_35 (Or.inr (Or.inl ⟨by omega, by omega, rfl, Ih3⟩))
    · refine z_iconst F dX9_setRounding_23 ?_
      refine z_goto (tgt := 28) F dX9_setRounding_24 (by decide) ?_
      refine z_callV (As := [vI 0]) (st := []) F (mX9_fails l G N0 h g σ 0 hI hR (by decide)) cvX9_107 (mI hI 0 rfl) (fun r9 h9 => by cases h9; rfl) rfl rfl ⟨Nat.le_of_ble_eq_true rfl, Nat.le_of_ble_eq_true rfl⟩ rfl ⟨Nat.le_of_ble_eq_true rfl, Nat.le_of_ble_eq_true rfl⟩ dX9_setRounding_28 ?_
      rintro _ h4 ⟨rfl, Ih4⟩
      rw [if_neg (by decide)]
      show Z _ _ _ _ _ _ _ _ _ _ _ _ _ _ _ _ _ _ _ _ [vI 0]
      refine z_if_eq (tgt := 36) F dX9_setRounding_31 (by decide) (by decide) (fun c31 => ?_) (fun c31 => ?_)
      · refine z_aload_n F dX9_setRounding_36 rfl 0 rfl ?_
        refine z_get (v := vR (g 3)) F (mI Ih4 0 rfl) fX9_13 rfl dX9_setRounding_37 ?_
        refine z_iload_n F dX9_setRounding_40 rfl 1 rfl ?_
        refine z_iaload (N := 5) (f := fun j => σ 3 j) F (mI Ih4 3 rfl) (by omega) (by omega) (by omega) dX9_setRounding_41 ?_
        refine z_istore (lv' := [(5, vI (σ 3 c9)), (0, vR (g 0)), (1, vI c9), (2, vI u9), (3, vI mo), (4, vI le)]) F dX9_setRounding_42 (by decide) rfl ?_
        refine z_aload_n F dX9_setRounding_44 rfl 1 rfl ?_
        refine z_iload_n F dX9_setRounding_45 rfl 2 rfl ?_
        refine z_iload_n F dX9_setRounding_46 rfl 3 rfl ?_
        refine z_iload_n F dX9_setRounding_47 rfl 4 rfl ?_
        refine z_iload F dX9_setRounding_48 5 rfl ?_
        refine z_callV (As := [vI c9, vI u9, vI mo, vI le]) (st := []) F (mX9_rounds l G N0 h4 g (su σ 30 0 0) c9 u9 mo le Ih4 (rg_su hR (by decide)) (by omega) (by omega) (by omega) (by omega)) cvX9_116 (mI Ih4 0 rfl) (fun r9 h9 => by cases h9; rfl) rfl rfl ⟨Nat.le_of_ble_eq_true rfl, Nat.le_of_ble_eq_true rfl⟩ rfl ⟨Nat.le_of_ble_eq_true rfl, Nat.le_of_ble_eq_true rfl⟩ dX9_setRounding_50 ?_
        rintro _ h5 ⟨rfl, Ih5⟩
        show Z _ _ _ _ _ _ _ _ _ _ _ _ _ _ _ _ _ _ _ _ []
        refine z_iload F dX9_setRounding_53 0 rfl ?_
        exact z_iret (nf_i _) F hr (Nat.le_of_ble_eq_true rfl) (Nat.le_of_ble_eq_true rfl) dX9_setRounding_55 (Or.inr (Or.inr (⟨by omega, by omega, rfl, Ih5⟩)))
      · exact absurd c31 (by decide)
  · refine z_iconst F dX9_setRounding_9 ?_
    refine z_goto (tgt := 28) F dX9_setRounding_10 (by decide) ?_
    refine z_callV (As := [vI 1]) (st := []) F (mX9_fails l G N0 h g σ 1 hI hR (by decide)) cvX9_107 (mI hI 0 rfl) (fun r9 h9 => by cases h9; rfl) rfl rfl ⟨Nat.le_of_ble_eq_true rfl, Nat.le_of_ble_eq_true rfl⟩ rfl ⟨Nat.le_of_ble_eq_true rfl, Nat.le_of_ble_eq_true rfl⟩ dX9_setRounding_28 ?_
    rintro _ h6 ⟨rfl, Ih6⟩
    rw [if_pos (by decide)]
    show Z _ _ _ _ _ _ _ _ _ _ _ _ _ _ _ _ _ _ _ _ [vI 1]
    refine z_if_eq (tgt := 36) F dX9_setRounding_31 (by decide) (by decide) (fun c31 => ?_) (fun c31 => ?_)
    · exact absurd c31 (by decide)
    · refine z_iconst F dX9_setRounding_34 ?_
      exact z_iret (nf_i _) F hr (Nat.le_of_ble_eq_true rfl) (Nat.le_of_ble_eq_true rfl) dX9_setRounding_35 (Or.inl ⟨by omega, rfl, Ih6⟩)
set_option maxRecDepth 100000 in
set_option maxHeartbeats 4000000 in
theorem mX9_setRate (l : Launch) (G : GG) (N0 : Nat) (h : Hp) (g : Nat → Nat) (σ : Sg) (c9 ra : Int) (hI : MI g σ h) (hR : RG σ) (hV : MV σ) (r_c9 : -2147483648 ≤ c9 ∧ c9 < 2147483648) (r_ra : -2147483648 ≤ ra ∧ ra < 2147483648) : Ct l G N0 yX9_setRate (Cond.code yX9_setRate cX9_setRate 4 (some FieldType.int) :: LW) ({ frames := 2, cells := 0, slots := 0, locals := 70 }) [vR (g 0), vI c9, vI ra] h (fun r h' => ((¬ (0 ≤ c9 ∧ c9 < σ 2 0)) ∧ r = some (vI 0) ∧ MI g (su σ 30 0 1) h') ∨ (¬ (¬ (0 ≤ c9 ∧ c9 < σ 2 0)) ∧ (¬ (0 ≤ ra ∧ ra ≤ 50000)) ∧ r = some (vI 0) ∧ MI g (su σ 30 0 2) h') ∨ (¬ (¬ (0 ≤ c9 ∧ c9 < σ 2 0)) ∧ ¬ (¬ (0 ≤ ra ∧ ra ≤ 50000)) ∧ r = some (vI (σ 6 c9)) ∧ MI g (su (su σ 30 0 0) 6 c9 ra) h')) := by
  refine ct_of rfl rfl ?_
  intro p e s m args below meth c F hr hnm
  have F : Fx p s m args meth c RX9 cX9_setRate 4 G N0 (cA h s.heap.size) := F
  obtain ⟨v0, v1, v2, v8, v16, v24, v29, vC, vE, vL, vK, vT⟩ := id hV
  have C_c9 := vC c9
  show Z _ _ _ _ _ _ _ _ _ _ _ _ _ _ _ _ _ _ _ [(0, vR (g 0)), (1, vI c9), (2, vI ra)] []
  refine z_aload_n F dX9_setRate_0 rfl 0 rfl ?_
  refine z_aload_n F dX9_setRate_1 rfl 0 rfl ?_
  refine z_iload_n F dX9_setRate_2 rfl 1 rfl ?_
  refine z_callV (As := [vI c9]) (st := [vR (g 0)]) F (mX9_isNoClient l G N0 h g σ c9 hI hR (by omega) (by omega)) cvX9_120 (mI hI 0 rfl) (fun r9 h9 => by cases h9; rfl) rfl rfl ⟨Nat.le_of_ble_eq_true rfl, Nat.le_of_ble_eq_true rfl⟩ rfl ⟨Nat.le_of_ble_eq_true rfl, Nat.le_of_ble_eq_true rfl⟩ dX9_setRate_3 ?_
  rintro _ h9 ⟨rfl, hh9⟩
  rw [hh9]
  clear hh9 h9
  generalize ex1 : (if 0 ≤ c9 ∧ c9 < σ 2 0 then (0 : Int) else 1) = x1
  show Z _ _ _ _ _ _ _ _ _ _ _ _ _ _ _ _ _ _ _ _ [vI x1, vR (g 0)]
  refine z_if_eq (tgt := 13) F dX9_setRate_6 (by decide) (by omega) (fun c6 => ?_) (fun c6 => ?_)
  · refine z_iload_n F dX9_setRate_13 rfl 2 rfl ?_
    refine z_iconst F dX9_setRate_14 ?_
    refine z_ldc F q1606 dX9_setRate_15 ?_
    refine z_callS (As := [vI ra, vI 0, vI 50000]) (st := [vR (g 0)]) F (mX9_in l G N0 h ra 0 50000 (by omega) (by decide) (by decide)) csX9_93 rfl rfl ⟨Nat.le_of_ble_eq_true rfl, Nat.le_of_ble_eq_true rfl⟩ rfl ⟨Nat.le_of_ble_eq_true rfl, Nat.le_of_ble_eq_true rfl⟩ dX9_setRate_17 ?_
    rintro _ h9 ⟨rfl, hh9⟩
    rw [hh9]
    clear hh9 h9
    generalize ex2 : (if 0 ≤ ra ∧ ra ≤ 50000 then (1 : Int) else 0) = x2
    show Z _ _ _ _ _ _ _ _ _ _ _ _ _ _ _ _ _ _ _ _ [vI x2, vR (g 0)]
    refine z_if_eq (tgt := 27) F dX9_setRate_20 (by decide) (by omega) (fun c20 => ?_) (fun c20 => ?_)
    · refine z_iconst F dX9_setRate_27 ?_
      refine z_callV (As := [vI 2]) (st := []) F (mX9_fails l G N0 h g σ 2 hI hR (by decide)) cvX9_107 (mI hI 0 rfl) (fun r9 h9 => by cases h9; rfl) rfl rfl ⟨Nat.le_of_ble_eq_true rfl, Nat.le_of_ble_eq_true rfl⟩ rfl ⟨Nat.le_of_ble_eq_true rfl, Nat.le_of_ble_eq_true rfl⟩ dX9_setRate_28 ?_
      rintro _ h3 ⟨rfl, Ih3⟩
      rw [if_pos (by decide)]
      show Z _ _ _ _ _ _ _ _ _ _ _ _ _ _ _ _ _ _ _ _ [vI 1]
      refine z_if_eq (tgt := 36) F dX9_setRate_31 (by decide) (by decide) (fun c31 => ?_) (fun c31 => ?_)
      · exact absurd c31 (by decide)
      · refine z_iconst F dX9_setRate_34 ?_
        exact z_iret (nf_i _) F hr (Nat.le_of_ble_eq_true rfl) (Nat.le_of_ble_eq_true rfl) dX9_setRate_35 (Or.inr (Or.inl ⟨by omega, by omega, rfl, Ih3⟩))
    · refine z_iconst F dX9_setRate_23 ?_
      refine z_goto (tgt := 28) F dX9_setRate_24 (by decide) ?_
      refine z_callV (As := [vI 0]) (st := []) F (mX9_fails l G N0 h g σ 0 hI hR (by decide)) cvX9_107 (mI hI 0 rfl) (fun r9 h9 => by cases h9; rfl) rfl rfl ⟨Nat.le_of_ble_eq_true rfl, Nat.le_of_ble_eq_true rfl⟩ rfl ⟨Nat.le_of_ble_eq_true rfl, Nat.le_of_ble_eq_true rfl⟩ dX9_setRate_28 ?_
      rintro _ h4 ⟨rfl, Ih4⟩
      rw [if_neg (by decide)]
      show Z _ _ _ _ _ _ _ _ _ _ _ _ _ _ _ _ _ _ _ _ [vI 0]
      refine z_if_eq (tgt := 36) F dX9_setRate_31 (by decide) (by decide) (fun c31 => ?_) (fun c31 => ?_)
      · refine z_aload_n F dX9_setRate_36 rfl 0 rfl ?_
        refine z_get (v := vR (g 6)) F (mI Ih4 0 rfl) fX9_24 rfl dX9_setRate_37 ?_
        refine z_iload_n F dX9_setRate_40 rfl 1 rfl ?_
        refine z_iaload (N := 5) (f := fun j => σ 6 j) F (mI Ih4 6 rfl) (by omega) (by omega) (by omega) dX9_setRate_41 ?_
        refine z_istore_n (lv' := [(3, vI (σ 6 c9)), (0, vR (g 0)), (1, vI c9), (2, vI ra)]) F dX9_setRate_42 rfl (by decide) rfl ?_
        refine z_aload_n F dX9_setRate_43 rfl 1 rfl ?_
        refine z_get (v := vR (g 6)) F (mI Ih4 0 rfl) fX9_24 rfl dX9_setRate_44 ?_
        refine z_iload_n F dX9_setRate_47 rfl 2 rfl ?_
        refine z_iload_n F dX9_setRate_48 rfl 3 rfl ?_
        obtain ⟨h5, eh5, Ih5⟩ : ∃ z : Hp, hu h4 (g 6) (eA 0 5 (fun j => vI (if j = c9 then ra else σ 6 j))) = z ∧ MI g (su (su σ 30 0 0) 6 c9 ra) z := ⟨_, rfl, mP Ih4 6 rfl rfl c9 ra⟩
        refine z_iastore (N := 5) (f := fun j => σ 6 j) (h' := h5) F (mI Ih4 6 rfl) (by omega) (by omega) (by omega) dX9_setRate_49 eh5 ?_
        refine z_iload_n F dX9_setRate_50 rfl 0 rfl ?_
        exact z_iret (nf_i _) F hr (Nat.le_of_ble_eq_true rfl) (Nat.le_of_ble_eq_true rfl) dX9_setRate_51 (Or.inr (Or.inr (⟨by omega, by omega, rfl, Ih5⟩)))
      · exact absurd c31 (by decide)
  · refine z_iconst F dX9_setRate_9 ?_
    refine z_goto (tgt := 28) F dX9_setRate_10 (by decide) ?_
    refine z_callV (As := [vI 1]) (st := []) F (mX9_fails l G N0 h g σ 1 hI hR (by decide)) cvX9_107 (mI hI 0 rfl) (fun r9 h9 => by cases h9; rfl) rfl rfl ⟨Nat.le_of_ble_eq_true rfl, Nat.le_of_ble_eq_true rfl⟩ rfl ⟨Nat.le_of_ble_eq_true rfl, Nat.le_of_ble_eq_true rfl⟩ dX9_setRate_28 ?_
    rintro _ h6 ⟨rfl, Ih6⟩
    rw [if_pos (by decide)]
    show Z _ _ _ _ _ _ _ _ _ _ _ _ _ _ _ _ _ _ _ _ [vI 1]
    refine z_if_eq (tgt := 36) F dX9_setRate_31 (by decide) (by decide) (fun c31 => ?_) (fun c31 => ?_)
    · exact absurd c31 (by decide)
    · refine z_iconst F dX9_setRate_34 ?_
      exact z_iret (nf_i _) F hr (Nat.le_of_ble_eq_true rfl) (Nat.le_of_ble_eq_true rfl) dX9_setRate_35 (Or.inl ⟨by omega, rfl, Ih6⟩)
set_option maxRecDepth 100000 in
set_option maxHeartbeats 4000000 in
theorem mX9_setBudget (l : Launch) (G : GG) (N0 : Nat) (h : Hp) (g : Nat → Nat) (σ : Sg) (c9 ra : Int) (hI : MI g σ h) (hR : RG σ) (hV : MV σ) (r_c9 : -2147483648 ≤ c9 ∧ c9 < 2147483648) (r_ra : -2147483648 ≤ ra ∧ ra < 2147483648) : Ct l G N0 yX9_setBudget (Cond.code yX9_setBudget cX9_setBudget 4 (some FieldType.int) :: LW) ({ frames := 2, cells := 0, slots := 0, locals := 70 }) [vR (g 0), vI c9, vI ra] h (fun r h' => ((¬ (0 ≤ c9 ∧ c9 < σ 2 0)) ∧ r = some (vI 0) ∧ MI g (su σ 30 0 1) h') ∨ (¬ (¬ (0 ≤ c9 ∧ c9 < σ 2 0)) ∧ (¬ (0 ≤ ra ∧ ra ≤ 9999)) ∧ r = some (vI 0) ∧ MI g (su σ 30 0 2) h') ∨ (¬ (¬ (0 ≤ c9 ∧ c9 < σ 2 0)) ∧ ¬ (¬ (0 ≤ ra ∧ ra ≤ 9999)) ∧ r = some (vI (σ 7 c9)) ∧ MI g (su (su σ 30 0 0) 7 c9 ra) h')) := by
  refine ct_of rfl rfl ?_
  intro p e s m args below meth c F hr hnm
  have F : Fx p s m args meth c RX9 cX9_setBudget 4 G N0 (cA h s.heap.size) := F
  obtain ⟨v0, v1, v2, v8, v16, v24, v29, vC, vE, vL, vK, vT⟩ := id hV
  have C_c9 := vC c9
  show Z _ _ _ _ _ _ _ _ _ _ _ _ _ _ _ _ _ _ _ [(0, vR (g 0)), (1, vI c9), (2, vI ra)] []
  refine z_aload_n F dX9_setBudget_0 rfl 0 rfl ?_
  refine z_aload_n F dX9_setBudget_1 rfl 0 rfl ?_
  refine z_iload_n F dX9_setBudget_2 rfl 1 rfl ?_
  refine z_callV (As := [vI c9]) (st := [vR (g 0)]) F (mX9_isNoClient l G N0 h g σ c9 hI hR (by omega) (by omega)) cvX9_120 (mI hI 0 rfl) (fun r9 h9 => by cases h9; rfl) rfl rfl ⟨Nat.le_of_ble_eq_true rfl, Nat.le_of_ble_eq_true rfl⟩ rfl ⟨Nat.le_of_ble_eq_true rfl, Nat.le_of_ble_eq_true rfl⟩ dX9_setBudget_3 ?_
  rintro _ h9 ⟨rfl, hh9⟩
  rw [hh9]
  clear hh9 h9
  generalize ex1 : (if 0 ≤ c9 ∧ c9 < σ 2 0 then (0 : Int) else 1) = x1
  show Z _ _ _ _ _ _ _ _ _ _ _ _ _ _ _ _ _ _ _ _ [vI x1, vR (g 0)]
  refine z_if_eq (tgt := 13) F dX9_setBudget_6 (by decide) (by omega) (fun c6 => ?_) (fun c6 => ?_)
  · refine z_iload_n F dX9_setBudget_13 rfl 2 rfl ?_
    refine z_iconst F dX9_setBudget_14 ?_
    refine z_sipush F dX9_setBudget_15 (by decide) ?_
    refine z_callS (As := [vI ra, vI 0, vI 9999]) (st := [vR (g 0)]) F (mX9_in l G N0 h ra 0 9999 (by omega) (by decide) (by decide)) csX9_93 rfl rfl ⟨Nat.le_of_ble_eq_true rfl, Nat.le_of_ble_eq_true rfl⟩ rfl ⟨Nat.le_of_ble_eq_true rfl, Nat.le_of_ble_eq_true rfl⟩ dX9_setBudget_18 ?_
    rintro _ h9 ⟨rfl, hh9⟩
    rw [hh9]
    clear hh9 h9
    generalize ex2 : (if 0 ≤ ra ∧ ra ≤ 9999 then (1 : Int) else 0) = x2
    show Z _ _ _ _ _ _ _ _ _ _ _ _ _ _ _ _ _ _ _ _ [vI x2, vR (g 0)]
    refine z_if_eq (tgt := 28) F dX9_setBudget_21 (by decide) (by omega) (fun c21 => ?_) (fun c21 => ?_)
    · refine z_iconst F dX9_setBudget_28 ?_
      refine z_callV (As := [vI 2]) (st := []) F (mX9_fails l G N0 h g σ 2 hI hR (by decide)) cvX9_107 (mI hI 0 rfl) (fun r9 h9 => by cases h9; rfl) rfl rfl ⟨Nat.le_of_ble_eq_true rfl, Nat.le_of_ble_eq_true rfl⟩ rfl ⟨Nat.le_of_ble_eq_true rfl, Nat.le_of_ble_eq_true rfl⟩ dX9_setBudget_29 ?_
      rintro _ h3 ⟨rfl, Ih3⟩
      rw [if_pos (by decide)]
      show Z _ _ _ _ _ _ _ _ _ _ _ _ _ _ _ _ _ _ _ _ [vI 1]
      refine z_if_eq (tgt := 37) F dX9_setBudget_32 (by decide) (by decide) (fun c32 => ?_) (fun c32 => ?_)
      · exact absurd c32 (by decide)
      · refine z_iconst F dX9_setBudget_35 ?_
        exact z_iret (nf_i _) F hr (Nat.le_of_ble_eq_true rfl) (Nat.le_of_ble_eq_true rfl) dX9_setBudget_36 (Or.inr (Or.inl ⟨by omega, by omega, rfl, Ih3⟩))
    · refine z_iconst F dX9_setBudget_24 ?_
      refine z_goto (tgt := 29) F dX9_setBudget_25 (by decide) ?_
      refine z_callV (As := [vI 0]) (st := []) F (mX9_fails l G N0 h g σ 0 hI hR (by decide)) cvX9_107 (mI hI 0 rfl) (fun r9 h9 => by cases h9; rfl) rfl rfl ⟨Nat.le_of_ble_eq_true rfl, Nat.le_of_ble_eq_true rfl⟩ rfl ⟨Nat.le_of_ble_eq_true rfl, Nat.le_of_ble_eq_true rfl⟩ dX9_setBudget_29 ?_
      rintro _ h4 ⟨rfl, Ih4⟩
      rw [if_neg (by decide)]
      show Z _ _ _ _ _ _ _ _ _ _ _ _ _ _ _ _ _ _ _ _ [vI 0]
      refine z_if_eq (tgt := 37) F dX9_setBudget_32 (by decide) (by decide) (fun c32 => ?_) (fun c32 => ?_)
      · refine z_aload_n F dX9_setBudget_37 rfl 0 rfl ?_
        refine z_get (v := vR (g 7)) F (mI Ih4 0 rfl) fX9_27 rfl dX9_setBudget_38 ?_
        refine z_iload_n F dX9_setBudget_41 rfl 1 rfl ?_
        refine z_iaload (N := 5) (f := fun j => σ 7 j) F (mI Ih4 7 rfl) (by omega) (by omega) (by omega) dX9_setBudget_42 ?_
        refine z_istore_n (lv' := [(3, vI (σ 7 c9)), (0, vR (g 0)), (1, vI c9), (2, vI ra)]) F dX9_setBudget_43 rfl (by decide) rfl ?_
        refine z_aload_n F dX9_setBudget_44 rfl 1 rfl ?_
        refine z_get (v := vR (g 7)) F (mI Ih4 0 rfl) fX9_27 rfl dX9_setBudget_45 ?_
        refine z_iload_n F dX9_setBudget_48 rfl 2 rfl ?_
        refine z_iload_n F dX9_setBudget_49 rfl 3 rfl ?_
        obtain ⟨h5, eh5, Ih5⟩ : ∃ z : Hp, hu h4 (g 7) (eA 0 5 (fun j => vI (if j = c9 then ra else σ 7 j))) = z ∧ MI g (su (su σ 30 0 0) 7 c9 ra) z := ⟨_, rfl, mP Ih4 7 rfl rfl c9 ra⟩
        refine z_iastore (N := 5) (f := fun j => σ 7 j) (h' := h5) F (mI Ih4 7 rfl) (by omega) (by omega) (by omega) dX9_setBudget_50 eh5 ?_
        refine z_iload_n F dX9_setBudget_51 rfl 0 rfl ?_
        exact z_iret (nf_i _) F hr (Nat.le_of_ble_eq_true rfl) (Nat.le_of_ble_eq_true rfl) dX9_setBudget_52 (Or.inr (Or.inr (⟨by omega, by omega, rfl, Ih5⟩)))
      · exact absurd c32 (by decide)
  · refine z_iconst F dX9_setBudget_9 ?_
    refine z_goto (tgt := 29) F dX9_setBudget_10 (by decide) ?_
    refine z_callV (As := [vI 1]) (st := []) F (mX9_fails l G N0 h g σ 1 hI hR (by decide)) cvX9_107 (mI hI 0 rfl) (fun r9 h9 => by cases h9; rfl) rfl rfl ⟨Nat.le_of_ble_eq_true rfl, Nat.le_of_ble_eq_true rfl⟩ rfl ⟨Nat.le_of_ble_eq_true rfl, Nat.le_of_ble_eq_true rfl⟩ dX9_setBudget_29 ?_
    rintro _ h6 ⟨rfl, Ih6⟩
    rw [if_pos (by decide)]
    show Z _ _ _ _ _ _ _ _ _ _ _ _ _ _ _ _ _ _ _ _ [vI 1]
    refine z_if_eq (tgt := 37) F dX9_setBudget_32 (by decide) (by decide) (fun c32 => ?_) (fun c32 => ?_)
    · exact absurd c32 (by decide)
    · refine z_iconst F dX9_setBudget_35 ?_
      exact z_iret (nf_i _) F hr (Nat.le_of_ble_eq_true rfl) (Nat.le_of_ble_eq_true rfl) dX9_setBudget_36 (Or.inl ⟨by omega, rfl, Ih6⟩)
set_option maxRecDepth 100000 in
set_option maxHeartbeats 4000000 in
theorem mX9_endsAt (l : Launch) (G : GG) (N0 : Nat) (h : Hp) (g : Nat → Nat) (σ : Sg) (e9 : Int) (hI : MI g σ h) (hR : RG σ) (he : 0 ≤ e9 ∧ e9 < 24) : Ct l G N0 yX9_endsAt (Cond.code yX9_endsAt cX9_endsAt 2 (some FieldType.int) :: LW) ({ frames := 0, cells := 0, slots := 0, locals := 0 }) [vR (g 0), vI e9] h (fun r h' => r = some (vI (enA σ e9)) ∧ h' = h) := by
  refine ct_of rfl rfl ?_
  intro p e s m args below meth c F hr hnm
  have F : Fx p s m args meth c RX9 cX9_endsAt 2 G N0 (cA h s.heap.size) := F
  show Z _ _ _ _ _ _ _ _ _ _ _ _ _ _ _ _ _ _ _ [(0, vR (g 0)), (1, vI e9)] []
  refine z_aload_n F dX9_endsAt_0 rfl 0 rfl ?_
  refine z_get (v := vR (g 12)) F (mI hI 0 rfl) fX9_39 rfl dX9_endsAt_1 ?_
  refine z_iload_n F dX9_endsAt_4 rfl 1 rfl ?_
  refine z_caload (N := 24) (f := fun j => σ 12 j) F (mI hI 12 rfl) (by omega) (by omega) (by omega) dX9_endsAt_5 ?_
  refine z_bipush F dX9_endsAt_6 (by decide) ?_
  refine z_icmp_ne (tgt := 18) F dX9_endsAt_8 (by decide) (hR 12 e9) (by decide) (fun c8 => ?_) (fun c8 => ?_)
  · refine z_aload_n F dX9_endsAt_18 rfl 0 rfl ?_
    refine z_get (v := vR (g 11)) F (mI hI 0 rfl) fX9_36 rfl dX9_endsAt_19 ?_
    refine z_iload_n F dX9_endsAt_22 rfl 1 rfl ?_
    refine z_iaload (N := 24) (f := fun j => σ 11 j) F (mI hI 11 rfl) (by omega) (by omega) (by omega) dX9_endsAt_23 ?_
    exact z_iret (nf_i _) F hr (Nat.le_of_ble_eq_true rfl) (Nat.le_of_ble_eq_true rfl) dX9_endsAt_24 (⟨rI (by unfold enA; omega), rfl⟩)
  · refine z_aload_n F dX9_endsAt_11 rfl 0 rfl ?_
    refine z_get (v := vI (σ 0 0)) F (mI hI 0 rfl) fX9_100 rfl dX9_endsAt_12 ?_
    refine z_goto (tgt := 24) F dX9_endsAt_15 (by decide) ?_
    exact z_iret (nf_i _) F hr (Nat.le_of_ble_eq_true rfl) (Nat.le_of_ble_eq_true rfl) dX9_endsAt_24 (⟨rI (by unfold enA; omega), rfl⟩)
set_option maxRecDepth 100000 in
set_option maxHeartbeats 4000000 in
theorem mX9_inState (l : Launch) (G : GG) (N0 : Nat) (h : Hp) (g : Nat → Nat) (σ : Sg) (v9 : Int) (hI : MI g σ h) (hR : RG σ) (v8 : 0 ≤ σ 8 0 ∧ σ 8 0 ≤ 24) (r_v9 : 0 ≤ v9 ∧ v9 < 65536) : Ct l G N0 yX9_inState (Cond.code yX9_inState cX9_inState 4 (some FieldType.int) :: LW) ({ frames := 0, cells := 0, slots := 0, locals := 0 }) [vR (g 0), vI v9] h (fun r h' => r = some (vI (cst σ v9 (σ 8 0).toNat)) ∧ h' = h) := by
  refine ct_of rfl rfl ?_
  intro p e s m args below meth c F hr hnm
  have F : Fx p s m args meth c RX9 cX9_inState 4 G N0 (cA h s.heap.size) := F
  obtain ⟨Q, hQ⟩ : ∃ z, z = MQ below (cQc G N0 h s.heap.size (fun r h' => r = some (vI (cst σ v9 (σ 8 0).toNat)) ∧ h' = h)) args s 0 0 (cA h s.heap.size) := ⟨_, rfl⟩
  rw [← hQ]
  show Z _ _ _ _ _ _ _ _ _ _ _ _ _ _ _ _ _ _ _ [(0, vR (g 0)), (1, vI v9)] []
  refine z_iconst F dX9_inState_0 ?_
  refine z_istore_n (lv' := [(2, vI 0), (0, vR (g 0)), (1, vI v9)]) F dX9_inState_1 rfl (by decide) rfl ?_
  refine z_iconst F dX9_inState_2 ?_
  refine z_istore_n (lv' := [(3, vI 0), (2, vI 0), (0, vR (g 0)), (1, vI v9)]) F dX9_inState_3 rfl (by decide) rfl ?_
  have L4 : ∀ (fuel : Nat) (n9 : Int) (e9 : Int), 0 ≤ e9 → e9 ≤ σ 8 0 → n9 = cst σ v9 e9.toNat → 0 ≤ n9 ∧ n9 ≤ e9 → σ 8 0 - e9 < (fuel : Int) → Z p l e ({ frames := 0, cells := 0, slots := 0, locals := 0 }) s m args below meth c 4 G N0 (cA h s.heap.size) Q h 0 0 4 [(3, vI e9), (2, vI n9), (0, vR (g 0)), (1, vI v9)] [] := by
    intro fuel
    induction fuel with
    | zero => intro n9 e9  ha hb hn hn2 hm; exact absurd hm (by omega)
    | succ fuel ih4 =>
      intro n9 e9  ha hb hn hn2 hm
      refine z_iload_n F dX9_inState_4 rfl 0 rfl ?_
      refine z_aload_n F dX9_inState_5 rfl 2 rfl ?_
      refine z_get (v := vI (σ 8 0)) F (mI hI 0 rfl) fX9_97 rfl dX9_inState_6 ?_
      refine z_icmp_ge (tgt := 36) F dX9_inState_9 (by decide) (by omega) (hR 8 0) (fun c9 => ?_) (fun c9 => ?_)
      · refine z_iload_n F dX9_inState_36 rfl 1 rfl ?_
        rw [hQ]
        exact z_iret (nf_i _) F hr (Nat.le_of_ble_eq_true rfl) (Nat.le_of_ble_eq_true rfl) dX9_inState_37 (⟨rI (by rw [hn, show e9 = σ 8 0 by omega]), rfl⟩)
      · refine z_iload_n F dX9_inState_12 rfl 1 rfl ?_
        refine z_aload_n F dX9_inState_13 rfl 2 rfl ?_
        refine z_get (v := vR (g 12)) F (mI hI 0 rfl) fX9_39 rfl dX9_inState_14 ?_
        refine z_iload_n F dX9_inState_17 rfl 0 rfl ?_
        refine z_caload (N := 24) (f := fun j => σ 12 j) F (mI hI 12 rfl) (by omega) (by omega) (by omega) dX9_inState_18 ?_
        refine z_iload_n F dX9_inState_19 rfl 3 rfl ?_
        refine z_icmp_ne (tgt := 27) F dX9_inState_20 (by decide) (hR 12 e9) (by omega) (fun c20 => ?_) (fun c20 => ?_)
        · refine z_iconst F dX9_inState_27 ?_
          refine z_iadd F dX9_inState_28 ?_
          refine z_istore_n (lv' := [(2, vI (n9 + 0)), (3, vI e9), (0, vR (g 0)), (1, vI v9)]) F dX9_inState_29 rfl (by decide) rfl ?_
          refine z_iinc (lv' := [(3, vI (e9 + 1)), (2, vI (n9 + 0)), (0, vR (g 0)), (1, vI v9)]) F dX9_inState_30 1 rfl (by decide) rfl ?_
          refine z_goto (tgt := 4) F dX9_inState_33 (by decide) ?_
          exact ih4 (n9 + 0) (e9 + 1)  (by omega) (by omega) (by rw [cst_s σ v9 ha]; omega) (by omega) (by omega)
        · refine z_iconst F dX9_inState_23 ?_
          refine z_goto (tgt := 28) F dX9_inState_24 (by decide) ?_
          refine z_iadd F dX9_inState_28 ?_
          refine z_istore_n (lv' := [(2, vI (n9 + 1)), (3, vI e9), (0, vR (g 0)), (1, vI v9)]) F dX9_inState_29 rfl (by decide) rfl ?_
          refine z_iinc (lv' := [(3, vI (e9 + 1)), (2, vI (n9 + 1)), (0, vR (g 0)), (1, vI v9)]) F dX9_inState_30 1 rfl (by decide) rfl ?_
          refine z_goto (tgt := 4) F dX9_inState_33 (by decide) ?_
          exact ih4 (n9 + 1) (e9 + 1)  (by omega) (by omega) (by rw [cst_s σ v9 ha]; omega) (by omega) (by omega)
  exact L4 ((σ 8 0 - 0).toNat + 1) 0 0  (by omega) (by omega) (rfl) (by omega) (by omega)
