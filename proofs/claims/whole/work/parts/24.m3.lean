set_option maxRecDepth 100000 in
set_option maxHeartbeats 4000000 in
theorem mX9_makes (l : Launch) (G : GG) (N0 : Nat) (h : Hp) (g : Nat → Nat) (σ : Sg) (c9 st9 en9 sa9 : Int) (hI : MI g σ h) (hR : RG σ) (h8 : 0 ≤ σ 8 0 ∧ σ 8 0 < 24) (r_c9 : -2147483648 ≤ c9 ∧ c9 < 2147483648) (r_st9 : -2147483648 ≤ st9 ∧ st9 < 2147483648) (r_en9 : -2147483648 ≤ en9 ∧ en9 < 2147483648) (r_sa9 : 0 ≤ sa9 ∧ sa9 < 65536) : Ct l G N0 yX9_makes (Cond.code yX9_makes cX9_makes 5 (some FieldType.int) :: LW) ({ frames := 0, cells := 0, slots := 0, locals := 0 }) [vR (g 0), vI c9, vI st9, vI en9, vI sa9] h (fun r h' => r = some (vI (σ 8 0)) ∧ MI g (su (su (su (su (su σ 9 (σ 8 0) c9) 10 (σ 8 0) st9) 11 (σ 8 0) en9) 12 (σ 8 0) sa9) 8 0 (σ 8 0 + 1)) h') := by
  refine ct_of rfl rfl ?_
  intro p e s m args below meth c F hr hnm
  have F : Fx p s m args meth c RX9 cX9_makes 5 G N0 (cA h s.heap.size) := F
  show Z _ _ _ _ _ _ _ _ _ _ _ _ _ _ _ _ _ _ _ [(0, vR (g 0)), (1, vI c9), (2, vI st9), (3, vI en9), (4, vI sa9)] []
  refine z_aload_n F dX9_makes_0 rfl 0 rfl ?_
  refine z_get (v := vR (g 9)) F (mI hI 0 rfl) fX9_30 rfl dX9_makes_1 ?_
  refine z_aload_n F dX9_makes_4 rfl 0 rfl ?_
  refine z_get (v := vI (σ 8 0)) F (mI hI 0 rfl) fX9_97 rfl dX9_makes_5 ?_
  refine z_iload_n F dX9_makes_8 rfl 1 rfl ?_
  obtain ⟨h1, eh1, Ih1⟩ : ∃ z : Hp, hu h (g 9) (eA 0 24 (fun j => vI (if j = σ 8 0 then c9 else σ 9 j))) = z ∧ MI g (su σ 9 (σ 8 0) c9) z := ⟨_, rfl, mP hI 9 rfl rfl (σ 8 0) c9⟩
  refine z_iastore (N := 24) (f := fun j => σ 9 j) (h' := h1) F (mI hI 9 rfl) (by omega) (by omega) (by omega) dX9_makes_9 eh1 ?_
  refine z_aload_n F dX9_makes_10 rfl 0 rfl ?_
  refine z_get (v := vR (g 10)) F (mI Ih1 0 rfl) fX9_33 rfl dX9_makes_11 ?_
  refine z_aload_n F dX9_makes_14 rfl 0 rfl ?_
  refine z_get (v := vI (σ 8 0)) F (mI Ih1 0 rfl) fX9_97 rfl dX9_makes_15 ?_
  refine z_iload_n F dX9_makes_18 rfl 2 rfl ?_
  obtain ⟨h2, eh2, Ih2⟩ : ∃ z : Hp, hu h1 (g 10) (eA 0 24 (fun j => vI (if j = σ 8 0 then st9 else σ 10 j))) = z ∧ MI g (su (su σ 9 (σ 8 0) c9) 10 (σ 8 0) st9) z := ⟨_, rfl, mP Ih1 10 rfl rfl (σ 8 0) st9⟩
  refine z_iastore (N := 24) (f := fun j => σ 10 j) (h' := h2) F (mI Ih1 10 rfl) (by omega) (by omega) (by omega) dX9_makes_19 eh2 ?_
  refine z_aload_n F dX9_makes_20 rfl 0 rfl ?_
  refine z_get (v := vR (g 11)) F (mI Ih2 0 rfl) fX9_36 rfl dX9_makes_21 ?_
  refine z_aload_n F dX9_makes_24 rfl 0 rfl ?_
  refine z_get (v := vI (σ 8 0)) F (mI Ih2 0 rfl) fX9_97 rfl dX9_makes_25 ?_
  refine z_iload_n F dX9_makes_28 rfl 3 rfl ?_
  obtain ⟨h3, eh3, Ih3⟩ : ∃ z : Hp, hu h2 (g 11) (eA 0 24 (fun j => vI (if j = σ 8 0 then en9 else σ 11 j))) = z ∧ MI g (su (su (su σ 9 (σ 8 0) c9) 10 (σ 8 0) st9) 11 (σ 8 0) en9) z := ⟨_, rfl, mP Ih2 11 rfl rfl (σ 8 0) en9⟩
  refine z_iastore (N := 24) (f := fun j => σ 11 j) (h' := h3) F (mI Ih2 11 rfl) (by omega) (by omega) (by omega) dX9_makes_29 eh3 ?_
  refine z_aload_n F dX9_makes_30 rfl 0 rfl ?_
  refine z_get (v := vR (g 12)) F (mI Ih3 0 rfl) fX9_39 rfl dX9_makes_31 ?_
  refine z_aload_n F dX9_makes_34 rfl 0 rfl ?_
  refine z_get (v := vI (σ 8 0)) F (mI Ih3 0 rfl) fX9_97 rfl dX9_makes_35 ?_
  refine z_iload F dX9_makes_38 4 rfl ?_
  obtain ⟨h4, eh4, Ih4⟩ : ∃ z : Hp, hu h3 (g 12) (eA 1 24 (fun j => vI (if j = σ 8 0 then sa9 else σ 12 j))) = z ∧ MI g (su (su (su (su σ 9 (σ 8 0) c9) 10 (σ 8 0) st9) 11 (σ 8 0) en9) 12 (σ 8 0) sa9) z := ⟨_, rfl, mP Ih3 12 rfl rfl (σ 8 0) sa9⟩
  refine z_castore (N := 24) (f := fun j => σ 12 j) (h' := h4) F (mI Ih3 12 rfl) (nf_c (by omega)) (by omega) (by omega) (by omega) dX9_makes_40 eh4 ?_
  refine z_aload_n F dX9_makes_41 rfl 0 rfl ?_
  refine z_dup F dX9_makes_42 rfl ?_
  refine z_get (v := vI (σ 8 0)) F (mI Ih4 0 rfl) fX9_97 rfl dX9_makes_43 ?_
  refine z_iconst F dX9_makes_46 ?_
  refine z_iadd F dX9_makes_47 ?_
  obtain ⟨h5, eh5, Ih5⟩ : ∃ z : Hp, hu h4 (g 0) (eO 14 [vI (σ 0 0), vI (σ 1 0), vI (σ 2 0), vR (g 3), vR (g 4), vR (g 5), vR (g 6), vR (g 7), vI ((σ 8 0) + 1), vR (g 9), vR (g 10), vR (g 11), vR (g 12), vR (g 13), vR (g 14), vR (g 15), vI (σ 16 0), vR (g 17), vR (g 18), vR (g 19), vR (g 20), vR (g 21), vR (g 22), vR (g 23), vI (σ 24 0), vR (g 25), vR (g 26), vR (g 27), vR (g 28), vI (σ 29 0), vI (σ 30 0)]) = z ∧ MI g (su (su (su (su (su σ 9 (σ 8 0) c9) 10 (σ 8 0) st9) 11 (σ 8 0) en9) 12 (σ 8 0) sa9) 8 0 ((σ 8 0) + 1)) z := ⟨_, rfl, mPs Ih4 8 rfl ((σ 8 0) + 1)⟩
  refine z_put (fs := [vI (σ 0 0), vI (σ 1 0), vI (σ 2 0), vR (g 3), vR (g 4), vR (g 5), vR (g 6), vR (g 7), vI (σ 8 0), vR (g 9), vR (g 10), vR (g 11), vR (g 12), vR (g 13), vR (g 14), vR (g 15), vI (σ 16 0), vR (g 17), vR (g 18), vR (g 19), vR (g 20), vR (g 21), vR (g 22), vR (g 23), vI (σ 24 0), vR (g 25), vR (g 26), vR (g 27), vR (g 28), vI (σ 29 0), vI (σ 30 0)]) (fs' := [vI (σ 0 0), vI (σ 1 0), vI (σ 2 0), vR (g 3), vR (g 4), vR (g 5), vR (g 6), vR (g 7), vI ((σ 8 0) + 1), vR (g 9), vR (g 10), vR (g 11), vR (g 12), vR (g 13), vR (g 14), vR (g 15), vI (σ 16 0), vR (g 17), vR (g 18), vR (g 19), vR (g 20), vR (g 21), vR (g 22), vR (g 23), vI (σ 24 0), vR (g 25), vR (g 26), vR (g 27), vR (g 28), vI (σ 29 0), vI (σ 30 0)]) (h' := h5) F (mI Ih4 0 rfl) fX9_97 ftX9_8 (nf_i _) (Nat.le_of_ble_eq_true rfl) rfl dX9_makes_48 eh5 ?_
  refine z_aload_n F dX9_makes_51 rfl 0 rfl ?_
  refine z_get (v := vI ((σ 8 0) + 1)) F (mI Ih5 0 rfl) fX9_97 rfl dX9_makes_52 ?_
  refine z_iconst F dX9_makes_55 ?_
  refine z_isub F dX9_makes_56 ?_
  exact z_iret (nf_i _) F hr (Nat.le_of_ble_eq_true rfl) (Nat.le_of_ble_eq_true rfl) dX9_makes_57 (⟨rI (by omega), Ih5⟩)
set_option maxRecDepth 100000 in
set_option maxHeartbeats 4000000 in
theorem mX9_start (l : Launch) (G : GG) (N0 : Nat) (h : Hp) (g : Nat → Nat) (σ : Sg) (c9 : Int) (hI : MI g σ h) (hR : RG σ) (hV : MV σ) (r_c9 : -2147483648 ≤ c9 ∧ c9 < 2147483648) : Ct l G N0 yX9_start (Cond.code yX9_start cX9_start 2 (some FieldType.int) :: LW) ({ frames := 2, cells := 0, slots := 0, locals := 70 }) [vR (g 0), vI c9] h (fun r h' => ((¬ (0 ≤ c9 ∧ c9 < σ 2 0)) ∧ r = some (vI 0) ∧ MI g (su σ 30 0 1) h') ∨ (¬ (¬ (0 ≤ c9 ∧ c9 < σ 2 0)) ∧ (σ 8 0 = 24 ∨ cst σ 114 (σ 8 0).toNat = 4) ∧ r = some (vI 0) ∧ MI g (su σ 30 0 2) h') ∨ (¬ (¬ (0 ≤ c9 ∧ c9 < σ 2 0)) ∧ ¬ (σ 8 0 = 24 ∨ cst σ 114 (σ 8 0).toNat = 4) ∧ r = some (vI (σ 8 0)) ∧ MI g (su (su (su (su (su (su σ 30 0 0) 9 (σ 8 0) c9) 10 (σ 8 0) (σ 0 0)) 11 (σ 8 0) (σ 0 0)) 12 (σ 8 0) 114) 8 0 (σ 8 0 + 1)) h')) := by
  refine ct_of rfl rfl ?_
  intro p e s m args below meth c F hr hnm
  have F : Fx p s m args meth c RX9 cX9_start 2 G N0 (cA h s.heap.size) := F
  obtain ⟨v0, v1, v2, v8, v16, v24, v29, vC, vE, vL, vK, vT⟩ := id hV
  show Z _ _ _ _ _ _ _ _ _ _ _ _ _ _ _ _ _ _ _ [(0, vR (g 0)), (1, vI c9)] []
  refine z_aload_n F dX9_start_0 rfl 0 rfl ?_
  refine z_aload_n F dX9_start_1 rfl 0 rfl ?_
  refine z_iload_n F dX9_start_2 rfl 1 rfl ?_
  refine z_callV (As := [vI c9]) (st := [vR (g 0)]) F (mX9_isNoClient l G N0 h g σ c9 hI hR (by omega) (by omega)) cvX9_120 (mI hI 0 rfl) (fun r9 h9 => by cases h9; rfl) rfl rfl ⟨Nat.le_of_ble_eq_true rfl, Nat.le_of_ble_eq_true rfl⟩ rfl ⟨Nat.le_of_ble_eq_true rfl, Nat.le_of_ble_eq_true rfl⟩ dX9_start_3 ?_
  rintro _ h9 ⟨rfl, hh9⟩
  rw [hh9]
  clear hh9 h9
  generalize ex1 : (if 0 ≤ c9 ∧ c9 < σ 2 0 then (0 : Int) else 1) = x1
  show Z _ _ _ _ _ _ _ _ _ _ _ _ _ _ _ _ _ _ _ _ [vI x1, vR (g 0)]
  refine z_if_eq (tgt := 13) F dX9_start_6 (by decide) (by omega) (fun c6 => ?_) (fun c6 => ?_)
  · refine z_aload_n F dX9_start_13 rfl 0 rfl ?_
    refine z_get (v := vI (σ 8 0)) F (mI hI 0 rfl) fX9_97 rfl dX9_start_14 ?_
    refine z_bipush F dX9_start_17 (by decide) ?_
    refine z_icmp_eq (tgt := 32) F dX9_start_19 (by decide) (hR 8 0) (by decide) (fun c19 => ?_) (fun c19 => ?_)
    · refine z_iconst F dX9_start_32 ?_
      refine z_goto (tgt := 37) F dX9_start_33 (by decide) ?_
      refine z_callV (As := [vI 2]) (st := []) F (mX9_fails l G N0 h g σ 2 hI hR (by decide)) cvX9_107 (mI hI 0 rfl) (fun r9 h9 => by cases h9; rfl) rfl rfl ⟨Nat.le_of_ble_eq_true rfl, Nat.le_of_ble_eq_true rfl⟩ rfl ⟨Nat.le_of_ble_eq_true rfl, Nat.le_of_ble_eq_true rfl⟩ dX9_start_37 ?_
      rintro _ h2 ⟨rfl, Ih2⟩
      rw [if_pos (by decide)]
      show Z _ _ _ _ _ _ _ _ _ _ _ _ _ _ _ _ _ _ _ _ [vI 1]
      refine z_if_eq (tgt := 47) F dX9_start_40 (by decide) (by decide) (fun c40 => ?_) (fun c40 => ?_)
      · exact absurd c40 (by decide)
      · refine z_iconst F dX9_start_43 ?_
        refine z_goto (tgt := 62) F dX9_start_44 (by decide) ?_
        exact z_iret (nf_i _) F hr (Nat.le_of_ble_eq_true rfl) (Nat.le_of_ble_eq_true rfl) dX9_start_62 (Or.inr (Or.inl ⟨by omega, by omega, rfl, Ih2⟩))
    · refine z_aload_n F dX9_start_22 rfl 0 rfl ?_
      refine z_bipush F dX9_start_23 (by decide) ?_
      refine z_callV (As := [vI 114]) (st := [vR (g 0)]) F (mX9_inState l G N0 h g σ 114 hI hR (show 0 ≤ σ 8 0 ∧ σ 8 0 ≤ 24 from by omega) (by omega)) cvX9_123 (mI hI 0 rfl) (fun r9 h9 => by cases h9; rfl) rfl rfl ⟨Nat.le_of_ble_eq_true rfl, Nat.le_of_ble_eq_true rfl⟩ rfl ⟨Nat.le_of_ble_eq_true rfl, Nat.le_of_ble_eq_true rfl⟩ dX9_start_25 ?_
      rintro _ h9 ⟨rfl, hh9⟩
      rw [hh9]
      clear hh9 h9
      show Z _ _ _ _ _ _ _ _ _ _ _ _ _ _ _ _ _ _ _ _ [vI (cst σ 114 (σ 8 0).toNat), vR (g 0)]
      have qx3 := cst_in σ 114 (σ 8 0).toNat
      generalize ex3 : cst σ 114 (σ 8 0).toNat = x3 at qx3 ⊢
      show Z _ _ _ _ _ _ _ _ _ _ _ _ _ _ _ _ _ _ _ _ [vI x3, vR (g 0)]
      refine z_iconst F dX9_start_28 ?_
      refine z_icmp_ne (tgt := 36) F dX9_start_29 (by decide) (by omega) (by decide) (fun c29 => ?_) (fun c29 => ?_)
      · refine z_iconst F dX9_start_36 ?_
        refine z_callV (As := [vI 0]) (st := []) F (mX9_fails l G N0 h g σ 0 hI hR (by decide)) cvX9_107 (mI hI 0 rfl) (fun r9 h9 => by cases h9; rfl) rfl rfl ⟨Nat.le_of_ble_eq_true rfl, Nat.le_of_ble_eq_true rfl⟩ rfl ⟨Nat.le_of_ble_eq_true rfl, Nat.le_of_ble_eq_true rfl⟩ dX9_start_37 ?_
        rintro _ h4 ⟨rfl, Ih4⟩
        rw [if_neg (by decide)]
        show Z _ _ _ _ _ _ _ _ _ _ _ _ _ _ _ _ _ _ _ _ [vI 0]
        refine z_if_eq (tgt := 47) F dX9_start_40 (by decide) (by decide) (fun c40 => ?_) (fun c40 => ?_)
        · refine z_aload_n F dX9_start_47 rfl 0 rfl ?_
          refine z_iload_n F dX9_start_48 rfl 1 rfl ?_
          refine z_aload_n F dX9_start_49 rfl 0 rfl ?_
          refine z_get (v := vI (σ 0 0)) F (mI Ih4 0 rfl) fX9_100 rfl dX9_start_50 ?_
          refine z_aload_n F dX9_start_53 rfl 0 rfl ?_
          refine z_get (v := vI (σ 0 0)) F (mI Ih4 0 rfl) fX9_100 rfl dX9_start_54 ?_
          refine z_bipush F dX9_start_57 (by decide) ?_
          refine z_callV (As := [vI c9, vI (σ 0 0), vI (σ 0 0), vI 114]) (st := []) F (mX9_makes l G N0 h4 g (su σ 30 0 0) c9 (σ 0 0) (σ 0 0) 114 Ih4 (rg_su hR (by decide)) (show 0 ≤ σ 8 0 ∧ σ 8 0 < 24 from by omega) (by omega) (hR 0 0) (hR 0 0) (by omega)) cvX9_127 (mI Ih4 0 rfl) (fun r9 h9 => by cases h9; rfl) rfl rfl ⟨Nat.le_of_ble_eq_true rfl, Nat.le_of_ble_eq_true rfl⟩ rfl ⟨Nat.le_of_ble_eq_true rfl, Nat.le_of_ble_eq_true rfl⟩ dX9_start_59 ?_
          rintro _ h5 ⟨rfl, Ih5⟩
          show Z _ _ _ _ _ _ _ _ _ _ _ _ _ _ _ _ _ _ _ _ [vI (σ 8 0)]
          exact z_iret (nf_i _) F hr (Nat.le_of_ble_eq_true rfl) (Nat.le_of_ble_eq_true rfl) dX9_start_62 (Or.inr (Or.inr (⟨by omega, by omega, rfl, Ih5⟩)))
        · exact absurd c40 (by decide)
      · refine z_iconst F dX9_start_32 ?_
        refine z_goto (tgt := 37) F dX9_start_33 (by decide) ?_
        refine z_callV (As := [vI 2]) (st := []) F (mX9_fails l G N0 h g σ 2 hI hR (by decide)) cvX9_107 (mI hI 0 rfl) (fun r9 h9 => by cases h9; rfl) rfl rfl ⟨Nat.le_of_ble_eq_true rfl, Nat.le_of_ble_eq_true rfl⟩ rfl ⟨Nat.le_of_ble_eq_true rfl, Nat.le_of_ble_eq_true rfl⟩ dX9_start_37 ?_
        rintro _ h6 ⟨rfl, Ih6⟩
        rw [if_pos (by decide)]
        show Z _ _ _ _ _ _ _ _ _ _ _ _ _ _ _ _ _ _ _ _ [vI 1]
        refine z_if_eq (tgt := 47) F dX9_start_40 (by decide) (by decide) (fun c40 => ?_) (fun c40 => ?_)
        · exact absurd c40 (by decide)
        · refine z_iconst F dX9_start_43 ?_
          refine z_goto (tgt := 62) F dX9_start_44 (by decide) ?_
          exact z_iret (nf_i _) F hr (Nat.le_of_ble_eq_true rfl) (Nat.le_of_ble_eq_true rfl) dX9_start_62 (Or.inr (Or.inl ⟨by omega, by omega, rfl, Ih6⟩))
  · refine z_iconst F dX9_start_9 ?_
    refine z_goto (tgt := 37) F dX9_start_10 (by decide) ?_
    refine z_callV (As := [vI 1]) (st := []) F (mX9_fails l G N0 h g σ 1 hI hR (by decide)) cvX9_107 (mI hI 0 rfl) (fun r9 h9 => by cases h9; rfl) rfl rfl ⟨Nat.le_of_ble_eq_true rfl, Nat.le_of_ble_eq_true rfl⟩ rfl ⟨Nat.le_of_ble_eq_true rfl, Nat.le_of_ble_eq_true rfl⟩ dX9_start_37 ?_
    rintro _ h7 ⟨rfl, Ih7⟩
    rw [if_pos (by decide)]
    show Z _ _ _ _ _ _ _ _ _ _ _ _ _ _ _ _ _ _ _ _ [vI 1]
    refine z_if_eq (tgt := 47) F dX9_start_40 (by decide) (by decide) (fun c40 => ?_) (fun c40 => ?_)
    · exact absurd c40 (by decide)
    · refine z_iconst F dX9_start_43 ?_
      refine z_goto (tgt := 62) F dX9_start_44 (by decide) ?_
      exact z_iret (nf_i _) F hr (Nat.le_of_ble_eq_true rfl) (Nat.le_of_ble_eq_true rfl) dX9_start_62 (Or.inl ⟨by omega, rfl, Ih7⟩)
set_option maxRecDepth 100000 in
set_option maxHeartbeats 4000000 in
theorem mX9_stop (l : Launch) (G : GG) (N0 : Nat) (h : Hp) (g : Nat → Nat) (σ : Sg) (e9 : Int) (hI : MI g σ h) (hR : RG σ) (hV : MV σ) (r_e9 : -2147483648 ≤ e9 ∧ e9 < 2147483648) : Ct l G N0 yX9_stop (Cond.code yX9_stop cX9_stop 2 (some FieldType.int) :: LW) ({ frames := 2, cells := 0, slots := 0, locals := 70 }) [vR (g 0), vI e9] h (fun r h' => ((¬ (0 ≤ e9 ∧ e9 < σ 8 0)) ∧ r = some (vI 0) ∧ MI g (su σ 30 0 1) h') ∨ (¬ (¬ (0 ≤ e9 ∧ e9 < σ 8 0)) ∧ (σ 12 e9 ≠ 114) ∧ r = some (vI 0) ∧ MI g (su σ 30 0 2) h') ∨ (¬ (¬ (0 ≤ e9 ∧ e9 < σ 8 0)) ∧ ¬ (σ 12 e9 ≠ 114) ∧ r = some (vI (σ 0 0 - σ 10 e9)) ∧ MI g (su (su (su σ 30 0 0) 12 e9 101) 11 e9 (σ 0 0)) h')) := by
  refine ct_of rfl rfl ?_
  intro p e s m args below meth c F hr hnm
  have F : Fx p s m args meth c RX9 cX9_stop 2 G N0 (cA h s.heap.size) := F
  obtain ⟨v0, v1, v2, v8, v16, v24, v29, vC, vE, vL, vK, vT⟩ := id hV
  have E_e9 := vE e9
  show Z _ _ _ _ _ _ _ _ _ _ _ _ _ _ _ _ _ _ _ [(0, vR (g 0)), (1, vI e9)] []
  refine z_aload_n F dX9_stop_0 rfl 0 rfl ?_
  refine z_aload_n F dX9_stop_1 rfl 0 rfl ?_
  refine z_iload_n F dX9_stop_2 rfl 1 rfl ?_
  refine z_callV (As := [vI e9]) (st := [vR (g 0)]) F (mX9_isNone l G N0 h g σ e9 hI hR (by omega) (by omega)) cvX9_131 (mI hI 0 rfl) (fun r9 h9 => by cases h9; rfl) rfl rfl ⟨Nat.le_of_ble_eq_true rfl, Nat.le_of_ble_eq_true rfl⟩ rfl ⟨Nat.le_of_ble_eq_true rfl, Nat.le_of_ble_eq_true rfl⟩ dX9_stop_3 ?_
  rintro _ h9 ⟨rfl, hh9⟩
  rw [hh9]
  clear hh9 h9
  generalize ex1 : (if 0 ≤ e9 ∧ e9 < σ 8 0 then (0 : Int) else 1) = x1
  show Z _ _ _ _ _ _ _ _ _ _ _ _ _ _ _ _ _ _ _ _ [vI x1, vR (g 0)]
  refine z_if_eq (tgt := 13) F dX9_stop_6 (by decide) (by omega) (fun c6 => ?_) (fun c6 => ?_)
  · refine z_aload_n F dX9_stop_13 rfl 0 rfl ?_
    refine z_get (v := vR (g 12)) F (mI hI 0 rfl) fX9_39 rfl dX9_stop_14 ?_
    refine z_iload_n F dX9_stop_17 rfl 1 rfl ?_
    refine z_caload (N := 24) (f := fun j => σ 12 j) F (mI hI 12 rfl) (by omega) (by omega) (by omega) dX9_stop_18 ?_
    refine z_bipush F dX9_stop_19 (by decide) ?_
    refine z_icmp_eq (tgt := 28) F dX9_stop_21 (by decide) (hR 12 e9) (by decide) (fun c21 => ?_) (fun c21 => ?_)
    · refine z_iconst F dX9_stop_28 ?_
      refine z_callV (As := [vI 0]) (st := []) F (mX9_fails l G N0 h g σ 0 hI hR (by decide)) cvX9_107 (mI hI 0 rfl) (fun r9 h9 => by cases h9; rfl) rfl rfl ⟨Nat.le_of_ble_eq_true rfl, Nat.le_of_ble_eq_true rfl⟩ rfl ⟨Nat.le_of_ble_eq_true rfl, Nat.le_of_ble_eq_true rfl⟩ dX9_stop_29 ?_
      rintro _ h2 ⟨rfl, Ih2⟩
      rw [if_neg (by decide)]
      show Z _ _ _ _ _ _ _ _ _ _ _ _ _ _ _ _ _ _ _ _ [vI 0]
      refine z_if_eq (tgt := 37) F dX9_stop_32 (by decide) (by decide) (fun c32 => ?_) (fun c32 => ?_)
      · refine z_aload_n F dX9_stop_37 rfl 0 rfl ?_
        refine z_get (v := vR (g 12)) F (mI Ih2 0 rfl) fX9_39 rfl dX9_stop_38 ?_
        refine z_iload_n F dX9_stop_41 rfl 1 rfl ?_
        refine z_bipush F dX9_stop_42 (by decide) ?_
        obtain ⟨h3, eh3, Ih3⟩ : ∃ z : Hp, hu h2 (g 12) (eA 1 24 (fun j => vI (if j = e9 then 101 else σ 12 j))) = z ∧ MI g (su (su σ 30 0 0) 12 e9 101) z := ⟨_, rfl, mP Ih2 12 rfl rfl e9 101⟩
        refine z_castore (N := 24) (f := fun j => σ 12 j) (h' := h3) F (mI Ih2 12 rfl) (nf_c (by omega)) (by omega) (by omega) (by omega) dX9_stop_44 eh3 ?_
        refine z_aload_n F dX9_stop_45 rfl 0 rfl ?_
        refine z_get (v := vR (g 11)) F (mI Ih3 0 rfl) fX9_36 rfl dX9_stop_46 ?_
        refine z_iload_n F dX9_stop_49 rfl 1 rfl ?_
        refine z_aload_n F dX9_stop_50 rfl 0 rfl ?_
        refine z_get (v := vI (σ 0 0)) F (mI Ih3 0 rfl) fX9_100 rfl dX9_stop_51 ?_
        obtain ⟨h4, eh4, Ih4⟩ : ∃ z : Hp, hu h3 (g 11) (eA 0 24 (fun j => vI (if j = e9 then σ 0 0 else σ 11 j))) = z ∧ MI g (su (su (su σ 30 0 0) 12 e9 101) 11 e9 (σ 0 0)) z := ⟨_, rfl, mP Ih3 11 rfl rfl e9 (σ 0 0)⟩
        refine z_iastore (N := 24) (f := fun j => σ 11 j) (h' := h4) F (mI Ih3 11 rfl) (by omega) (by omega) (by omega) dX9_stop_54 eh4 ?_
        refine z_aload_n F dX9_stop_55 rfl 0 rfl ?_
        refine z_get (v := vI (σ 0 0)) F (mI Ih4 0 rfl) fX9_100 rfl dX9_stop_56 ?_
        refine z_aload_n F dX9_stop_59 rfl 0 rfl ?_
        refine z_get (v := vR (g 10)) F (mI Ih4 0 rfl) fX9_33 rfl dX9_stop_60 ?_
        refine z_iload_n F dX9_stop_63 rfl 1 rfl ?_
        refine z_iaload (N := 24) (f := fun j => σ 10 j) F (mI Ih4 10 rfl) (by omega) (by omega) (by omega) dX9_stop_64 ?_
        refine z_isub F dX9_stop_65 ?_
        exact z_iret (nf_i _) F hr (Nat.le_of_ble_eq_true rfl) (Nat.le_of_ble_eq_true rfl) dX9_stop_66 (Or.inr (Or.inr (⟨by omega, by omega, rfl, Ih4⟩)))
      · exact absurd c32 (by decide)
    · refine z_iconst F dX9_stop_24 ?_
      refine z_goto (tgt := 29) F dX9_stop_25 (by decide) ?_
      refine z_callV (As := [vI 2]) (st := []) F (mX9_fails l G N0 h g σ 2 hI hR (by decide)) cvX9_107 (mI hI 0 rfl) (fun r9 h9 => by cases h9; rfl) rfl rfl ⟨Nat.le_of_ble_eq_true rfl, Nat.le_of_ble_eq_true rfl⟩ rfl ⟨Nat.le_of_ble_eq_true rfl, Nat.le_of_ble_eq_true rfl⟩ dX9_stop_29 ?_
      rintro _ h5 ⟨rfl, Ih5⟩
      rw [if_pos (by decide)]
      show Z _ _ _ _ _ _ _ _ _ _ _ _ _ _ _ _ _ _ _ _ [vI 1]
      refine z_if_eq (tgt := 37) F dX9_stop_32 (by decide) (by decide) (fun c32 => ?_) (fun c32 => ?_)
      · exact absurd c32 (by decide)
      · refine z_iconst F dX9_stop_35 ?_
        exact z_iret (nf_i _) F hr (Nat.le_of_ble_eq_true rfl) (Nat.le_of_ble_eq_true rfl) dX9_stop_36 (Or.inr (Or.inl ⟨by omega, by omega, rfl, Ih5⟩))
  · refine z_iconst F dX9_stop_9 ?_
    refine z_goto (tgt := 29) F dX9_stop_10 (by decide) ?_
    refine z_callV (As := [vI 1]) (st := []) F (mX9_fails l G N0 h g σ 1 hI hR (by decide)) cvX9_107 (mI hI 0 rfl) (fun r9 h9 => by cases h9; rfl) rfl rfl ⟨Nat.le_of_ble_eq_true rfl, Nat.le_of_ble_eq_true rfl⟩ rfl ⟨Nat.le_of_ble_eq_true rfl, Nat.le_of_ble_eq_true rfl⟩ dX9_stop_29 ?_
    rintro _ h6 ⟨rfl, Ih6⟩
    rw [if_pos (by decide)]
    show Z _ _ _ _ _ _ _ _ _ _ _ _ _ _ _ _ _ _ _ _ [vI 1]
    refine z_if_eq (tgt := 37) F dX9_stop_32 (by decide) (by decide) (fun c32 => ?_) (fun c32 => ?_)
    · exact absurd c32 (by decide)
    · refine z_iconst F dX9_stop_35 ?_
      exact z_iret (nf_i _) F hr (Nat.le_of_ble_eq_true rfl) (Nat.le_of_ble_eq_true rfl) dX9_stop_36 (Or.inl ⟨by omega, rfl, Ih6⟩)
set_option maxRecDepth 100000 in
set_option maxHeartbeats 4000000 in
theorem mX9_addEntry (l : Launch) (G : GG) (N0 : Nat) (h : Hp) (g : Nat → Nat) (σ : Sg) (c9 s9 t9 : Int) (hI : MI g σ h) (hR : RG σ) (hV : MV σ) (r_c9 : -2147483648 ≤ c9 ∧ c9 < 2147483648) (r_s9 : -2147483648 ≤ s9 ∧ s9 < 2147483648) (r_t9 : -2147483648 ≤ t9 ∧ t9 < 2147483648) : Ct l G N0 yX9_addEntry (Cond.code yX9_addEntry cX9_addEntry 4 (some FieldType.int) :: LW) ({ frames := 2, cells := 0, slots := 0, locals := 70 }) [vR (g 0), vI c9, vI s9, vI t9] h (fun r h' => ((¬ (0 ≤ c9 ∧ c9 < σ 2 0)) ∧ r = some (vI 0) ∧ MI g (su σ 30 0 1) h') ∨ (¬ (¬ (0 ≤ c9 ∧ c9 < σ 2 0)) ∧ (s9 < 0 ∨ t9 < s9 ∨ σ 0 0 < t9) ∧ r = some (vI 0) ∧ MI g (su σ 30 0 2) h') ∨ (¬ (¬ (0 ≤ c9 ∧ c9 < σ 2 0)) ∧ ¬ (s9 < 0 ∨ t9 < s9 ∨ σ 0 0 < t9) ∧ (σ 8 0 = 24) ∧ r = some (vI 0) ∧ MI g (su σ 30 0 3) h') ∨ (¬ (¬ (0 ≤ c9 ∧ c9 < σ 2 0)) ∧ ¬ (s9 < 0 ∨ t9 < s9 ∨ σ 0 0 < t9) ∧ ¬ (σ 8 0 = 24) ∧ r = some (vI (σ 8 0)) ∧ MI g (su (su (su (su (su (su σ 30 0 0) 9 (σ 8 0) c9) 10 (σ 8 0) s9) 11 (σ 8 0) t9) 12 (σ 8 0) 101) 8 0 (σ 8 0 + 1)) h')) := by
  refine ct_of rfl rfl ?_
  intro p e s m args below meth c F hr hnm
  have F : Fx p s m args meth c RX9 cX9_addEntry 4 G N0 (cA h s.heap.size) := F
  obtain ⟨v0, v1, v2, v8, v16, v24, v29, vC, vE, vL, vK, vT⟩ := id hV
  show Z _ _ _ _ _ _ _ _ _ _ _ _ _ _ _ _ _ _ _ [(0, vR (g 0)), (1, vI c9), (2, vI s9), (3, vI t9)] []
  refine z_aload_n F dX9_addEntry_0 rfl 0 rfl ?_
  refine z_aload_n F dX9_addEntry_1 rfl 0 rfl ?_
  refine z_iload_n F dX9_addEntry_2 rfl 1 rfl ?_
  refine z_callV (As := [vI c9]) (st := [vR (g 0)]) F (mX9_isNoClient l G N0 h g σ c9 hI hR (by omega) (by omega)) cvX9_120 (mI hI 0 rfl) (fun r9 h9 => by cases h9; rfl) rfl rfl ⟨Nat.le_of_ble_eq_true rfl, Nat.le_of_ble_eq_true rfl⟩ rfl ⟨Nat.le_of_ble_eq_true rfl, Nat.le_of_ble_eq_true rfl⟩ dX9_addEntry_3 ?_
  rintro _ h9 ⟨rfl, hh9⟩
  rw [hh9]
  clear hh9 h9
  generalize ex1 : (if 0 ≤ c9 ∧ c9 < σ 2 0 then (0 : Int) else 1) = x1
  show Z _ _ _ _ _ _ _ _ _ _ _ _ _ _ _ _ _ _ _ _ [vI x1, vR (g 0)]
  refine z_if_eq (tgt := 13) F dX9_addEntry_6 (by decide) (by omega) (fun c6 => ?_) (fun c6 => ?_)
  · refine z_iload_n F dX9_addEntry_13 rfl 2 rfl ?_
    refine z_if_lt (tgt := 30) F dX9_addEntry_14 (by decide) (by omega) (fun c14 => ?_) (fun c14 => ?_)
    · refine z_iconst F dX9_addEntry_30 ?_
      refine z_goto (tgt := 48) F dX9_addEntry_31 (by decide) ?_
      refine z_callV (As := [vI 2]) (st := []) F (mX9_fails l G N0 h g σ 2 hI hR (by decide)) cvX9_107 (mI hI 0 rfl) (fun r9 h9 => by cases h9; rfl) rfl rfl ⟨Nat.le_of_ble_eq_true rfl, Nat.le_of_ble_eq_true rfl⟩ rfl ⟨Nat.le_of_ble_eq_true rfl, Nat.le_of_ble_eq_true rfl⟩ dX9_addEntry_48 ?_
      rintro _ h2 ⟨rfl, Ih2⟩
      rw [if_pos (by decide)]
      show Z _ _ _ _ _ _ _ _ _ _ _ _ _ _ _ _ _ _ _ _ [vI 1]
      refine z_if_eq (tgt := 58) F dX9_addEntry_51 (by decide) (by decide) (fun c51 => ?_) (fun c51 => ?_)
      · exact absurd c51 (by decide)
      · refine z_iconst F dX9_addEntry_54 ?_
        refine z_goto (tgt := 67) F dX9_addEntry_55 (by decide) ?_
        exact z_iret (nf_i _) F hr (Nat.le_of_ble_eq_true rfl) (Nat.le_of_ble_eq_true rfl) dX9_addEntry_67 (Or.inr (Or.inl ⟨by omega, by omega, rfl, Ih2⟩))
    · refine z_iload_n F dX9_addEntry_17 rfl 3 rfl ?_
      refine z_iload_n F dX9_addEntry_18 rfl 2 rfl ?_
      refine z_icmp_lt (tgt := 30) F dX9_addEntry_19 (by decide) (by omega) (by omega) (fun c19 => ?_) (fun c19 => ?_)
      · refine z_iconst F dX9_addEntry_30 ?_
        refine z_goto (tgt := 48) F dX9_addEntry_31 (by decide) ?_
        refine z_callV (As := [vI 2]) (st := []) F (mX9_fails l G N0 h g σ 2 hI hR (by decide)) cvX9_107 (mI hI 0 rfl) (fun r9 h9 => by cases h9; rfl) rfl rfl ⟨Nat.le_of_ble_eq_true rfl, Nat.le_of_ble_eq_true rfl⟩ rfl ⟨Nat.le_of_ble_eq_true rfl, Nat.le_of_ble_eq_true rfl⟩ dX9_addEntry_48 ?_
        rintro _ h3 ⟨rfl, Ih3⟩
        rw [if_pos (by decide)]
        show Z _ _ _ _ _ _ _ _ _ _ _ _ _ _ _ _ _ _ _ _ [vI 1]
        refine z_if_eq (tgt := 58) F dX9_addEntry_51 (by decide) (by decide) (fun c51 => ?_) (fun c51 => ?_)
        · exact absurd c51 (by decide)
        · refine z_iconst F dX9_addEntry_54 ?_
          refine z_goto (tgt := 67) F dX9_addEntry_55 (by decide) ?_
          exact z_iret (nf_i _) F hr (Nat.le_of_ble_eq_true rfl) (Nat.le_of_ble_eq_true rfl) dX9_addEntry_67 (Or.inr (Or.inl ⟨by omega, by omega, rfl, Ih3⟩))
      · refine z_iload_n F dX9_addEntry_22 rfl 3 rfl ?_
        refine z_aload_n F dX9_addEntry_23 rfl 0 rfl ?_
        refine z_get (v := vI (σ 0 0)) F (mI hI 0 rfl) fX9_100 rfl dX9_addEntry_24 ?_
        refine z_icmp_le (tgt := 34) F dX9_addEntry_27 (by decide) (by omega) (hR 0 0) (fun c27 => ?_) (fun c27 => ?_)
        · refine z_aload_n F dX9_addEntry_34 rfl 0 rfl ?_
          refine z_get (v := vI (σ 8 0)) F (mI hI 0 rfl) fX9_97 rfl dX9_addEntry_35 ?_
          refine z_bipush F dX9_addEntry_38 (by decide) ?_
          refine z_icmp_ne (tgt := 47) F dX9_addEntry_40 (by decide) (hR 8 0) (by decide) (fun c40 => ?_) (fun c40 => ?_)
          · refine z_iconst F dX9_addEntry_47 ?_
            refine z_callV (As := [vI 0]) (st := []) F (mX9_fails l G N0 h g σ 0 hI hR (by decide)) cvX9_107 (mI hI 0 rfl) (fun r9 h9 => by cases h9; rfl) rfl rfl ⟨Nat.le_of_ble_eq_true rfl, Nat.le_of_ble_eq_true rfl⟩ rfl ⟨Nat.le_of_ble_eq_true rfl, Nat.le_of_ble_eq_true rfl⟩ dX9_addEntry_48 ?_
            rintro _ h4 ⟨rfl, Ih4⟩
            rw [if_neg (by decide)]
            show Z _ _ _ _ _ _ _ _ _ _ _ _ _ _ _ _ _ _ _ _ [vI 0]
            refine z_if_eq (tgt := 58) F dX9_addEntry_51 (by decide) (by decide) (fun c51 => ?_) (fun c51 => ?_)
            · refine z_aload_n F dX9_addEntry_58 rfl 0 rfl ?_
              refine z_iload_n F dX9_addEntry_59 rfl 1 rfl ?_
              refine z_iload_n F dX9_addEntry_60 rfl 2 rfl ?_
              refine z_iload_n F dX9_addEntry_61 rfl 3 rfl ?_
              refine z_bipush F dX9_addEntry_62 (by decide) ?_
              refine z_callV (As := [vI c9, vI s9, vI t9, vI 101]) (st := []) F (mX9_makes l G N0 h4 g (su σ 30 0 0) c9 s9 t9 101 Ih4 (rg_su hR (by decide)) (show 0 ≤ σ 8 0 ∧ σ 8 0 < 24 from by omega) (by omega) (by omega) (by omega) (by omega)) cvX9_127 (mI Ih4 0 rfl) (fun r9 h9 => by cases h9; rfl) rfl rfl ⟨Nat.le_of_ble_eq_true rfl, Nat.le_of_ble_eq_true rfl⟩ rfl ⟨Nat.le_of_ble_eq_true rfl, Nat.le_of_ble_eq_true rfl⟩ dX9_addEntry_64 ?_
              rintro _ h5 ⟨rfl, Ih5⟩
              show Z _ _ _ _ _ _ _ _ _ _ _ _ _ _ _ _ _ _ _ _ [vI (σ 8 0)]
              exact z_iret (nf_i _) F hr (Nat.le_of_ble_eq_true rfl) (Nat.le_of_ble_eq_true rfl) dX9_addEntry_67 (Or.inr (Or.inr (Or.inr (⟨by omega, by omega, by omega, rfl, Ih5⟩))))
            · exact absurd c51 (by decide)
          · refine z_iconst F dX9_addEntry_43 ?_
            refine z_goto (tgt := 48) F dX9_addEntry_44 (by decide) ?_
            refine z_callV (As := [vI 3]) (st := []) F (mX9_fails l G N0 h g σ 3 hI hR (by decide)) cvX9_107 (mI hI 0 rfl) (fun r9 h9 => by cases h9; rfl) rfl rfl ⟨Nat.le_of_ble_eq_true rfl, Nat.le_of_ble_eq_true rfl⟩ rfl ⟨Nat.le_of_ble_eq_true rfl, Nat.le_of_ble_eq_true rfl⟩ dX9_addEntry_48 ?_
            rintro _ h6 ⟨rfl, Ih6⟩
            rw [if_pos (by decide)]
            show Z _ _ _ _ _ _ _ _ _ _ _ _ _ _ _ _ _ _ _ _ [vI 1]
            refine z_if_eq (tgt := 58) F dX9_addEntry_51 (by decide) (by decide) (fun c51 => ?_) (fun c51 => ?_)
            · exact absurd c51 (by decide)
            · refine z_iconst F dX9_addEntry_54 ?_
              refine z_goto (tgt := 67) F dX9_addEntry_55 (by decide) ?_
              exact z_iret (nf_i _) F hr (Nat.le_of_ble_eq_true rfl) (Nat.le_of_ble_eq_true rfl) dX9_addEntry_67 (Or.inr (Or.inr (Or.inl ⟨by omega, by omega, by omega, rfl, Ih6⟩)))
        · refine z_iconst F dX9_addEntry_30 ?_
          refine z_goto (tgt := 48) F dX9_addEntry_31 (by decide) ?_
          refine z_callV (As := [vI 2]) (st := []) F (mX9_fails l G N0 h g σ 2 hI hR (by decide)) cvX9_107 (mI hI 0 rfl) (fun r9 h9 => by cases h9; rfl) rfl rfl ⟨Nat.le_of_ble_eq_true rfl, Nat.le_of_ble_eq_true rfl⟩ rfl ⟨Nat.le_of_ble_eq_true rfl, Nat.le_of_ble_eq_true rfl⟩ dX9_addEntry_48 ?_
          rintro _ h7 ⟨rfl, Ih7⟩
          rw [if_pos (by decide)]
          show Z _ _ _ _ _ _ _ _ _ _ _ _ _ _ _ _ _ _ _ _ [vI 1]
          refine z_if_eq (tgt := 58) F dX9_addEntry_51 (by decide) (by decide) (fun c51 => ?_) (fun c51 => ?_)
          · exact absurd c51 (by decide)
          · refine z_iconst F dX9_addEntry_54 ?_
            refine z_goto (tgt := 67) F dX9_addEntry_55 (by decide) ?_
            exact z_iret (nf_i _) F hr (Nat.le_of_ble_eq_true rfl) (Nat.le_of_ble_eq_true rfl) dX9_addEntry_67 (Or.inr (Or.inl ⟨by omega, by omega, rfl, Ih7⟩))
  · refine z_iconst F dX9_addEntry_9 ?_
    refine z_goto (tgt := 48) F dX9_addEntry_10 (by decide) ?_
    refine z_callV (As := [vI 1]) (st := []) F (mX9_fails l G N0 h g σ 1 hI hR (by decide)) cvX9_107 (mI hI 0 rfl) (fun r9 h9 => by cases h9; rfl) rfl rfl ⟨Nat.le_of_ble_eq_true rfl, Nat.le_of_ble_eq_true rfl⟩ rfl ⟨Nat.le_of_ble_eq_true rfl, Nat.le_of_ble_eq_true rfl⟩ dX9_addEntry_48 ?_
    rintro _ h8 ⟨rfl, Ih8⟩
    rw [if_pos (by decide)]
    show Z _ _ _ _ _ _ _ _ _ _ _ _ _ _ _ _ _ _ _ _ [vI 1]
    refine z_if_eq (tgt := 58) F dX9_addEntry_51 (by decide) (by decide) (fun c51 => ?_) (fun c51 => ?_)
    · exact absurd c51 (by decide)
    · refine z_iconst F dX9_addEntry_54 ?_
      refine z_goto (tgt := 67) F dX9_addEntry_55 (by decide) ?_
      exact z_iret (nf_i _) F hr (Nat.le_of_ble_eq_true rfl) (Nat.le_of_ble_eq_true rfl) dX9_addEntry_67 (Or.inl ⟨by omega, rfl, Ih8⟩)
set_option maxRecDepth 100000 in
set_option maxHeartbeats 4000000 in
theorem mX9_isOpen (l : Launch) (G : GG) (N0 : Nat) (h : Hp) (g : Nat → Nat) (σ : Sg) (e9 : Int) (hI : MI g σ h) (hR : RG σ) (he : 0 ≤ e9 ∧ e9 < 24) : Ct l G N0 yX9_isOpen (Cond.code yX9_isOpen cX9_isOpen 2 (some FieldType.boolean) :: LW) ({ frames := 0, cells := 0, slots := 0, locals := 0 }) [vR (g 0), vI e9] h (fun r h' => r = some (vI (if σ 12 e9 = 114 ∨ σ 12 e9 = 101 then 1 else 0)) ∧ h' = h) := by
  refine ct_of rfl rfl ?_
  intro p e s m args below meth c F hr hnm
  have F : Fx p s m args meth c RX9 cX9_isOpen 2 G N0 (cA h s.heap.size) := F
  show Z _ _ _ _ _ _ _ _ _ _ _ _ _ _ _ _ _ _ _ [(0, vR (g 0)), (1, vI e9)] []
  refine z_aload_n F dX9_isOpen_0 rfl 0 rfl ?_
  refine z_get (v := vR (g 12)) F (mI hI 0 rfl) fX9_39 rfl dX9_isOpen_1 ?_
  refine z_iload_n F dX9_isOpen_4 rfl 1 rfl ?_
  refine z_caload (N := 24) (f := fun j => σ 12 j) F (mI hI 12 rfl) (by omega) (by omega) (by omega) dX9_isOpen_5 ?_
  refine z_bipush F dX9_isOpen_6 (by decide) ?_
  refine z_icmp_eq (tgt := 22) F dX9_isOpen_8 (by decide) (hR 12 e9) (by decide) (fun c8 => ?_) (fun c8 => ?_)
  · refine z_iconst F dX9_isOpen_22 ?_
    refine z_goto (tgt := 27) F dX9_isOpen_23 (by decide) ?_
    exact z_iret (nf_z (by omega)) F hr (Nat.le_of_ble_eq_true rfl) (Nat.le_of_ble_eq_true rfl) dX9_isOpen_27 (⟨rI (by omega), rfl⟩)
  · refine z_aload_n F dX9_isOpen_11 rfl 0 rfl ?_
    refine z_get (v := vR (g 12)) F (mI hI 0 rfl) fX9_39 rfl dX9_isOpen_12 ?_
    refine z_iload_n F dX9_isOpen_15 rfl 1 rfl ?_
    refine z_caload (N := 24) (f := fun j => σ 12 j) F (mI hI 12 rfl) (by omega) (by omega) (by omega) dX9_isOpen_16 ?_
    refine z_bipush F dX9_isOpen_17 (by decide) ?_
    refine z_icmp_ne (tgt := 26) F dX9_isOpen_19 (by decide) (hR 12 e9) (by decide) (fun c19 => ?_) (fun c19 => ?_)
    · refine z_iconst F dX9_isOpen_26 ?_
      exact z_iret (nf_z (by omega)) F hr (Nat.le_of_ble_eq_true rfl) (Nat.le_of_ble_eq_true rfl) dX9_isOpen_27 (⟨rI (by omega), rfl⟩)
    · refine z_iconst F dX9_isOpen_22 ?_
      refine z_goto (tgt := 27) F dX9_isOpen_23 (by decide) ?_
      exact z_iret (nf_z (by omega)) F hr (Nat.le_of_ble_eq_true rfl) (Nat.le_of_ble_eq_true rfl) dX9_isOpen_27 (⟨rI (by omega), rfl⟩)
set_option maxRecDepth 100000 in
set_option maxHeartbeats 4000000 in
theorem mX9_setStart (l : Launch) (G : GG) (N0 : Nat) (h : Hp) (g : Nat → Nat) (σ : Sg) (e9 m9 : Int) (hI : MI g σ h) (hR : RG σ) (hV : MV σ) (r_e9 : -2147483648 ≤ e9 ∧ e9 < 2147483648) (r_m9 : -2147483648 ≤ m9 ∧ m9 < 2147483648) : Ct l G N0 yX9_setStart (Cond.code yX9_setStart cX9_setStart 4 (some FieldType.int) :: LW) ({ frames := 2, cells := 0, slots := 0, locals := 70 }) [vR (g 0), vI e9, vI m9] h (fun r h' => ((¬ (0 ≤ e9 ∧ e9 < σ 8 0)) ∧ r = some (vI 0) ∧ MI g (su σ 30 0 1) h') ∨ (¬ (¬ (0 ≤ e9 ∧ e9 < σ 8 0)) ∧ (¬ (σ 12 e9 = 114 ∨ σ 12 e9 = 101)) ∧ r = some (vI 0) ∧ MI g (su σ 30 0 2) h') ∨ (¬ (¬ (0 ≤ e9 ∧ e9 < σ 8 0)) ∧ ¬ (¬ (σ 12 e9 = 114 ∨ σ 12 e9 = 101)) ∧ (¬ (0 ≤ m9 ∧ m9 ≤ enA σ e9)) ∧ r = some (vI 0) ∧ MI g (su σ 30 0 3) h') ∨ (¬ (¬ (0 ≤ e9 ∧ e9 < σ 8 0)) ∧ ¬ (¬ (σ 12 e9 = 114 ∨ σ 12 e9 = 101)) ∧ ¬ (¬ (0 ≤ m9 ∧ m9 ≤ enA σ e9)) ∧ r = some (vI (σ 10 e9)) ∧ MI g (su (su σ 30 0 0) 10 e9 m9) h')) := by
  refine ct_of rfl rfl ?_
  intro p e s m args below meth c F hr hnm
  have F : Fx p s m args meth c RX9 cX9_setStart 4 G N0 (cA h s.heap.size) := F
  obtain ⟨v0, v1, v2, v8, v16, v24, v29, vC, vE, vL, vK, vT⟩ := id hV
  have E_e9 := vE e9
  show Z _ _ _ _ _ _ _ _ _ _ _ _ _ _ _ _ _ _ _ [(0, vR (g 0)), (1, vI e9), (2, vI m9)] []
  refine z_aload_n F dX9_setStart_0 rfl 0 rfl ?_
  refine z_aload_n F dX9_setStart_1 rfl 0 rfl ?_
  refine z_iload_n F dX9_setStart_2 rfl 1 rfl ?_
  refine z_callV (As := [vI e9]) (st := [vR (g 0)]) F (mX9_isNone l G N0 h g σ e9 hI hR (by omega) (by omega)) cvX9_131 (mI hI 0 rfl) (fun r9 h9 => by cases h9; rfl) rfl rfl ⟨Nat.le_of_ble_eq_true rfl, Nat.le_of_ble_eq_true rfl⟩ rfl ⟨Nat.le_of_ble_eq_true rfl, Nat.le_of_ble_eq_true rfl⟩ dX9_setStart_3 ?_
  rintro _ h9 ⟨rfl, hh9⟩
  rw [hh9]
  clear hh9 h9
  generalize ex1 : (if 0 ≤ e9 ∧ e9 < σ 8 0 then (0 : Int) else 1) = x1
  show Z _ _ _ _ _ _ _ _ _ _ _ _ _ _ _ _ _ _ _ _ [vI x1, vR (g 0)]
  refine z_if_eq (tgt := 13) F dX9_setStart_6 (by decide) (by omega) (fun c6 => ?_) (fun c6 => ?_)
  · refine z_aload_n F dX9_setStart_13 rfl 0 rfl ?_
    refine z_iload_n F dX9_setStart_14 rfl 1 rfl ?_
    refine z_callV (As := [vI e9]) (st := [vR (g 0)]) F (mX9_isOpen l G N0 h g σ e9 hI hR (by omega)) cvX9_134 (mI hI 0 rfl) (fun r9 h9 => by cases h9; rfl) rfl rfl ⟨Nat.le_of_ble_eq_true rfl, Nat.le_of_ble_eq_true rfl⟩ rfl ⟨Nat.le_of_ble_eq_true rfl, Nat.le_of_ble_eq_true rfl⟩ dX9_setStart_15 ?_
    rintro _ h9 ⟨rfl, hh9⟩
    rw [hh9]
    clear hh9 h9
    generalize ex2 : (if σ 12 e9 = 114 ∨ σ 12 e9 = 101 then (1 : Int) else 0) = x2
    show Z _ _ _ _ _ _ _ _ _ _ _ _ _ _ _ _ _ _ _ _ [vI x2, vR (g 0)]
    refine z_if_ne (tgt := 25) F dX9_setStart_18 (by decide) (by omega) (fun c18 => ?_) (fun c18 => ?_)
    · refine z_iload_n F dX9_setStart_25 rfl 2 rfl ?_
      refine z_iconst F dX9_setStart_26 ?_
      refine z_aload_n F dX9_setStart_27 rfl 0 rfl ?_
      refine z_iload_n F dX9_setStart_28 rfl 1 rfl ?_
      refine z_callV (As := [vI e9]) (st := [vI 0, vI m9, vR (g 0)]) F (mX9_endsAt l G N0 h g σ e9 hI hR (by omega)) cvX9_137 (mI hI 0 rfl) (fun r9 h9 => by cases h9; rfl) rfl rfl ⟨Nat.le_of_ble_eq_true rfl, Nat.le_of_ble_eq_true rfl⟩ rfl ⟨Nat.le_of_ble_eq_true rfl, Nat.le_of_ble_eq_true rfl⟩ dX9_setStart_29 ?_
      rintro _ h9 ⟨rfl, hh9⟩
      rw [hh9]
      clear hh9 h9
      generalize ex3 : enA σ e9 = x3
      have fx3 : (if σ 12 e9 = 114 then σ 0 0 else σ 11 e9) = x3 := ex3
      show Z _ _ _ _ _ _ _ _ _ _ _ _ _ _ _ _ _ _ _ _ [vI x3, vI 0, vI m9, vR (g 0)]
      refine z_callS (As := [vI m9, vI 0, vI x3]) (st := [vR (g 0)]) F (mX9_in l G N0 h m9 0 x3 (by omega) (by decide) (by omega)) csX9_93 rfl rfl ⟨Nat.le_of_ble_eq_true rfl, Nat.le_of_ble_eq_true rfl⟩ rfl ⟨Nat.le_of_ble_eq_true rfl, Nat.le_of_ble_eq_true rfl⟩ dX9_setStart_32 ?_
      rintro _ h9 ⟨rfl, hh9⟩
      rw [hh9]
      clear hh9 h9
      generalize ex4 : (if 0 ≤ m9 ∧ m9 ≤ x3 then (1 : Int) else 0) = x4
      show Z _ _ _ _ _ _ _ _ _ _ _ _ _ _ _ _ _ _ _ _ [vI x4, vR (g 0)]
      refine z_if_eq (tgt := 42) F dX9_setStart_35 (by decide) (by omega) (fun c35 => ?_) (fun c35 => ?_)
      · refine z_iconst F dX9_setStart_42 ?_
        refine z_callV (As := [vI 3]) (st := []) F (mX9_fails l G N0 h g σ 3 hI hR (by decide)) cvX9_107 (mI hI 0 rfl) (fun r9 h9 => by cases h9; rfl) rfl rfl ⟨Nat.le_of_ble_eq_true rfl, Nat.le_of_ble_eq_true rfl⟩ rfl ⟨Nat.le_of_ble_eq_true rfl, Nat.le_of_ble_eq_true rfl⟩ dX9_setStart_43 ?_
        rintro _ h5 ⟨rfl, Ih5⟩
        rw [if_pos (by decide)]
        show Z _ _ _ _ _ _ _ _ _ _ _ _ _ _ _ _ _ _ _ _ [vI 1]
        refine z_if_eq (tgt := 51) F dX9_setStart_46 (by decide) (by decide) (fun c46 => ?_) (fun c46 => ?_)
        · exact absurd c46 (by decide)
        · refine z_iconst F dX9_setStart_49 ?_
          exact z_iret (nf_i _) F hr (Nat.le_of_ble_eq_true rfl) (Nat.le_of_ble_eq_true rfl) dX9_setStart_50 (Or.inr (Or.inr (Or.inl ⟨by omega, by omega, by omega, rfl, Ih5⟩)))
      · refine z_iconst F dX9_setStart_38 ?_
        refine z_goto (tgt := 43) F dX9_setStart_39 (by decide) ?_
        refine z_callV (As := [vI 0]) (st := []) F (mX9_fails l G N0 h g σ 0 hI hR (by decide)) cvX9_107 (mI hI 0 rfl) (fun r9 h9 => by cases h9; rfl) rfl rfl ⟨Nat.le_of_ble_eq_true rfl, Nat.le_of_ble_eq_true rfl⟩ rfl ⟨Nat.le_of_ble_eq_true rfl, Nat.le_of_ble_eq_true rfl⟩ dX9_setStart_43 ?_
        rintro _ h6 ⟨rfl, Ih6⟩
        rw [if_neg (by decide)]
        show Z _ _ _ _ _ _ _ _ _ _ _ _ _ _ _ _ _ _ _ _ [vI 0]
        refine z_if_eq (tgt := 51) F dX9_setStart_46 (by decide) (by decide) (fun c46 => ?_) (fun c46 => ?_)
        · refine z_aload_n F dX9_setStart_51 rfl 0 rfl ?_
          refine z_get (v := vR (g 10)) F (mI Ih6 0 rfl) fX9_33 rfl dX9_setStart_52 ?_
          refine z_iload_n F dX9_setStart_55 rfl 1 rfl ?_
          refine z_iaload (N := 24) (f := fun j => σ 10 j) F (mI Ih6 10 rfl) (by omega) (by omega) (by omega) dX9_setStart_56 ?_
          refine z_istore_n (lv' := [(3, vI (σ 10 e9)), (0, vR (g 0)), (1, vI e9), (2, vI m9)]) F dX9_setStart_57 rfl (by decide) rfl ?_
          refine z_aload_n F dX9_setStart_58 rfl 1 rfl ?_
          refine z_get (v := vR (g 10)) F (mI Ih6 0 rfl) fX9_33 rfl dX9_setStart_59 ?_
          refine z_iload_n F dX9_setStart_62 rfl 2 rfl ?_
          refine z_iload_n F dX9_setStart_63 rfl 3 rfl ?_
          obtain ⟨h7, eh7, Ih7⟩ : ∃ z : Hp, hu h6 (g 10) (eA 0 24 (fun j => vI (if j = e9 then m9 else σ 10 j))) = z ∧ MI g (su (su σ 30 0 0) 10 e9 m9) z := ⟨_, rfl, mP Ih6 10 rfl rfl e9 m9⟩
          refine z_iastore (N := 24) (f := fun j => σ 10 j) (h' := h7) F (mI Ih6 10 rfl) (by omega) (by omega) (by omega) dX9_setStart_64 eh7 ?_
          refine z_iload_n F dX9_setStart_65 rfl 0 rfl ?_
          exact z_iret (nf_i _) F hr (Nat.le_of_ble_eq_true rfl) (Nat.le_of_ble_eq_true rfl) dX9_setStart_66 (Or.inr (Or.inr (Or.inr (⟨by omega, by omega, by omega, rfl, Ih7⟩))))
        · exact absurd c46 (by decide)
    · refine z_iconst F dX9_setStart_21 ?_
      refine z_goto (tgt := 43) F dX9_setStart_22 (by decide) ?_
      refine z_callV (As := [vI 2]) (st := []) F (mX9_fails l G N0 h g σ 2 hI hR (by decide)) cvX9_107 (mI hI 0 rfl) (fun r9 h9 => by cases h9; rfl) rfl rfl ⟨Nat.le_of_ble_eq_true rfl, Nat.le_of_ble_eq_true rfl⟩ rfl ⟨Nat.le_of_ble_eq_true rfl, Nat.le_of_ble_eq_true rfl⟩ dX9_setStart_43 ?_
      rintro _ h8 ⟨rfl, Ih8⟩
      rw [if_pos (by decide)]
      show Z _ _ _ _ _ _ _ _ _ _ _ _ _ _ _ _ _ _ _ _ [vI 1]
      refine z_if_eq (tgt := 51) F dX9_setStart_46 (by decide) (by decide) (fun c46 => ?_) (fun c46 => ?_)
      · exact absurd c46 (by decide)
      · refine z_iconst F dX9_setStart_49 ?_
        exact z_iret (nf_i _) F hr (Nat.le_of_ble_eq_true rfl) (Nat.le_of_ble_eq_true rfl) dX9_setStart_50 (Or.inr (Or.inl ⟨by omega, by omega, rfl, Ih8⟩))
  · refine z_iconst F dX9_setStart_9 ?_
    refine z_goto (tgt := 43) F dX9_setStart_10 (by decide) ?_
    refine z_callV (As := [vI 1]) (st := []) F (mX9_fails l G N0 h g σ 1 hI hR (by decide)) cvX9_107 (mI hI 0 rfl) (fun r9 h9 => by cases h9; rfl) rfl rfl ⟨Nat.le_of_ble_eq_true rfl, Nat.le_of_ble_eq_true rfl⟩ rfl ⟨Nat.le_of_ble_eq_true rfl, Nat.le_of_ble_eq_true rfl⟩ dX9_setStart_43 ?_
    rintro _ h9 ⟨rfl, Ih9⟩
    rw [if_pos (by decide)]
    show Z _ _ _ _ _ _ _ _ _ _ _ _ _ _ _ _ _ _ _ _ [vI 1]
    refine z_if_eq (tgt := 51) F dX9_setStart_46 (by decide) (by decide) (fun c46 => ?_) (fun c46 => ?_)
    · exact absurd c46 (by decide)
    · refine z_iconst F dX9_setStart_49 ?_
      exact z_iret (nf_i _) F hr (Nat.le_of_ble_eq_true rfl) (Nat.le_of_ble_eq_true rfl) dX9_setStart_50 (Or.inl ⟨by omega, rfl, Ih9⟩)
set_option maxRecDepth 100000 in
set_option maxHeartbeats 4000000 in
theorem mX9_setEnd (l : Launch) (G : GG) (N0 : Nat) (h : Hp) (g : Nat → Nat) (σ : Sg) (e9 m9 : Int) (hI : MI g σ h) (hR : RG σ) (hV : MV σ) (r_e9 : -2147483648 ≤ e9 ∧ e9 < 2147483648) (r_m9 : -2147483648 ≤ m9 ∧ m9 < 2147483648) : Ct l G N0 yX9_setEnd (Cond.code yX9_setEnd cX9_setEnd 4 (some FieldType.int) :: LW) ({ frames := 2, cells := 0, slots := 0, locals := 70 }) [vR (g 0), vI e9, vI m9] h (fun r h' => ((¬ (0 ≤ e9 ∧ e9 < σ 8 0)) ∧ r = some (vI 0) ∧ MI g (su σ 30 0 1) h') ∨ (¬ (¬ (0 ≤ e9 ∧ e9 < σ 8 0)) ∧ (σ 12 e9 ≠ 101) ∧ r = some (vI 0) ∧ MI g (su σ 30 0 2) h') ∨ (¬ (¬ (0 ≤ e9 ∧ e9 < σ 8 0)) ∧ ¬ (σ 12 e9 ≠ 101) ∧ (¬ (σ 10 e9 ≤ m9 ∧ m9 ≤ σ 0 0)) ∧ r = some (vI 0) ∧ MI g (su σ 30 0 3) h') ∨ (¬ (¬ (0 ≤ e9 ∧ e9 < σ 8 0)) ∧ ¬ (σ 12 e9 ≠ 101) ∧ ¬ (¬ (σ 10 e9 ≤ m9 ∧ m9 ≤ σ 0 0)) ∧ r = some (vI (σ 11 e9)) ∧ MI g (su (su σ 30 0 0) 11 e9 m9) h')) := by
  refine ct_of rfl rfl ?_
  intro p e s m args below meth c F hr hnm
  have F : Fx p s m args meth c RX9 cX9_setEnd 4 G N0 (cA h s.heap.size) := F
  obtain ⟨v0, v1, v2, v8, v16, v24, v29, vC, vE, vL, vK, vT⟩ := id hV
  have E_e9 := vE e9
  show Z _ _ _ _ _ _ _ _ _ _ _ _ _ _ _ _ _ _ _ [(0, vR (g 0)), (1, vI e9), (2, vI m9)] []
  refine z_aload_n F dX9_setEnd_0 rfl 0 rfl ?_
  refine z_aload_n F dX9_setEnd_1 rfl 0 rfl ?_
  refine z_iload_n F dX9_setEnd_2 rfl 1 rfl ?_
  refine z_callV (As := [vI e9]) (st := [vR (g 0)]) F (mX9_isNone l G N0 h g σ e9 hI hR (by omega) (by omega)) cvX9_131 (mI hI 0 rfl) (fun r9 h9 => by cases h9; rfl) rfl rfl ⟨Nat.le_of_ble_eq_true rfl, Nat.le_of_ble_eq_true rfl⟩ rfl ⟨Nat.le_of_ble_eq_true rfl, Nat.le_of_ble_eq_true rfl⟩ dX9_setEnd_3 ?_
  rintro _ h9 ⟨rfl, hh9⟩
  rw [hh9]
  clear hh9 h9
  generalize ex1 : (if 0 ≤ e9 ∧ e9 < σ 8 0 then (0 : Int) else 1) = x1
  show Z _ _ _ _ _ _ _ _ _ _ _ _ _ _ _ _ _ _ _ _ [vI x1, vR (g 0)]
  refine z_if_eq (tgt := 13) F dX9_setEnd_6 (by decide) (by omega) (fun c6 => ?_) (fun c6 => ?_)
  · refine z_aload_n F dX9_setEnd_13 rfl 0 rfl ?_
    refine z_get (v := vR (g 12)) F (mI hI 0 rfl) fX9_39 rfl dX9_setEnd_14 ?_
    refine z_iload_n F dX9_setEnd_17 rfl 1 rfl ?_
    refine z_caload (N := 24) (f := fun j => σ 12 j) F (mI hI 12 rfl) (by omega) (by omega) (by omega) dX9_setEnd_18 ?_
    refine z_bipush F dX9_setEnd_19 (by decide) ?_
    refine z_icmp_eq (tgt := 28) F dX9_setEnd_21 (by decide) (hR 12 e9) (by decide) (fun c21 => ?_) (fun c21 => ?_)
    · refine z_iload_n F dX9_setEnd_28 rfl 2 rfl ?_
      refine z_aload_n F dX9_setEnd_29 rfl 0 rfl ?_
      refine z_get (v := vR (g 10)) F (mI hI 0 rfl) fX9_33 rfl dX9_setEnd_30 ?_
      refine z_iload_n F dX9_setEnd_33 rfl 1 rfl ?_
      refine z_iaload (N := 24) (f := fun j => σ 10 j) F (mI hI 10 rfl) (by omega) (by omega) (by omega) dX9_setEnd_34 ?_
      refine z_aload_n F dX9_setEnd_35 rfl 0 rfl ?_
      refine z_get (v := vI (σ 0 0)) F (mI hI 0 rfl) fX9_100 rfl dX9_setEnd_36 ?_
      refine z_callS (As := [vI m9, vI (σ 10 e9), vI (σ 0 0)]) (st := [vR (g 0)]) F (mX9_in l G N0 h m9 (σ 10 e9) (σ 0 0) (by omega) (hR 10 e9) (hR 0 0)) csX9_93 rfl rfl ⟨Nat.le_of_ble_eq_true rfl, Nat.le_of_ble_eq_true rfl⟩ rfl ⟨Nat.le_of_ble_eq_true rfl, Nat.le_of_ble_eq_true rfl⟩ dX9_setEnd_39 ?_
      rintro _ h9 ⟨rfl, hh9⟩
      rw [hh9]
      clear hh9 h9
      generalize ex2 : (if σ 10 e9 ≤ m9 ∧ m9 ≤ σ 0 0 then (1 : Int) else 0) = x2
      show Z _ _ _ _ _ _ _ _ _ _ _ _ _ _ _ _ _ _ _ _ [vI x2, vR (g 0)]
      refine z_if_eq (tgt := 49) F dX9_setEnd_42 (by decide) (by omega) (fun c42 => ?_) (fun c42 => ?_)
      · refine z_iconst F dX9_setEnd_49 ?_
        refine z_callV (As := [vI 3]) (st := []) F (mX9_fails l G N0 h g σ 3 hI hR (by decide)) cvX9_107 (mI hI 0 rfl) (fun r9 h9 => by cases h9; rfl) rfl rfl ⟨Nat.le_of_ble_eq_true rfl, Nat.le_of_ble_eq_true rfl⟩ rfl ⟨Nat.le_of_ble_eq_true rfl, Nat.le_of_ble_eq_true rfl⟩ dX9_setEnd_50 ?_
        rintro _ h3 ⟨rfl, Ih3⟩
        rw [if_pos (by decide)]
        show Z _ _ _ _ _ _ _ _ _ _ _ _ _ _ _ _ _ _ _ _ [vI 1]
        refine z_if_eq (tgt := 58) F dX9_setEnd_53 (by decide) (by decide) (fun c53 => ?_) (fun c53 => ?_)
        · exact absurd c53 (by decide)
        · refine z_iconst F dX9_setEnd_56 ?_
          exact z_iret (nf_i _) F hr (Nat.le_of_ble_eq_true rfl) (Nat.le_of_ble_eq_true rfl) dX9_setEnd_57 (Or.inr (Or.inr (Or.inl ⟨by omega, by omega, by omega, rfl, Ih3⟩)))
      · refine z_iconst F dX9_setEnd_45 ?_
        refine z_goto (tgt := 50) F dX9_setEnd_46 (by decide) ?_
        refine z_callV (As := [vI 0]) (st := []) F (mX9_fails l G N0 h g σ 0 hI hR (by decide)) cvX9_107 (mI hI 0 rfl) (fun r9 h9 => by cases h9; rfl) rfl rfl ⟨Nat.le_of_ble_eq_true rfl, Nat.le_of_ble_eq_true rfl⟩ rfl ⟨Nat.le_of_ble_eq_true rfl, Nat.le_of_ble_eq_true rfl⟩ dX9_setEnd_50 ?_
        rintro _ h4 ⟨rfl, Ih4⟩
        rw [if_neg (by decide)]
        show Z _ _ _ _ _ _ _ _ _ _ _ _ _ _ _ _ _ _ _ _ [vI 0]
        refine z_if_eq (tgt := 58) F dX9_setEnd_53 (by decide) (by decide) (fun c53 => ?_) (fun c53 => ?_)
        · refine z_aload_n F dX9_setEnd_58 rfl 0 rfl ?_
          refine z_get (v := vR (g 11)) F (mI Ih4 0 rfl) fX9_36 rfl dX9_setEnd_59 ?_
          refine z_iload_n F dX9_setEnd_62 rfl 1 rfl ?_
          refine z_iaload (N := 24) (f := fun j => σ 11 j) F (mI Ih4 11 rfl) (by omega) (by omega) (by omega) dX9_setEnd_63 ?_
          refine z_istore_n (lv' := [(3, vI (σ 11 e9)), (0, vR (g 0)), (1, vI e9), (2, vI m9)]) F dX9_setEnd_64 rfl (by decide) rfl ?_
          refine z_aload_n F dX9_setEnd_65 rfl 1 rfl ?_
          refine z_get (v := vR (g 11)) F (mI Ih4 0 rfl) fX9_36 rfl dX9_setEnd_66 ?_
          refine z_iload_n F dX9_setEnd_69 rfl 2 rfl ?_
          refine z_iload_n F dX9_setEnd_70 rfl 3 rfl ?_
          obtain ⟨h5, eh5, Ih5⟩ : ∃ z : Hp, hu h4 (g 11) (eA 0 24 (fun j => vI (if j = e9 then m9 else σ 11 j))) = z ∧ MI g (su (su σ 30 0 0) 11 e9 m9) z := ⟨_, rfl, mP Ih4 11 rfl rfl e9 m9⟩
          refine z_iastore (N := 24) (f := fun j => σ 11 j) (h' := h5) F (mI Ih4 11 rfl) (by omega) (by omega) (by omega) dX9_setEnd_71 eh5 ?_
          refine z_iload_n F dX9_setEnd_72 rfl 0 rfl ?_
          exact z_iret (nf_i _) F hr (Nat.le_of_ble_eq_true rfl) (Nat.le_of_ble_eq_true rfl) dX9_setEnd_73 (Or.inr (Or.inr (Or.inr (⟨by omega, by omega, by omega, rfl, Ih5⟩))))
        · exact absurd c53 (by decide)
    · refine z_iconst F dX9_setEnd_24 ?_
      refine z_goto (tgt := 50) F dX9_setEnd_25 (by decide) ?_
      refine z_callV (As := [vI 2]) (st := []) F (mX9_fails l G N0 h g σ 2 hI hR (by decide)) cvX9_107 (mI hI 0 rfl) (fun r9 h9 => by cases h9; rfl) rfl rfl ⟨Nat.le_of_ble_eq_true rfl, Nat.le_of_ble_eq_true rfl⟩ rfl ⟨Nat.le_of_ble_eq_true rfl, Nat.le_of_ble_eq_true rfl⟩ dX9_setEnd_50 ?_
      rintro _ h6 ⟨rfl, Ih6⟩
      rw [if_pos (by decide)]
      show Z _ _ _ _ _ _ _ _ _ _ _ _ _ _ _ _ _ _ _ _ [vI 1]
      refine z_if_eq (tgt := 58) F dX9_setEnd_53 (by decide) (by decide) (fun c53 => ?_) (fun c53 => ?_)
      · exact absurd c53 (by decide)
      · refine z_iconst F dX9_setEnd_56 ?_
        exact z_iret (nf_i _) F hr (Nat.le_of_ble_eq_true rfl) (Nat.le_of_ble_eq_true rfl) dX9_setEnd_57 (Or.inr (Or.inl ⟨by omega, by omega, rfl, Ih6⟩))
  · refine z_iconst F dX9_setEnd_9 ?_
    refine z_goto (tgt := 50) F dX9_setEnd_10 (by decide) ?_
    refine z_callV (As := [vI 1]) (st := []) F (mX9_fails l G N0 h g σ 1 hI hR (by decide)) cvX9_107 (mI hI 0 rfl) (fun r9 h9 => by cases h9; rfl) rfl rfl ⟨Nat.le_of_ble_eq_true rfl, Nat.le_of_ble_eq_true rfl⟩ rfl ⟨Nat.le_of_ble_eq_true rfl, Nat.le_of_ble_eq_true rfl⟩ dX9_setEnd_50 ?_
    rintro _ h7 ⟨rfl, Ih7⟩
    rw [if_pos (by decide)]
    show Z _ _ _ _ _ _ _ _ _ _ _ _ _ _ _ _ _ _ _ _ [vI 1]
    refine z_if_eq (tgt := 58) F dX9_setEnd_53 (by decide) (by decide) (fun c53 => ?_) (fun c53 => ?_)
    · exact absurd c53 (by decide)
    · refine z_iconst F dX9_setEnd_56 ?_
      exact z_iret (nf_i _) F hr (Nat.le_of_ble_eq_true rfl) (Nat.le_of_ble_eq_true rfl) dX9_setEnd_57 (Or.inl ⟨by omega, rfl, Ih7⟩)
set_option maxRecDepth 100000 in
set_option maxHeartbeats 4000000 in
theorem mX9_remove (l : Launch) (G : GG) (N0 : Nat) (h : Hp) (g : Nat → Nat) (σ : Sg) (e9 : Int) (hI : MI g σ h) (hR : RG σ) (hV : MV σ) (r_e9 : -2147483648 ≤ e9 ∧ e9 < 2147483648) : Ct l G N0 yX9_remove (Cond.code yX9_remove cX9_remove 2 (some FieldType.int) :: LW) ({ frames := 2, cells := 0, slots := 0, locals := 70 }) [vR (g 0), vI e9] h (fun r h' => ((¬ (0 ≤ e9 ∧ e9 < σ 8 0)) ∧ r = some (vI 0) ∧ MI g (su σ 30 0 1) h') ∨ (¬ (¬ (0 ≤ e9 ∧ e9 < σ 8 0)) ∧ (¬ (σ 12 e9 = 114 ∨ σ 12 e9 = 101)) ∧ r = some (vI 0) ∧ MI g (su σ 30 0 2) h') ∨ (¬ (¬ (0 ≤ e9 ∧ e9 < σ 8 0)) ∧ ¬ (¬ (σ 12 e9 = 114 ∨ σ 12 e9 = 101)) ∧ r = some (vI (σ 8 0 - cst (su (su (su σ 30 0 0) 11 e9 (enA σ e9)) 12 e9 120) 120 (σ 8 0).toNat)) ∧ MI g (su (su (su σ 30 0 0) 11 e9 (enA σ e9)) 12 e9 120) h')) := by
  refine ct_of rfl rfl ?_
  intro p e s m args below meth c F hr hnm
  have F : Fx p s m args meth c RX9 cX9_remove 2 G N0 (cA h s.heap.size) := F
  obtain ⟨v0, v1, v2, v8, v16, v24, v29, vC, vE, vL, vK, vT⟩ := id hV
  have E_e9 := vE e9
  show Z _ _ _ _ _ _ _ _ _ _ _ _ _ _ _ _ _ _ _ [(0, vR (g 0)), (1, vI e9)] []
  refine z_aload_n F dX9_remove_0 rfl 0 rfl ?_
  refine z_aload_n F dX9_remove_1 rfl 0 rfl ?_
  refine z_iload_n F dX9_remove_2 rfl 1 rfl ?_
  refine z_callV (As := [vI e9]) (st := [vR (g 0)]) F (mX9_isNone l G N0 h g σ e9 hI hR (by omega) (by omega)) cvX9_131 (mI hI 0 rfl) (fun r9 h9 => by cases h9; rfl) rfl rfl ⟨Nat.le_of_ble_eq_true rfl, Nat.le_of_ble_eq_true rfl⟩ rfl ⟨Nat.le_of_ble_eq_true rfl, Nat.le_of_ble_eq_true rfl⟩ dX9_remove_3 ?_
  rintro _ h9 ⟨rfl, hh9⟩
  rw [hh9]
  clear hh9 h9
  generalize ex1 : (if 0 ≤ e9 ∧ e9 < σ 8 0 then (0 : Int) else 1) = x1
  show Z _ _ _ _ _ _ _ _ _ _ _ _ _ _ _ _ _ _ _ _ [vI x1, vR (g 0)]
  refine z_if_eq (tgt := 13) F dX9_remove_6 (by decide) (by omega) (fun c6 => ?_) (fun c6 => ?_)
  · refine z_aload_n F dX9_remove_13 rfl 0 rfl ?_
    refine z_iload_n F dX9_remove_14 rfl 1 rfl ?_
    refine z_callV (As := [vI e9]) (st := [vR (g 0)]) F (mX9_isOpen l G N0 h g σ e9 hI hR (by omega)) cvX9_134 (mI hI 0 rfl) (fun r9 h9 => by cases h9; rfl) rfl rfl ⟨Nat.le_of_ble_eq_true rfl, Nat.le_of_ble_eq_true rfl⟩ rfl ⟨Nat.le_of_ble_eq_true rfl, Nat.le_of_ble_eq_true rfl⟩ dX9_remove_15 ?_
    rintro _ h9 ⟨rfl, hh9⟩
    rw [hh9]
    clear hh9 h9
    generalize ex2 : (if σ 12 e9 = 114 ∨ σ 12 e9 = 101 then (1 : Int) else 0) = x2
    show Z _ _ _ _ _ _ _ _ _ _ _ _ _ _ _ _ _ _ _ _ [vI x2, vR (g 0)]
    refine z_if_eq (tgt := 25) F dX9_remove_18 (by decide) (by omega) (fun c18 => ?_) (fun c18 => ?_)
    · refine z_iconst F dX9_remove_25 ?_
      refine z_callV (As := [vI 2]) (st := []) F (mX9_fails l G N0 h g σ 2 hI hR (by decide)) cvX9_107 (mI hI 0 rfl) (fun r9 h9 => by cases h9; rfl) rfl rfl ⟨Nat.le_of_ble_eq_true rfl, Nat.le_of_ble_eq_true rfl⟩ rfl ⟨Nat.le_of_ble_eq_true rfl, Nat.le_of_ble_eq_true rfl⟩ dX9_remove_26 ?_
      rintro _ h3 ⟨rfl, Ih3⟩
      rw [if_pos (by decide)]
      show Z _ _ _ _ _ _ _ _ _ _ _ _ _ _ _ _ _ _ _ _ [vI 1]
      refine z_if_eq (tgt := 34) F dX9_remove_29 (by decide) (by decide) (fun c29 => ?_) (fun c29 => ?_)
      · exact absurd c29 (by decide)
      · refine z_iconst F dX9_remove_32 ?_
        exact z_iret (nf_i _) F hr (Nat.le_of_ble_eq_true rfl) (Nat.le_of_ble_eq_true rfl) dX9_remove_33 (Or.inr (Or.inl ⟨by omega, by omega, rfl, Ih3⟩))
    · refine z_iconst F dX9_remove_21 ?_
      refine z_goto (tgt := 26) F dX9_remove_22 (by decide) ?_
      refine z_callV (As := [vI 0]) (st := []) F (mX9_fails l G N0 h g σ 0 hI hR (by decide)) cvX9_107 (mI hI 0 rfl) (fun r9 h9 => by cases h9; rfl) rfl rfl ⟨Nat.le_of_ble_eq_true rfl, Nat.le_of_ble_eq_true rfl⟩ rfl ⟨Nat.le_of_ble_eq_true rfl, Nat.le_of_ble_eq_true rfl⟩ dX9_remove_26 ?_
      rintro _ h4 ⟨rfl, Ih4⟩
      rw [if_neg (by decide)]
      show Z _ _ _ _ _ _ _ _ _ _ _ _ _ _ _ _ _ _ _ _ [vI 0]
      refine z_if_eq (tgt := 34) F dX9_remove_29 (by decide) (by decide) (fun c29 => ?_) (fun c29 => ?_)
      · refine z_aload_n F dX9_remove_34 rfl 0 rfl ?_
        refine z_get (v := vR (g 11)) F (mI Ih4 0 rfl) fX9_36 rfl dX9_remove_35 ?_
        refine z_iload_n F dX9_remove_38 rfl 1 rfl ?_
        refine z_aload_n F dX9_remove_39 rfl 0 rfl ?_
        refine z_iload_n F dX9_remove_40 rfl 1 rfl ?_
        refine z_callV (As := [vI e9]) (st := [vI e9, vR (g 11)]) F (mX9_endsAt l G N0 h4 g (su σ 30 0 0) e9 Ih4 (rg_su hR (by decide)) (by omega)) cvX9_137 (mI Ih4 0 rfl) (fun r9 h9 => by cases h9; rfl) rfl rfl ⟨Nat.le_of_ble_eq_true rfl, Nat.le_of_ble_eq_true rfl⟩ rfl ⟨Nat.le_of_ble_eq_true rfl, Nat.le_of_ble_eq_true rfl⟩ dX9_remove_41 ?_
        rintro _ h9 ⟨rfl, hh9⟩
        rw [hh9]
        clear hh9 h9
        generalize ex5 : enA (su σ 30 0 0) e9 = x5
        have fx5 : (if σ 12 e9 = 114 then σ 0 0 else σ 11 e9) = x5 := ex5
        show Z _ _ _ _ _ _ _ _ _ _ _ _ _ _ _ _ _ _ _ _ [vI x5, vI e9, vR (g 11)]
        obtain ⟨h6, eh6, Ih6⟩ : ∃ z : Hp, hu h4 (g 11) (eA 0 24 (fun j => vI (if j = e9 then x5 else σ 11 j))) = z ∧ MI g (su (su σ 30 0 0) 11 e9 x5) z := ⟨_, rfl, mP Ih4 11 rfl rfl e9 x5⟩
        refine z_iastore (N := 24) (f := fun j => σ 11 j) (h' := h6) F (mI Ih4 11 rfl) (by omega) (by omega) (by omega) dX9_remove_44 eh6 ?_
        refine z_aload_n F dX9_remove_45 rfl 0 rfl ?_
        refine z_get (v := vR (g 12)) F (mI Ih6 0 rfl) fX9_39 rfl dX9_remove_46 ?_
        refine z_iload_n F dX9_remove_49 rfl 1 rfl ?_
        refine z_bipush F dX9_remove_50 (by decide) ?_
        obtain ⟨h7, eh7, Ih7⟩ : ∃ z : Hp, hu h6 (g 12) (eA 1 24 (fun j => vI (if j = e9 then 120 else σ 12 j))) = z ∧ MI g (su (su (su σ 30 0 0) 11 e9 x5) 12 e9 120) z := ⟨_, rfl, mP Ih6 12 rfl rfl e9 120⟩
        refine z_castore (N := 24) (f := fun j => σ 12 j) (h' := h7) F (mI Ih6 12 rfl) (nf_c (by omega)) (by omega) (by omega) (by omega) dX9_remove_52 eh7 ?_
        refine z_aload_n F dX9_remove_53 rfl 0 rfl ?_
        refine z_get (v := vI (σ 8 0)) F (mI Ih7 0 rfl) fX9_97 rfl dX9_remove_54 ?_
        refine z_aload_n F dX9_remove_57 rfl 0 rfl ?_
        refine z_bipush F dX9_remove_58 (by decide) ?_
        refine z_callV (As := [vI 120]) (st := [vI (σ 8 0)]) F (mX9_inState l G N0 h7 g (su (su (su σ 30 0 0) 11 e9 x5) 12 e9 120) 120 Ih7 (rg_su (rg_su (rg_su hR (by decide)) (by omega)) (by decide)) (show 0 ≤ σ 8 0 ∧ σ 8 0 ≤ 24 from by omega) (by omega)) cvX9_123 (mI Ih7 0 rfl) (fun r9 h9 => by cases h9; rfl) rfl rfl ⟨Nat.le_of_ble_eq_true rfl, Nat.le_of_ble_eq_true rfl⟩ rfl ⟨Nat.le_of_ble_eq_true rfl, Nat.le_of_ble_eq_true rfl⟩ dX9_remove_60 ?_
        rintro _ h9 ⟨rfl, hh9⟩
        rw [hh9]
        clear hh9 h9
        show Z _ _ _ _ _ _ _ _ _ _ _ _ _ _ _ _ _ _ _ _ [vI (cst (su (su (su σ 30 0 0) 11 e9 x5) 12 e9 120) 120 (σ 8 0).toNat), vI (σ 8 0)]
        have qx8 := cst_in (su (su (su σ 30 0 0) 11 e9 x5) 12 e9 120) 120 (σ 8 0).toNat
        generalize ex8 : cst (su (su (su σ 30 0 0) 11 e9 x5) 12 e9 120) 120 (σ 8 0).toNat = x8 at qx8 ⊢
        show Z _ _ _ _ _ _ _ _ _ _ _ _ _ _ _ _ _ _ _ _ [vI x8, vI (σ 8 0)]
        refine z_isub F dX9_remove_63 ?_
        exact z_iret (nf_i _) F hr (Nat.le_of_ble_eq_true rfl) (Nat.le_of_ble_eq_true rfl) dX9_remove_64 (by rw [show enA σ e9 = x5 by assumption]; exact Or.inr (Or.inr ⟨by omega, by omega, rI (by omega), Ih7⟩))
      · exact absurd c29 (by decide)
  · refine z_iconst F dX9_remove_9 ?_
    refine z_goto (tgt := 26) F dX9_remove_10 (by decide) ?_
    refine z_callV (As := [vI 1]) (st := []) F (mX9_fails l G N0 h g σ 1 hI hR (by decide)) cvX9_107 (mI hI 0 rfl) (fun r9 h9 => by cases h9; rfl) rfl rfl ⟨Nat.le_of_ble_eq_true rfl, Nat.le_of_ble_eq_true rfl⟩ rfl ⟨Nat.le_of_ble_eq_true rfl, Nat.le_of_ble_eq_true rfl⟩ dX9_remove_26 ?_
    rintro _ h9 ⟨rfl, Ih9⟩
    rw [if_pos (by decide)]
    show Z _ _ _ _ _ _ _ _ _ _ _ _ _ _ _ _ _ _ _ _ [vI 1]
    refine z_if_eq (tgt := 34) F dX9_remove_29 (by decide) (by decide) (fun c29 => ?_) (fun c29 => ?_)
    · exact absurd c29 (by decide)
    · refine z_iconst F dX9_remove_32 ?_
      exact z_iret (nf_i _) F hr (Nat.le_of_ble_eq_true rfl) (Nat.le_of_ble_eq_true rfl) dX9_remove_33 (Or.inl ⟨by omega, rfl, Ih9⟩)
set_option maxRecDepth 100000 in
set_option maxHeartbeats 4000000 in
theorem mX9_state (l : Launch) (G : GG) (N0 : Nat) (h : Hp) (g : Nat → Nat) (σ : Sg) (e9 : Int) (hI : MI g σ h) (hR : RG σ) (hV : MV σ) (r_e9 : -2147483648 ≤ e9 ∧ e9 < 2147483648) : Ct l G N0 yX9_state (Cond.code yX9_state cX9_state 2 (some FieldType.char) :: LW) ({ frames := 2, cells := 0, slots := 0, locals := 70 }) [vR (g 0), vI e9] h (fun r h' => ((¬ (0 ≤ e9 ∧ e9 < σ 8 0)) ∧ r = some (vI 32) ∧ MI g (su σ 30 0 1) h') ∨ (¬ (¬ (0 ≤ e9 ∧ e9 < σ 8 0)) ∧ r = some (vI (σ 12 e9)) ∧ MI g (su σ 30 0 0) h')) := by
  refine ct_of rfl rfl ?_
  intro p e s m args below meth c F hr hnm
  have F : Fx p s m args meth c RX9 cX9_state 2 G N0 (cA h s.heap.size) := F
  obtain ⟨v0, v1, v2, v8, v16, v24, v29, vC, vE, vL, vK, vT⟩ := id hV
  have E_e9 := vE e9
  show Z _ _ _ _ _ _ _ _ _ _ _ _ _ _ _ _ _ _ _ [(0, vR (g 0)), (1, vI e9)] []
  refine z_aload_n F dX9_state_0 rfl 0 rfl ?_
  refine z_aload_n F dX9_state_1 rfl 0 rfl ?_
  refine z_iload_n F dX9_state_2 rfl 1 rfl ?_
  refine z_callV (As := [vI e9]) (st := [vR (g 0)]) F (mX9_isNone l G N0 h g σ e9 hI hR (by omega) (by omega)) cvX9_131 (mI hI 0 rfl) (fun r9 h9 => by cases h9; rfl) rfl rfl ⟨Nat.le_of_ble_eq_true rfl, Nat.le_of_ble_eq_true rfl⟩ rfl ⟨Nat.le_of_ble_eq_true rfl, Nat.le_of_ble_eq_true rfl⟩ dX9_state_3 ?_
  rintro _ h9 ⟨rfl, hh9⟩
  rw [hh9]
  clear hh9 h9
  generalize ex1 : (if 0 ≤ e9 ∧ e9 < σ 8 0 then (0 : Int) else 1) = x1
  show Z _ _ _ _ _ _ _ _ _ _ _ _ _ _ _ _ _ _ _ _ [vI x1, vR (g 0)]
  refine z_if_eq (tgt := 13) F dX9_state_6 (by decide) (by omega) (fun c6 => ?_) (fun c6 => ?_)
  · refine z_iconst F dX9_state_13 ?_
    refine z_callV (As := [vI 0]) (st := []) F (mX9_fails l G N0 h g σ 0 hI hR (by decide)) cvX9_107 (mI hI 0 rfl) (fun r9 h9 => by cases h9; rfl) rfl rfl ⟨Nat.le_of_ble_eq_true rfl, Nat.le_of_ble_eq_true rfl⟩ rfl ⟨Nat.le_of_ble_eq_true rfl, Nat.le_of_ble_eq_true rfl⟩ dX9_state_14 ?_
    rintro _ h2 ⟨rfl, Ih2⟩
    rw [if_neg (by decide)]
    show Z _ _ _ _ _ _ _ _ _ _ _ _ _ _ _ _ _ _ _ _ [vI 0]
    refine z_if_eq (tgt := 25) F dX9_state_17 (by decide) (by decide) (fun c17 => ?_) (fun c17 => ?_)
    · refine z_aload_n F dX9_state_25 rfl 0 rfl ?_
      refine z_get (v := vR (g 12)) F (mI Ih2 0 rfl) fX9_39 rfl dX9_state_26 ?_
      refine z_iload_n F dX9_state_29 rfl 1 rfl ?_
      refine z_caload (N := 24) (f := fun j => σ 12 j) F (mI Ih2 12 rfl) (by omega) (by omega) (by omega) dX9_state_30 ?_
      exact z_iret (nf_c (by omega)) F hr (Nat.le_of_ble_eq_true rfl) (Nat.le_of_ble_eq_true rfl) dX9_state_31 (Or.inr (⟨by omega, rfl, Ih2⟩))
    · exact absurd c17 (by decide)
  · refine z_iconst F dX9_state_9 ?_
    refine z_goto (tgt := 14) F dX9_state_10 (by decide) ?_
    refine z_callV (As := [vI 1]) (st := []) F (mX9_fails l G N0 h g σ 1 hI hR (by decide)) cvX9_107 (mI hI 0 rfl) (fun r9 h9 => by cases h9; rfl) rfl rfl ⟨Nat.le_of_ble_eq_true rfl, Nat.le_of_ble_eq_true rfl⟩ rfl ⟨Nat.le_of_ble_eq_true rfl, Nat.le_of_ble_eq_true rfl⟩ dX9_state_14 ?_
    rintro _ h3 ⟨rfl, Ih3⟩
    rw [if_pos (by decide)]
    show Z _ _ _ _ _ _ _ _ _ _ _ _ _ _ _ _ _ _ _ _ [vI 1]
    refine z_if_eq (tgt := 25) F dX9_state_17 (by decide) (by decide) (fun c17 => ?_) (fun c17 => ?_)
    · exact absurd c17 (by decide)
    · refine z_bipush F dX9_state_20 (by decide) ?_
      refine z_goto (tgt := 31) F dX9_state_22 (by decide) ?_
      exact z_iret (nf_c (by omega)) F hr (Nat.le_of_ble_eq_true rfl) (Nat.le_of_ble_eq_true rfl) dX9_state_31 (Or.inl ⟨by omega, rfl, Ih3⟩)
set_option maxRecDepth 100000 in
set_option maxHeartbeats 4000000 in
theorem mX9_startOf (l : Launch) (G : GG) (N0 : Nat) (h : Hp) (g : Nat → Nat) (σ : Sg) (e9 : Int) (hI : MI g σ h) (hR : RG σ) (hV : MV σ) (r_e9 : -2147483648 ≤ e9 ∧ e9 < 2147483648) : Ct l G N0 yX9_startOf (Cond.code yX9_startOf cX9_startOf 2 (some FieldType.int) :: LW) ({ frames := 2, cells := 0, slots := 0, locals := 70 }) [vR (g 0), vI e9] h (fun r h' => ((¬ (0 ≤ e9 ∧ e9 < σ 8 0)) ∧ r = some (vI 0) ∧ MI g (su σ 30 0 1) h') ∨ (¬ (¬ (0 ≤ e9 ∧ e9 < σ 8 0)) ∧ r = some (vI (σ 10 e9)) ∧ MI g (su σ 30 0 0) h')) := by
  refine ct_of rfl rfl ?_
  intro p e s m args below meth c F hr hnm
  have F : Fx p s m args meth c RX9 cX9_startOf 2 G N0 (cA h s.heap.size) := F
  obtain ⟨v0, v1, v2, v8, v16, v24, v29, vC, vE, vL, vK, vT⟩ := id hV
  have E_e9 := vE e9
  show Z _ _ _ _ _ _ _ _ _ _ _ _ _ _ _ _ _ _ _ [(0, vR (g 0)), (1, vI e9)] []
  refine z_aload_n F dX9_startOf_0 rfl 0 rfl ?_
  refine z_aload_n F dX9_startOf_1 rfl 0 rfl ?_
  refine z_iload_n F dX9_startOf_2 rfl 1 rfl ?_
  refine z_callV (As := [vI e9]) (st := [vR (g 0)]) F (mX9_isNone l G N0 h g σ e9 hI hR (by omega) (by omega)) cvX9_131 (mI hI 0 rfl) (fun r9 h9 => by cases h9; rfl) rfl rfl ⟨Nat.le_of_ble_eq_true rfl, Nat.le_of_ble_eq_true rfl⟩ rfl ⟨Nat.le_of_ble_eq_true rfl, Nat.le_of_ble_eq_true rfl⟩ dX9_startOf_3 ?_
  rintro _ h9 ⟨rfl, hh9⟩
  rw [hh9]
  clear hh9 h9
  generalize ex1 : (if 0 ≤ e9 ∧ e9 < σ 8 0 then (0 : Int) else 1) = x1
  show Z _ _ _ _ _ _ _ _ _ _ _ _ _ _ _ _ _ _ _ _ [vI x1, vR (g 0)]
  refine z_if_eq (tgt := 13) F dX9_startOf_6 (by decide) (by omega) (fun c6 => ?_) (fun c6 => ?_)
  · refine z_iconst F dX9_startOf_13 ?_
    refine z_callV (As := [vI 0]) (st := []) F (mX9_fails l G N0 h g σ 0 hI hR (by decide)) cvX9_107 (mI hI 0 rfl) (fun r9 h9 => by cases h9; rfl) rfl rfl ⟨Nat.le_of_ble_eq_true rfl, Nat.le_of_ble_eq_true rfl⟩ rfl ⟨Nat.le_of_ble_eq_true rfl, Nat.le_of_ble_eq_true rfl⟩ dX9_startOf_14 ?_
    rintro _ h2 ⟨rfl, Ih2⟩
    rw [if_neg (by decide)]
    show Z _ _ _ _ _ _ _ _ _ _ _ _ _ _ _ _ _ _ _ _ [vI 0]
    refine z_if_eq (tgt := 24) F dX9_startOf_17 (by decide) (by decide) (fun c17 => ?_) (fun c17 => ?_)
    · refine z_aload_n F dX9_startOf_24 rfl 0 rfl ?_
      refine z_get (v := vR (g 10)) F (mI Ih2 0 rfl) fX9_33 rfl dX9_startOf_25 ?_
      refine z_iload_n F dX9_startOf_28 rfl 1 rfl ?_
      refine z_iaload (N := 24) (f := fun j => σ 10 j) F (mI Ih2 10 rfl) (by omega) (by omega) (by omega) dX9_startOf_29 ?_
      exact z_iret (nf_i _) F hr (Nat.le_of_ble_eq_true rfl) (Nat.le_of_ble_eq_true rfl) dX9_startOf_30 (Or.inr (⟨by omega, rfl, Ih2⟩))
    · exact absurd c17 (by decide)
  · refine z_iconst F dX9_startOf_9 ?_
    refine z_goto (tgt := 14) F dX9_startOf_10 (by decide) ?_
    refine z_callV (As := [vI 1]) (st := []) F (mX9_fails l G N0 h g σ 1 hI hR (by decide)) cvX9_107 (mI hI 0 rfl) (fun r9 h9 => by cases h9; rfl) rfl rfl ⟨Nat.le_of_ble_eq_true rfl, Nat.le_of_ble_eq_true rfl⟩ rfl ⟨Nat.le_of_ble_eq_true rfl, Nat.le_of_ble_eq_true rfl⟩ dX9_startOf_14 ?_
    rintro _ h3 ⟨rfl, Ih3⟩
    rw [if_pos (by decide)]
    show Z _ _ _ _ _ _ _ _ _ _ _ _ _ _ _ _ _ _ _ _ [vI 1]
    refine z_if_eq (tgt := 24) F dX9_startOf_17 (by decide) (by decide) (fun c17 => ?_) (fun c17 => ?_)
    · exact absurd c17 (by decide)
    · refine z_iconst F dX9_startOf_20 ?_
      refine z_goto (tgt := 30) F dX9_startOf_21 (by decide) ?_
      exact z_iret (nf_i _) F hr (Nat.le_of_ble_eq_true rfl) (Nat.le_of_ble_eq_true rfl) dX9_startOf_30 (Or.inl ⟨by omega, rfl, Ih3⟩)
set_option maxRecDepth 100000 in
set_option maxHeartbeats 4000000 in
theorem mX9_endOf (l : Launch) (G : GG) (N0 : Nat) (h : Hp) (g : Nat → Nat) (σ : Sg) (e9 : Int) (hI : MI g σ h) (hR : RG σ) (hV : MV σ) (r_e9 : -2147483648 ≤ e9 ∧ e9 < 2147483648) : Ct l G N0 yX9_endOf (Cond.code yX9_endOf cX9_endOf 2 (some FieldType.int) :: LW) ({ frames := 2, cells := 0, slots := 0, locals := 70 }) [vR (g 0), vI e9] h (fun r h' => ((¬ (0 ≤ e9 ∧ e9 < σ 8 0)) ∧ r = some (vI 0) ∧ MI g (su σ 30 0 1) h') ∨ (¬ (¬ (0 ≤ e9 ∧ e9 < σ 8 0)) ∧ r = some (vI (enA σ e9)) ∧ MI g (su σ 30 0 0) h')) := by
  refine ct_of rfl rfl ?_
  intro p e s m args below meth c F hr hnm
  have F : Fx p s m args meth c RX9 cX9_endOf 2 G N0 (cA h s.heap.size) := F
  obtain ⟨v0, v1, v2, v8, v16, v24, v29, vC, vE, vL, vK, vT⟩ := id hV
  have E_e9 := vE e9
  show Z _ _ _ _ _ _ _ _ _ _ _ _ _ _ _ _ _ _ _ [(0, vR (g 0)), (1, vI e9)] []
  refine z_aload_n F dX9_endOf_0 rfl 0 rfl ?_
  refine z_aload_n F dX9_endOf_1 rfl 0 rfl ?_
  refine z_iload_n F dX9_endOf_2 rfl 1 rfl ?_
  refine z_callV (As := [vI e9]) (st := [vR (g 0)]) F (mX9_isNone l G N0 h g σ e9 hI hR (by omega) (by omega)) cvX9_131 (mI hI 0 rfl) (fun r9 h9 => by cases h9; rfl) rfl rfl ⟨Nat.le_of_ble_eq_true rfl, Nat.le_of_ble_eq_true rfl⟩ rfl ⟨Nat.le_of_ble_eq_true rfl, Nat.le_of_ble_eq_true rfl⟩ dX9_endOf_3 ?_
  rintro _ h9 ⟨rfl, hh9⟩
  rw [hh9]
  clear hh9 h9
  generalize ex1 : (if 0 ≤ e9 ∧ e9 < σ 8 0 then (0 : Int) else 1) = x1
  show Z _ _ _ _ _ _ _ _ _ _ _ _ _ _ _ _ _ _ _ _ [vI x1, vR (g 0)]
  refine z_if_eq (tgt := 13) F dX9_endOf_6 (by decide) (by omega) (fun c6 => ?_) (fun c6 => ?_)
  · refine z_iconst F dX9_endOf_13 ?_
    refine z_callV (As := [vI 0]) (st := []) F (mX9_fails l G N0 h g σ 0 hI hR (by decide)) cvX9_107 (mI hI 0 rfl) (fun r9 h9 => by cases h9; rfl) rfl rfl ⟨Nat.le_of_ble_eq_true rfl, Nat.le_of_ble_eq_true rfl⟩ rfl ⟨Nat.le_of_ble_eq_true rfl, Nat.le_of_ble_eq_true rfl⟩ dX9_endOf_14 ?_
    rintro _ h2 ⟨rfl, Ih2⟩
    rw [if_neg (by decide)]
    show Z _ _ _ _ _ _ _ _ _ _ _ _ _ _ _ _ _ _ _ _ [vI 0]
    refine z_if_eq (tgt := 24) F dX9_endOf_17 (by decide) (by decide) (fun c17 => ?_) (fun c17 => ?_)
    · refine z_aload_n F dX9_endOf_24 rfl 0 rfl ?_
      refine z_iload_n F dX9_endOf_25 rfl 1 rfl ?_
      refine z_callV (As := [vI e9]) (st := []) F (mX9_endsAt l G N0 h2 g (su σ 30 0 0) e9 Ih2 (rg_su hR (by decide)) (by omega)) cvX9_137 (mI Ih2 0 rfl) (fun r9 h9 => by cases h9; rfl) rfl rfl ⟨Nat.le_of_ble_eq_true rfl, Nat.le_of_ble_eq_true rfl⟩ rfl ⟨Nat.le_of_ble_eq_true rfl, Nat.le_of_ble_eq_true rfl⟩ dX9_endOf_26 ?_
      rintro _ h9 ⟨rfl, hh9⟩
      rw [hh9]
      clear hh9 h9
      generalize ex3 : enA (su σ 30 0 0) e9 = x3
      have fx3 : (if σ 12 e9 = 114 then σ 0 0 else σ 11 e9) = x3 := ex3
      show Z _ _ _ _ _ _ _ _ _ _ _ _ _ _ _ _ _ _ _ _ [vI x3]
      exact z_iret (nf_i _) F hr (Nat.le_of_ble_eq_true rfl) (Nat.le_of_ble_eq_true rfl) dX9_endOf_29 (Or.inr (⟨by omega, rI (by first | assumption | (symm; assumption) | omega), Ih2⟩))
    · exact absurd c17 (by decide)
  · refine z_iconst F dX9_endOf_9 ?_
    refine z_goto (tgt := 14) F dX9_endOf_10 (by decide) ?_
    refine z_callV (As := [vI 1]) (st := []) F (mX9_fails l G N0 h g σ 1 hI hR (by decide)) cvX9_107 (mI hI 0 rfl) (fun r9 h9 => by cases h9; rfl) rfl rfl ⟨Nat.le_of_ble_eq_true rfl, Nat.le_of_ble_eq_true rfl⟩ rfl ⟨Nat.le_of_ble_eq_true rfl, Nat.le_of_ble_eq_true rfl⟩ dX9_endOf_14 ?_
    rintro _ h4 ⟨rfl, Ih4⟩
    rw [if_pos (by decide)]
    show Z _ _ _ _ _ _ _ _ _ _ _ _ _ _ _ _ _ _ _ _ [vI 1]
    refine z_if_eq (tgt := 24) F dX9_endOf_17 (by decide) (by decide) (fun c17 => ?_) (fun c17 => ?_)
    · exact absurd c17 (by decide)
    · refine z_iconst F dX9_endOf_20 ?_
      refine z_goto (tgt := 29) F dX9_endOf_21 (by decide) ?_
      exact z_iret (nf_i _) F hr (Nat.le_of_ble_eq_true rfl) (Nat.le_of_ble_eq_true rfl) dX9_endOf_29 (Or.inl ⟨by omega, rfl, Ih4⟩)
