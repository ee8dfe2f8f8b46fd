set_option maxRecDepth 100000 in
set_option maxHeartbeats 4000000 in
theorem mX9_countedOf (l : Launch) (G : GG) (N0 : Nat) (h : Hp) (g : Nat → Nat) (σ : Sg) (e9 : Int) (hI : MI g σ h) (hR : RG σ) (hV : MV σ) (r_e9 : -2147483648 ≤ e9 ∧ e9 < 2147483648) : Ct l G N0 yX9_countedOf (Cond.code yX9_countedOf cX9_countedOf 2 (some FieldType.int) :: LW) ({ frames := 3, cells := 0, slots := 0, locals := 110 }) [vR (g 0), vI e9] h (fun r h' => ((¬ (0 ≤ e9 ∧ e9 < σ 8 0)) ∧ r = some (vI 0) ∧ MI g (su σ 30 0 1) h') ∨ (¬ (¬ (0 ≤ e9 ∧ e9 < σ 8 0)) ∧ r = some (vI (secS σ e9)) ∧ ∃ s d : Int → Int, MI g (sw (sw (su σ 30 0 0) 14 s) 15 d) h' ∧ (∀ j, -2147483648 ≤ s j ∧ s j < 2147483648) ∧ (∀ j, -2147483648 ≤ d j ∧ d j < 2147483648))) := by
  refine ct_of rfl rfl ?_
  intro p e s m args below meth c F hr hnm
  have F : Fx p s m args meth c RX9 cX9_countedOf 2 G N0 (cA h s.heap.size) := F
  obtain ⟨v0, v1, v2, v8, v16, v24, v29, vC, vE, vL, vK, vT⟩ := id hV
  have E_e9 := vE e9
  show Z _ _ _ _ _ _ _ _ _ _ _ _ _ _ _ _ _ _ _ [(0, vR (g 0)), (1, vI e9)] []
  refine z_aload_n F dX9_countedOf_0 rfl 0 rfl ?_
  refine z_aload_n F dX9_countedOf_1 rfl 0 rfl ?_
  refine z_iload_n F dX9_countedOf_2 rfl 1 rfl ?_
  refine z_callV (As := [vI e9]) (st := [vR (g 0)]) F (mX9_isNone l G N0 h g σ e9 hI hR (by omega) (by omega)) cvX9_131 (mI hI 0 rfl) (fun r9 h9 => by cases h9; rfl) rfl rfl ⟨Nat.le_of_ble_eq_true rfl, Nat.le_of_ble_eq_true rfl⟩ rfl ⟨Nat.le_of_ble_eq_true rfl, Nat.le_of_ble_eq_true rfl⟩ dX9_countedOf_3 ?_
  rintro _ h9 ⟨rfl, hh9⟩
  rw [hh9]
  clear hh9 h9
  generalize ex1 : (if 0 ≤ e9 ∧ e9 < σ 8 0 then (0 : Int) else 1) = x1
  show Z _ _ _ _ _ _ _ _ _ _ _ _ _ _ _ _ _ _ _ _ [vI x1, vR (g 0)]
  refine z_if_eq (tgt := 13) F dX9_countedOf_6 (by decide) (by omega) (fun c6 => ?_) (fun c6 => ?_)
  · refine z_iconst F dX9_countedOf_13 ?_
    refine z_callV (As := [vI 0]) (st := []) F (mX9_fails l G N0 h g σ 0 hI hR (by decide)) cvX9_107 (mI hI 0 rfl) (fun r9 h9 => by cases h9; rfl) rfl rfl ⟨Nat.le_of_ble_eq_true rfl, Nat.le_of_ble_eq_true rfl⟩ rfl ⟨Nat.le_of_ble_eq_true rfl, Nat.le_of_ble_eq_true rfl⟩ dX9_countedOf_14 ?_
    rintro _ h2 ⟨rfl, Ih2⟩
    rw [if_neg (by decide)]
    show Z _ _ _ _ _ _ _ _ _ _ _ _ _ _ _ _ _ _ _ _ [vI 0]
    refine z_if_eq (tgt := 22) F dX9_countedOf_17 (by decide) (by decide) (fun c17 => ?_) (fun c17 => ?_)
    · refine z_aload_n F dX9_countedOf_22 rfl 0 rfl ?_
      refine z_callV (As := []) (st := []) F (mX9_counts l G N0 h2 g (su σ 30 0 0) Ih2 (rg_su hR (by decide)) hV) cvX9_148 (mI Ih2 0 rfl) (fun r9 h9 => by cases h9; rfl) rfl rfl ⟨Nat.le_of_ble_eq_true rfl, Nat.le_of_ble_eq_true rfl⟩ rfl ⟨Nat.le_of_ble_eq_true rfl, Nat.le_of_ble_eq_true rfl⟩ dX9_countedOf_23 ?_
      rintro _ h3 ⟨rfl, sh3, dh3, Ih3, Rsh3, Rdh3, Sh3, Dh3⟩
      show Z _ _ _ _ _ _ _ _ _ _ _ _ _ _ _ _ _ _ _ _ []
      simp only [secS_c, dayS_c] at Sh3 Dh3
      have nh3 : ∀ e, 0 ≤ e → e < σ 8 0 → sh3 e = secS σ e := Sh3
      have oh3 : ∀ e dd, 0 ≤ e → e < σ 8 0 → 0 ≤ dd → dd < 5 → dh3 (5 * e + dd) = dayS σ e dd := Dh3
      refine z_aload_n F dX9_countedOf_26 rfl 0 rfl ?_
      refine z_get (v := vR (g 14)) F (mI Ih3 0 rfl) fX9_45 rfl dX9_countedOf_27 ?_
      refine z_iload_n F dX9_countedOf_30 rfl 1 rfl ?_
      refine z_iaload (N := 24) (f := fun j => sh3 j) F (mI Ih3 14 rfl) (by omega) (by omega) (by omega) dX9_countedOf_31 ?_
      exact z_iret (nf_i _) F hr (Nat.le_of_ble_eq_true rfl) (Nat.le_of_ble_eq_true rfl) dX9_countedOf_32 (Or.inr (⟨by omega, rI (nh3 e9 (by omega) (by omega)), sh3, dh3, Ih3, Rsh3, Rdh3⟩))
    · exact absurd c17 (by decide)
  · refine z_iconst F dX9_countedOf_9 ?_
    refine z_goto (tgt := 14) F dX9_countedOf_10 (by decide) ?_
    refine z_callV (As := [vI 1]) (st := []) F (mX9_fails l G N0 h g σ 1 hI hR (by decide)) cvX9_107 (mI hI 0 rfl) (fun r9 h9 => by cases h9; rfl) rfl rfl ⟨Nat.le_of_ble_eq_true rfl, Nat.le_of_ble_eq_true rfl⟩ rfl ⟨Nat.le_of_ble_eq_true rfl, Nat.le_of_ble_eq_true rfl⟩ dX9_countedOf_14 ?_
    rintro _ h4 ⟨rfl, Ih4⟩
    rw [if_pos (by decide)]
    show Z _ _ _ _ _ _ _ _ _ _ _ _ _ _ _ _ _ _ _ _ [vI 1]
    refine z_if_eq (tgt := 22) F dX9_countedOf_17 (by decide) (by decide) (fun c17 => ?_) (fun c17 => ?_)
    · exact absurd c17 (by decide)
    · refine z_iconst F dX9_countedOf_20 ?_
      exact z_iret (nf_i _) F hr (Nat.le_of_ble_eq_true rfl) (Nat.le_of_ble_eq_true rfl) dX9_countedOf_21 (Or.inl ⟨by omega, rfl, Ih4⟩)
set_option maxRecDepth 100000 in
set_option maxHeartbeats 4000000 in
theorem mX9_counted (l : Launch) (G : GG) (N0 : Nat) (h : Hp) (g : Nat → Nat) (σ : Sg) (e9 : Int) (hI : MI g σ h) (hR : RG σ) (hV : MV σ) (r_e9 : -2147483648 ≤ e9 ∧ e9 < 2147483648) : Ct l G N0 yX9_counted (Cond.code yX9_counted cX9_counted 2 (some FieldType.int) :: LW) ({ frames := 4, cells := 0, slots := 0, locals := 150 }) [vR (g 0), vI e9] h (fun r h' => ((¬ (0 ≤ e9 ∧ e9 < σ 8 0)) ∧ r = some (vI 0) ∧ MI g (su σ 30 0 1) h') ∨ (¬ (¬ (0 ≤ e9 ∧ e9 < σ 8 0)) ∧ r = some (vI (secS σ e9)) ∧ ∃ s d : Int → Int, MI g (sw (sw (su σ 30 0 0) 14 s) 15 d) h' ∧ (∀ j, -2147483648 ≤ s j ∧ s j < 2147483648) ∧ (∀ j, -2147483648 ≤ d j ∧ d j < 2147483648))) := by
  refine ct_of rfl rfl ?_
  intro p e s m args below meth c F hr hnm
  have F : Fx p s m args meth c RX9 cX9_counted 2 G N0 (cA h s.heap.size) := F
  obtain ⟨v0, v1, v2, v8, v16, v24, v29, vC, vE, vL, vK, vT⟩ := id hV
  show Z _ _ _ _ _ _ _ _ _ _ _ _ _ _ _ _ _ _ _ [(0, vR (g 0)), (1, vI e9)] []
  refine z_aload_n F dX9_counted_0 rfl 0 rfl ?_
  refine z_iload_n F dX9_counted_1 rfl 1 rfl ?_
  refine z_callV (As := [vI e9]) (st := []) F (mX9_countedOf l G N0 h g σ e9 hI hR hV (by omega)) cvX9_151 (mI hI 0 rfl) (fun r9 h9 => by cases h9; rfl) rfl rfl ⟨Nat.le_of_ble_eq_true rfl, Nat.le_of_ble_eq_true rfl⟩ rfl ⟨Nat.le_of_ble_eq_true rfl, Nat.le_of_ble_eq_true rfl⟩ dX9_counted_2 ?_
  intro r h9 hp
  obtain ⟨x9, ex9⟩ : ∃ z, r = some (vI z) := by rcases hp with ⟨_, h8, _⟩ | ⟨_, h8, _⟩ <;> exact ⟨_, h8⟩
  subst ex9
  exact z_iret (nf_i _) F hr (Nat.le_of_ble_eq_true rfl) (Nat.le_of_ble_eq_true rfl) dX9_counted_5 hp
set_option maxRecDepth 100000 in
set_option maxHeartbeats 4000000 in
theorem mX9_countedByMinutes (l : Launch) (G : GG) (N0 : Nat) (h : Hp) (g : Nat → Nat) (σ : Sg) (e9 : Int) (hI : MI g σ h) (hR : RG σ) (hV : MV σ) (r_e9 : -2147483648 ≤ e9 ∧ e9 < 2147483648) : Ct l G N0 yX9_countedByMinutes (Cond.code yX9_countedByMinutes cX9_countedByMinutes 2 (some FieldType.int) :: LW) ({ frames := 4, cells := 0, slots := 0, locals := 150 }) [vR (g 0), vI e9] h (fun r h' => ((¬ (0 ≤ e9 ∧ e9 < σ 8 0)) ∧ r = some (vI 0) ∧ MI g (su σ 30 0 1) h') ∨ (¬ (¬ (0 ≤ e9 ∧ e9 < σ 8 0)) ∧ r = some (vI (secS σ e9)) ∧ ∃ s d : Int → Int, MI g (sw (sw (su σ 30 0 0) 14 s) 15 d) h' ∧ (∀ j, -2147483648 ≤ s j ∧ s j < 2147483648) ∧ (∀ j, -2147483648 ≤ d j ∧ d j < 2147483648))) := by
  refine ct_of rfl rfl ?_
  intro p e s m args below meth c F hr hnm
  have F : Fx p s m args meth c RX9 cX9_countedByMinutes 2 G N0 (cA h s.heap.size) := F
  obtain ⟨v0, v1, v2, v8, v16, v24, v29, vC, vE, vL, vK, vT⟩ := id hV
  show Z _ _ _ _ _ _ _ _ _ _ _ _ _ _ _ _ _ _ _ [(0, vR (g 0)), (1, vI e9)] []
  refine z_aload_n F dX9_countedByMinutes_0 rfl 0 rfl ?_
  refine z_iload_n F dX9_countedByMinutes_1 rfl 1 rfl ?_
  refine z_callV (As := [vI e9]) (st := []) F (mX9_countedOf l G N0 h g σ e9 hI hR hV (by omega)) cvX9_151 (mI hI 0 rfl) (fun r9 h9 => by cases h9; rfl) rfl rfl ⟨Nat.le_of_ble_eq_true rfl, Nat.le_of_ble_eq_true rfl⟩ rfl ⟨Nat.le_of_ble_eq_true rfl, Nat.le_of_ble_eq_true rfl⟩ dX9_countedByMinutes_2 ?_
  intro r h9 hp
  obtain ⟨x9, ex9⟩ : ∃ z, r = some (vI z) := by rcases hp with ⟨_, h8, _⟩ | ⟨_, h8, _⟩ <;> exact ⟨_, h8⟩
  subst ex9
  exact z_iret (nf_i _) F hr (Nat.le_of_ble_eq_true rfl) (Nat.le_of_ble_eq_true rfl) dX9_countedByMinutes_5 hp
set_option maxRecDepth 100000 in
set_option maxHeartbeats 4000000 in
theorem mX9_puts (l : Launch) (G : GG) (N0 : Nat) (h : Hp) (g : Nat → Nat) (σ : Sg) (c9 : Int) (L0 : List Int) (hI : MI g σ h) (hR : RG σ) (hT : TX (σ 28) (σ 29 0) L0) (hC : CH (σ 28)) (hn9 : 0 ≤ σ 29 0 ∧ σ 29 0 < 60) (r_c9 : 0 ≤ c9 ∧ c9 < 65536) : Ct l G N0 yX9_puts (Cond.code yX9_puts cX9_puts 2 none :: LW) ({ frames := 0, cells := 0, slots := 0, locals := 0 }) [vR (g 0), vI c9] h (fun r h' => r = none ∧ ∃ (f : Int → Int) (n : Int), MI g (su (sw σ 28 f) 29 0 n) h' ∧ TX f n (L0 ++ [c9]) ∧ CH f ∧ RF f) := by
  refine ct_of rfl rfl ?_
  intro p e s m args below meth c F hr hnm
  have F : Fx p s m args meth c RX9 cX9_puts 2 G N0 (cA h s.heap.size) := F
  show Z _ _ _ _ _ _ _ _ _ _ _ _ _ _ _ _ _ _ _ [(0, vR (g 0)), (1, vI c9)] []
  refine z_aload_n F dX9_puts_0 rfl 0 rfl ?_
  refine z_get (v := vR (g 28)) F (mI hI 0 rfl) fX9_83 rfl dX9_puts_1 ?_
  refine z_aload_n F dX9_puts_4 rfl 0 rfl ?_
  refine z_get (v := vI (σ 29 0)) F (mI hI 0 rfl) fX9_154 rfl dX9_puts_5 ?_
  refine z_iload_n F dX9_puts_8 rfl 1 rfl ?_
  obtain ⟨h1, eh1, Ih1⟩ : ∃ z : Hp, hu h (g 28) (eA 1 60 (fun j => vI (if j = σ 29 0 then c9 else σ 28 j))) = z ∧ MI g (su σ 28 (σ 29 0) c9) z := ⟨_, rfl, mP hI 28 rfl rfl (σ 29 0) c9⟩
  refine z_castore (N := 60) (f := fun j => σ 28 j) (h' := h1) F (mI hI 28 rfl) (nf_c (by omega)) (by omega) (by omega) (by omega) dX9_puts_9 eh1 ?_
  refine z_aload_n F dX9_puts_10 rfl 0 rfl ?_
  refine z_dup F dX9_puts_11 rfl ?_
  refine z_get (v := vI (σ 29 0)) F (mI Ih1 0 rfl) fX9_154 rfl dX9_puts_12 ?_
  refine z_iconst F dX9_puts_15 ?_
  refine z_iadd F dX9_puts_16 ?_
  obtain ⟨h2, eh2, Ih2⟩ : ∃ z : Hp, hu h1 (g 0) (eO 14 [vI (σ 0 0), vI (σ 1 0), vI (σ 2 0), vR (g 3), vR (g 4), vR (g 5), vR (g 6), vR (g 7), vI (σ 8 0), vR (g 9), vR (g 10), vR (g 11), vR (g 12), vR (g 13), vR (g 14), vR (g 15), vI (σ 16 0), vR (g 17), vR (g 18), vR (g 19), vR (g 20), vR (g 21), vR (g 22), vR (g 23), vI (σ 24 0), vR (g 25), vR (g 26), vR (g 27), vR (g 28), vI ((σ 29 0) + 1), vI (σ 30 0)]) = z ∧ MI g (su (su σ 28 (σ 29 0) c9) 29 0 ((σ 29 0) + 1)) z := ⟨_, rfl, mPs Ih1 29 rfl ((σ 29 0) + 1)⟩
  refine z_put (fs := [vI (σ 0 0), vI (σ 1 0), vI (σ 2 0), vR (g 3), vR (g 4), vR (g 5), vR (g 6), vR (g 7), vI (σ 8 0), vR (g 9), vR (g 10), vR (g 11), vR (g 12), vR (g 13), vR (g 14), vR (g 15), vI (σ 16 0), vR (g 17), vR (g 18), vR (g 19), vR (g 20), vR (g 21), vR (g 22), vR (g 23), vI (σ 24 0), vR (g 25), vR (g 26), vR (g 27), vR (g 28), vI (σ 29 0), vI (σ 30 0)]) (fs' := [vI (σ 0 0), vI (σ 1 0), vI (σ 2 0), vR (g 3), vR (g 4), vR (g 5), vR (g 6), vR (g 7), vI (σ 8 0), vR (g 9), vR (g 10), vR (g 11), vR (g 12), vR (g 13), vR (g 14), vR (g 15), vI (σ 16 0), vR (g 17), vR (g 18), vR (g 19), vR (g 20), vR (g 21), vR (g 22), vR (g 23), vI (σ 24 0), vR (g 25), vR (g 26), vR (g 27), vR (g 28), vI ((σ 29 0) + 1), vI (σ 30 0)]) (h' := h2) F (mI Ih1 0 rfl) fX9_154 ftX9_29 (nf_i _) (Nat.le_of_ble_eq_true rfl) rfl dX9_puts_17 eh2 ?_
  exact z_vret F hr (Nat.le_of_ble_eq_true rfl) (Nat.le_of_ble_eq_true rfl) dX9_puts_20 (⟨rfl, _, _, TXa Ih2, hT.push c9, hC.set (by omega), RF.set (f := σ 28) (fun j => hR 28 j) (by omega)⟩)
set_option maxRecDepth 100000 in
set_option maxHeartbeats 4000000 in
theorem mX9_putsNumber (l : Launch) (G : GG) (N0 : Nat) (h : Hp) (g : Nat → Nat) (σ : Sg) (v9 : Int) (L0 : List Int) (hI : MI g σ h) (hR : RG σ) (hT : TX (σ 28) (σ 29 0) L0) (hC : CH (σ 28)) (hv : 0 ≤ v9 ∧ v9 < 1000000) (hn9 : 0 ≤ σ 29 0 ∧ σ 29 0 < 50) : Ct l G N0 yX9_putsNumber (Cond.code yX9_putsNumber cX9_putsNumber 4 none :: LW) ({ frames := 1, cells := 0, slots := 0, locals := 40 }) [vR (g 0), vI v9] h (fun r h' => r = none ∧ ∃ (f : Int → Int) (n : Int), MI g (su (sw σ 28 f) 29 0 n) h' ∧ TX f n (L0 ++ decL v9) ∧ CH f ∧ RF f) := by
  refine ct_of rfl rfl ?_
  intro p e s m args below meth c F hr hnm
  have F : Fx p s m args meth c RX9 cX9_putsNumber 4 G N0 (cA h s.heap.size) := F
  have lb0 := hT.1
  show Z _ _ _ _ _ _ _ _ _ _ _ _ _ _ _ _ _ _ _ [(0, vR (g 0)), (1, vI v9)] []
  refine z_iconst F dX9_putsNumber_0 ?_
  refine z_istore_n (lv' := [(2, vI 1), (0, vR (g 0)), (1, vI v9)]) F dX9_putsNumber_1 rfl (by decide) rfl ?_
  refine z_iload_n F dX9_putsNumber_2 rfl 2 rfl ?_
  refine z_iload_n F dX9_putsNumber_3 rfl 0 rfl ?_
  refine z_idiv F dX9_putsNumber_4 (by omega) (by omega) ?_
  refine z_bipush F dX9_putsNumber_5 (by decide) ?_
  refine z_icmp_lt (tgt := 18) F dX9_putsNumber_7 (by decide) (by omega) (by decide) (fun c7 => ?_) (fun c7 => ?_)
  · refine z_iload_n F dX9_putsNumber_18 rfl 0 rfl ?_
    refine z_istore_n (lv' := [(3, vI 1), (2, vI 1), (0, vR (g 0)), (1, vI v9)]) F dX9_putsNumber_19 rfl (by decide) rfl ?_
    refine z_iload_n F dX9_putsNumber_20 rfl 0 rfl ?_
    refine z_if_le (tgt := 46) F dX9_putsNumber_21 (by decide) (by decide) (fun c21 => ?_) (fun c21 => ?_)
    · exact absurd c21 (by decide)
    · refine z_aload_n F dX9_putsNumber_24 rfl 2 rfl ?_
      refine z_bipush F dX9_putsNumber_25 (by decide) ?_
      refine z_iload_n F dX9_putsNumber_27 rfl 3 rfl ?_
      refine z_iload_n F dX9_putsNumber_28 rfl 0 rfl ?_
      refine z_idiv F dX9_putsNumber_29 (by omega) (by omega) ?_
      refine z_bipush F dX9_putsNumber_30 (by decide) ?_
      refine z_irem F dX9_putsNumber_32 (by omega) (by omega) ?_
      refine z_iadd F dX9_putsNumber_33 ?_
      refine z_i2c F dX9_putsNumber_34 (i2c_id (by omega)) ?_
      refine z_callV (As := [vI (48 + ((v9 / 1) % 10))]) (st := []) F (mX9_puts l G N0 h g σ (48 + ((v9 / 1) % 10)) (L0) hI hR hT hC (show 0 ≤ σ 29 0 ∧ σ 29 0 < 60 from by omega) (by omega)) cvX9_157 (mI hI 0 rfl) (fun r9 h9 => by cases h9; rfl) rfl rfl ⟨Nat.le_of_ble_eq_true rfl, Nat.le_of_ble_eq_true rfl⟩ rfl ⟨Nat.le_of_ble_eq_true rfl, Nat.le_of_ble_eq_true rfl⟩ dX9_putsNumber_35 ?_
      rintro _ h1 ⟨rfl, fh1, nh1, Ih1, Th1, Ch1, Rfh1⟩
      show Z _ _ _ _ _ _ _ _ _ _ _ _ _ _ _ _ _ _ _ _ []
      have Rfh1 := Rfh1
      have lbh1 : nh1 = ((L0 ++ [(48 + ((v9 / 1) % 10))]).length : Int) := Th1.1
      simp only [List.length_append, List.length_cons, List.length_nil] at lbh1
      refine z_iload_n F dX9_putsNumber_38 rfl 0 rfl ?_
      refine z_bipush F dX9_putsNumber_39 (by decide) ?_
      refine z_idiv F dX9_putsNumber_41 (by omega) (by omega) ?_
      show Z _ _ _ _ _ _ _ _ _ _ _ _ _ _ _ _ _ _ _ _ [vI 0]
      refine z_istore_n (lv' := [(3, vI 0), (2, vI 1), (0, vR (g 0)), (1, vI v9)]) F dX9_putsNumber_42 rfl (by decide) rfl ?_
      refine z_goto (tgt := 20) F dX9_putsNumber_43 (by decide) ?_
      refine z_iload_n F dX9_putsNumber_20 rfl 0 rfl ?_
      refine z_if_le (tgt := 46) F dX9_putsNumber_21 (by decide) (by decide) (fun c21 => ?_) (fun c21 => ?_)
      · exact z_vret F hr (Nat.le_of_ble_eq_true rfl) (Nat.le_of_ble_eq_true rfl) dX9_putsNumber_46 (⟨rfl, _, _, Ih1, by rw [show decL v9 = [48 + v9 / 1 % 10] from by unfold decL; rw [if_pos (by omega)]]; simpa only [List.append_assoc, List.cons_append, List.nil_append] using Th1, Ch1, Rfh1⟩)
      · exact absurd c21 (by decide)
  · refine z_iload_n F dX9_putsNumber_10 rfl 0 rfl ?_
    refine z_bipush F dX9_putsNumber_11 (by decide) ?_
    refine z_imul F dX9_putsNumber_13 ?_
    show Z _ _ _ _ _ _ _ _ _ _ _ _ _ _ _ _ _ _ _ _ [vI 10]
    refine z_istore_n (lv' := [(2, vI 10), (0, vR (g 0)), (1, vI v9)]) F dX9_putsNumber_14 rfl (by decide) rfl ?_
    refine z_goto (tgt := 2) F dX9_putsNumber_15 (by decide) ?_
    refine z_iload_n F dX9_putsNumber_2 rfl 2 rfl ?_
    refine z_iload_n F dX9_putsNumber_3 rfl 0 rfl ?_
    refine z_idiv F dX9_putsNumber_4 (by omega) (by omega) ?_
    refine z_bipush F dX9_putsNumber_5 (by decide) ?_
    refine z_icmp_lt (tgt := 18) F dX9_putsNumber_7 (by decide) (by omega) (by decide) (fun c7 => ?_) (fun c7 => ?_)
    · refine z_iload_n F dX9_putsNumber_18 rfl 0 rfl ?_
      refine z_istore_n (lv' := [(3, vI 10), (2, vI 10), (0, vR (g 0)), (1, vI v9)]) F dX9_putsNumber_19 rfl (by decide) rfl ?_
      refine z_iload_n F dX9_putsNumber_20 rfl 0 rfl ?_
      refine z_if_le (tgt := 46) F dX9_putsNumber_21 (by decide) (by decide) (fun c21 => ?_) (fun c21 => ?_)
      · exact absurd c21 (by decide)
      · refine z_aload_n F dX9_putsNumber_24 rfl 2 rfl ?_
        refine z_bipush F dX9_putsNumber_25 (by decide) ?_
        refine z_iload_n F dX9_putsNumber_27 rfl 3 rfl ?_
        refine z_iload_n F dX9_putsNumber_28 rfl 0 rfl ?_
        refine z_idiv F dX9_putsNumber_29 (by omega) (by omega) ?_
        refine z_bipush F dX9_putsNumber_30 (by decide) ?_
        refine z_irem F dX9_putsNumber_32 (by omega) (by omega) ?_
        refine z_iadd F dX9_putsNumber_33 ?_
        refine z_i2c F dX9_putsNumber_34 (i2c_id (by omega)) ?_
        refine z_callV (As := [vI (48 + ((v9 / 10) % 10))]) (st := []) F (mX9_puts l G N0 h g σ (48 + ((v9 / 10) % 10)) (L0) hI hR hT hC (show 0 ≤ σ 29 0 ∧ σ 29 0 < 60 from by omega) (by omega)) cvX9_157 (mI hI 0 rfl) (fun r9 h9 => by cases h9; rfl) rfl rfl ⟨Nat.le_of_ble_eq_true rfl, Nat.le_of_ble_eq_true rfl⟩ rfl ⟨Nat.le_of_ble_eq_true rfl, Nat.le_of_ble_eq_true rfl⟩ dX9_putsNumber_35 ?_
        rintro _ h2 ⟨rfl, fh2, nh2, Ih2, Th2, Ch2, Rfh2⟩
        show Z _ _ _ _ _ _ _ _ _ _ _ _ _ _ _ _ _ _ _ _ []
        have Rfh2 := Rfh2
        have lbh2 : nh2 = ((L0 ++ [(48 + ((v9 / 10) % 10))]).length : Int) := Th2.1
        simp only [List.length_append, List.length_cons, List.length_nil] at lbh2
        refine z_iload_n F dX9_putsNumber_38 rfl 0 rfl ?_
        refine z_bipush F dX9_putsNumber_39 (by decide) ?_
        refine z_idiv F dX9_putsNumber_41 (by omega) (by omega) ?_
        show Z _ _ _ _ _ _ _ _ _ _ _ _ _ _ _ _ _ _ _ _ [vI 1]
        refine z_istore_n (lv' := [(3, vI 1), (2, vI 10), (0, vR (g 0)), (1, vI v9)]) F dX9_putsNumber_42 rfl (by decide) rfl ?_
        refine z_goto (tgt := 20) F dX9_putsNumber_43 (by decide) ?_
        refine z_iload_n F dX9_putsNumber_20 rfl 0 rfl ?_
        refine z_if_le (tgt := 46) F dX9_putsNumber_21 (by decide) (by decide) (fun c21 => ?_) (fun c21 => ?_)
        · exact absurd c21 (by decide)
        · refine z_aload_n F dX9_putsNumber_24 rfl 2 rfl ?_
          refine z_bipush F dX9_putsNumber_25 (by decide) ?_
          refine z_iload_n F dX9_putsNumber_27 rfl 3 rfl ?_
          refine z_iload_n F dX9_putsNumber_28 rfl 0 rfl ?_
          refine z_idiv F dX9_putsNumber_29 (by omega) (by omega) ?_
          refine z_bipush F dX9_putsNumber_30 (by decide) ?_
          refine z_irem F dX9_putsNumber_32 (by omega) (by omega) ?_
          refine z_iadd F dX9_putsNumber_33 ?_
          refine z_i2c F dX9_putsNumber_34 (i2c_id (by omega)) ?_
          refine z_callV (As := [vI (48 + ((v9 / 1) % 10))]) (st := []) F (mX9_puts l G N0 h2 g (su (sw σ 28 fh2) 29 0 nh2) (48 + ((v9 / 1) % 10)) (L0 ++ [(48 + ((v9 / 10) % 10))]) Ih2 (rg_su (rg_sw hR Rfh2) (by omega)) Th2 Ch2 (show 0 ≤ nh2 ∧ nh2 < 60 from by omega) (by omega)) cvX9_157 (mI Ih2 0 rfl) (fun r9 h9 => by cases h9; rfl) rfl rfl ⟨Nat.le_of_ble_eq_true rfl, Nat.le_of_ble_eq_true rfl⟩ rfl ⟨Nat.le_of_ble_eq_true rfl, Nat.le_of_ble_eq_true rfl⟩ dX9_putsNumber_35 ?_
          rintro _ h3 ⟨rfl, fh3, nh3, Ih3, Th3, Ch3, Rfh3⟩
          have Ih3 := TXb Ih3
          show Z _ _ _ _ _ _ _ _ _ _ _ _ _ _ _ _ _ _ _ _ []
          have Rfh3 := Rfh3
          have lbh3 : nh3 = ((L0 ++ [(48 + ((v9 / 10) % 10))] ++ [(48 + ((v9 / 1) % 10))]).length : Int) := Th3.1
          simp only [List.length_append, List.length_cons, List.length_nil] at lbh3
          refine z_iload_n F dX9_putsNumber_38 rfl 0 rfl ?_
          refine z_bipush F dX9_putsNumber_39 (by decide) ?_
          refine z_idiv F dX9_putsNumber_41 (by omega) (by omega) ?_
          show Z _ _ _ _ _ _ _ _ _ _ _ _ _ _ _ _ _ _ _ _ [vI 0]
          refine z_istore_n (lv' := [(3, vI 0), (2, vI 10), (0, vR (g 0)), (1, vI v9)]) F dX9_putsNumber_42 rfl (by decide) rfl ?_
          refine z_goto (tgt := 20) F dX9_putsNumber_43 (by decide) ?_
          refine z_iload_n F dX9_putsNumber_20 rfl 0 rfl ?_
          refine z_if_le (tgt := 46) F dX9_putsNumber_21 (by decide) (by decide) (fun c21 => ?_) (fun c21 => ?_)
          · exact z_vret F hr (Nat.le_of_ble_eq_true rfl) (Nat.le_of_ble_eq_true rfl) dX9_putsNumber_46 (⟨rfl, _, _, Ih3, by rw [show decL v9 = [48 + v9 / 10 % 10, 48 + v9 / 1 % 10] from by unfold decL; rw [if_neg (by omega), if_pos (by omega)]]; simpa only [List.append_assoc, List.cons_append, List.nil_append] using Th3, Ch3, Rfh3⟩)
          · exact absurd c21 (by decide)
    · refine z_iload_n F dX9_putsNumber_10 rfl 0 rfl ?_
      refine z_bipush F dX9_putsNumber_11 (by decide) ?_
      refine z_imul F dX9_putsNumber_13 ?_
      show Z _ _ _ _ _ _ _ _ _ _ _ _ _ _ _ _ _ _ _ _ [vI 100]
      refine z_istore_n (lv' := [(2, vI 100), (0, vR (g 0)), (1, vI v9)]) F dX9_putsNumber_14 rfl (by decide) rfl ?_
      refine z_goto (tgt := 2) F dX9_putsNumber_15 (by decide) ?_
      refine z_iload_n F dX9_putsNumber_2 rfl 2 rfl ?_
      refine z_iload_n F dX9_putsNumber_3 rfl 0 rfl ?_
      refine z_idiv F dX9_putsNumber_4 (by omega) (by omega) ?_
      refine z_bipush F dX9_putsNumber_5 (by decide) ?_
      refine z_icmp_lt (tgt := 18) F dX9_putsNumber_7 (by decide) (by omega) (by decide) (fun c7 => ?_) (fun c7 => ?_)
      · refine z_iload_n F dX9_putsNumber_18 rfl 0 rfl ?_
        refine z_istore_n (lv' := [(3, vI 100), (2, vI 100), (0, vR (g 0)), (1, vI v9)]) F dX9_putsNumber_19 rfl (by decide) rfl ?_
        refine z_iload_n F dX9_putsNumber_20 rfl 0 rfl ?_
        refine z_if_le (tgt := 46) F dX9_putsNumber_21 (by decide) (by decide) (fun c21 => ?_) (fun c21 => ?_)
        · exact absurd c21 (by decide)
        · refine z_aload_n F dX9_putsNumber_24 rfl 2 rfl ?_
          refine z_bipush F dX9_putsNumber_25 (by decide) ?_
          refine z_iload_n F dX9_putsNumber_27 rfl 3 rfl ?_
          refine z_iload_n F dX9_putsNumber_28 rfl 0 rfl ?_
          refine z_idiv F dX9_putsNumber_29 (by omega) (by omega) ?_
          refine z_bipush F dX9_putsNumber_30 (by decide) ?_
          refine z_irem F dX9_putsNumber_32 (by omega) (by omega) ?_
          refine z_iadd F dX9_putsNumber_33 ?_
          refine z_i2c F dX9_putsNumber_34 (i2c_id (by omega)) ?_
          refine z_callV (As := [vI (48 + ((v9 / 100) % 10))]) (st := []) F (mX9_puts l G N0 h g σ (48 + ((v9 / 100) % 10)) (L0) hI hR hT hC (show 0 ≤ σ 29 0 ∧ σ 29 0 < 60 from by omega) (by omega)) cvX9_157 (mI hI 0 rfl) (fun r9 h9 => by cases h9; rfl) rfl rfl ⟨Nat.le_of_ble_eq_true rfl, Nat.le_of_ble_eq_true rfl⟩ rfl ⟨Nat.le_of_ble_eq_true rfl, Nat.le_of_ble_eq_true rfl⟩ dX9_putsNumber_35 ?_
          rintro _ h4 ⟨rfl, fh4, nh4, Ih4, Th4, Ch4, Rfh4⟩
          show Z _ _ _ _ _ _ _ _ _ _ _ _ _ _ _ _ _ _ _ _ []
          have Rfh4 := Rfh4
          have lbh4 : nh4 = ((L0 ++ [(48 + ((v9 / 100) % 10))]).length : Int) := Th4.1
          simp only [List.length_append, List.length_cons, List.length_nil] at lbh4
          refine z_iload_n F dX9_putsNumber_38 rfl 0 rfl ?_
          refine z_bipush F dX9_putsNumber_39 (by decide) ?_
          refine z_idiv F dX9_putsNumber_41 (by omega) (by omega) ?_
          show Z _ _ _ _ _ _ _ _ _ _ _ _ _ _ _ _ _ _ _ _ [vI 10]
          refine z_istore_n (lv' := [(3, vI 10), (2, vI 100), (0, vR (g 0)), (1, vI v9)]) F dX9_putsNumber_42 rfl (by decide) rfl ?_
          refine z_goto (tgt := 20) F dX9_putsNumber_43 (by decide) ?_
          refine z_iload_n F dX9_putsNumber_20 rfl 0 rfl ?_
          refine z_if_le (tgt := 46) F dX9_putsNumber_21 (by decide) (by decide) (fun c21 => ?_) (fun c21 => ?_)
          · exact absurd c21 (by decide)
          · refine z_aload_n F dX9_putsNumber_24 rfl 2 rfl ?_
            refine z_bipush F dX9_putsNumber_25 (by decide) ?_
            refine z_iload_n F dX9_putsNumber_27 rfl 3 rfl ?_
            refine z_iload_n F dX9_putsNumber_28 rfl 0 rfl ?_
            refine z_idiv F dX9_putsNumber_29 (by omega) (by omega) ?_
            refine z_bipush F dX9_putsNumber_30 (by decide) ?_
            refine z_irem F dX9_putsNumber_32 (by omega) (by omega) ?_
            refine z_iadd F dX9_putsNumber_33 ?_
            refine z_i2c F dX9_putsNumber_34 (i2c_id (by omega)) ?_
            refine z_callV (As := [vI (48 + ((v9 / 10) % 10))]) (st := []) F (mX9_puts l G N0 h4 g (su (sw σ 28 fh4) 29 0 nh4) (48 + ((v9 / 10) % 10)) (L0 ++ [(48 + ((v9 / 100) % 10))]) Ih4 (rg_su (rg_sw hR Rfh4) (by omega)) Th4 Ch4 (show 0 ≤ nh4 ∧ nh4 < 60 from by omega) (by omega)) cvX9_157 (mI Ih4 0 rfl) (fun r9 h9 => by cases h9; rfl) rfl rfl ⟨Nat.le_of_ble_eq_true rfl, Nat.le_of_ble_eq_true rfl⟩ rfl ⟨Nat.le_of_ble_eq_true rfl, Nat.le_of_ble_eq_true rfl⟩ dX9_putsNumber_35 ?_
            rintro _ h5 ⟨rfl, fh5, nh5, Ih5, Th5, Ch5, Rfh5⟩
            have Ih5 := TXb Ih5
            show Z _ _ _ _ _ _ _ _ _ _ _ _ _ _ _ _ _ _ _ _ []
            have Rfh5 := Rfh5
            have lbh5 : nh5 = ((L0 ++ [(48 + ((v9 / 100) % 10))] ++ [(48 + ((v9 / 10) % 10))]).length : Int) := Th5.1
            simp only [List.length_append, List.length_cons, List.length_nil] at lbh5
            refine z_iload_n F dX9_putsNumber_38 rfl 0 rfl ?_
            refine z_bipush F dX9_putsNumber_39 (by decide) ?_
            refine z_idiv F dX9_putsNumber_41 (by omega) (by omega) ?_
            show Z _ _ _ _ _ _ _ _ _ _ _ _ _ _ _ _ _ _ _ _ [vI 1]
            refine z_istore_n (lv' := [(3, vI 1), (2, vI 100), (0, vR (g 0)), (1, vI v9)]) F dX9_putsNumber_42 rfl (by decide) rfl ?_
            refine z_goto (tgt := 20) F dX9_putsNumber_43 (by decide) ?_
            refine z_iload_n F dX9_putsNumber_20 rfl 0 rfl ?_
            refine z_if_le (tgt := 46) F dX9_putsNumber_21 (by decide) (by decide) (fun c21 => ?_) (fun c21 => ?_)
            · exact absurd c21 (by decide)
            · refine z_aload_n F dX9_putsNumber_24 rfl 2 rfl ?_
              refine z_bipush F dX9_putsNumber_25 (by decide) ?_
              refine z_iload_n F dX9_putsNumber_27 rfl 3 rfl ?_
              refine z_iload_n F dX9_putsNumber_28 rfl 0 rfl ?_
              refine z_idiv F dX9_putsNumber_29 (by omega) (by omega) ?_
              refine z_bipush F dX9_putsNumber_30 (by decide) ?_
              refine z_irem F dX9_putsNumber_32 (by omega) (by omega) ?_
              refine z_iadd F dX9_putsNumber_33 ?_
              refine z_i2c F dX9_putsNumber_34 (i2c_id (by omega)) ?_
              refine z_callV (As := [vI (48 + ((v9 / 1) % 10))]) (st := []) F (mX9_puts l G N0 h5 g (su (sw σ 28 fh5) 29 0 nh5) (48 + ((v9 / 1) % 10)) (L0 ++ [(48 + ((v9 / 100) % 10))] ++ [(48 + ((v9 / 10) % 10))]) Ih5 (rg_su (rg_sw hR Rfh5) (by omega)) Th5 Ch5 (show 0 ≤ nh5 ∧ nh5 < 60 from by omega) (by omega)) cvX9_157 (mI Ih5 0 rfl) (fun r9 h9 => by cases h9; rfl) rfl rfl ⟨Nat.le_of_ble_eq_true rfl, Nat.le_of_ble_eq_true rfl⟩ rfl ⟨Nat.le_of_ble_eq_true rfl, Nat.le_of_ble_eq_true rfl⟩ dX9_putsNumber_35 ?_
              rintro _ h6 ⟨rfl, fh6, nh6, Ih6, Th6, Ch6, Rfh6⟩
              have Ih6 := TXb Ih6
              show Z _ _ _ _ _ _ _ _ _ _ _ _ _ _ _ _ _ _ _ _ []
              have Rfh6 := Rfh6
              have lbh6 : nh6 = ((L0 ++ [(48 + ((v9 / 100) % 10))] ++ [(48 + ((v9 / 10) % 10))] ++ [(48 + ((v9 / 1) % 10))]).length : Int) := Th6.1
              simp only [List.length_append, List.length_cons, List.length_nil] at lbh6
              refine z_iload_n F dX9_putsNumber_38 rfl 0 rfl ?_
              refine z_bipush F dX9_putsNumber_39 (by decide) ?_
              refine z_idiv F dX9_putsNumber_41 (by omega) (by omega) ?_
              show Z _ _ _ _ _ _ _ _ _ _ _ _ _ _ _ _ _ _ _ _ [vI 0]
              refine z_istore_n (lv' := [(3, vI 0), (2, vI 100), (0, vR (g 0)), (1, vI v9)]) F dX9_putsNumber_42 rfl (by decide) rfl ?_
              refine z_goto (tgt := 20) F dX9_putsNumber_43 (by decide) ?_
              refine z_iload_n F dX9_putsNumber_20 rfl 0 rfl ?_
              refine z_if_le (tgt := 46) F dX9_putsNumber_21 (by decide) (by decide) (fun c21 => ?_) (fun c21 => ?_)
              · exact z_vret F hr (Nat.le_of_ble_eq_true rfl) (Nat.le_of_ble_eq_true rfl) dX9_putsNumber_46 (⟨rfl, _, _, Ih6, by rw [show decL v9 = [48 + v9 / 100 % 10, 48 + v9 / 10 % 10, 48 + v9 / 1 % 10] from by unfold decL; rw [if_neg (by omega), if_neg (by omega), if_pos (by omega)]]; simpa only [List.append_assoc, List.cons_append, List.nil_append] using Th6, Ch6, Rfh6⟩)
              · exact absurd c21 (by decide)
      · refine z_iload_n F dX9_putsNumber_10 rfl 0 rfl ?_
        refine z_bipush F dX9_putsNumber_11 (by decide) ?_
        refine z_imul F dX9_putsNumber_13 ?_
        show Z _ _ _ _ _ _ _ _ _ _ _ _ _ _ _ _ _ _ _ _ [vI 1000]
        refine z_istore_n (lv' := [(2, vI 1000), (0, vR (g 0)), (1, vI v9)]) F dX9_putsNumber_14 rfl (by decide) rfl ?_
        refine z_goto (tgt := 2) F dX9_putsNumber_15 (by decide) ?_
        refine z_iload_n F dX9_putsNumber_2 rfl 2 rfl ?_
        refine z_iload_n F dX9_putsNumber_3 rfl 0 rfl ?_
        refine z_idiv F dX9_putsNumber_4 (by omega) (by omega) ?_
        refine z_bipush F dX9_putsNumber_5 (by decide) ?_
        refine z_icmp_lt (tgt := 18) F dX9_putsNumber_7 (by decide) (by omega) (by decide) (fun c7 => ?_) (fun c7 => ?_)
        · refine z_iload_n F dX9_putsNumber_18 rfl 0 rfl ?_
          refine z_istore_n (lv' := [(3, vI 1000), (2, vI 1000), (0, vR (g 0)), (1, vI v9)]) F dX9_putsNumber_19 rfl (by decide) rfl ?_
          refine z_iload_n F dX9_putsNumber_20 rfl 0 rfl ?_
          refine z_if_le (tgt := 46) F dX9_putsNumber_21 (by decide) (by decide) (fun c21 => ?_) (fun c21 => ?_)
          · exact absurd c21 (by decide)
          · refine z_aload_n F dX9_putsNumber_24 rfl 2 rfl ?_
            refine z_bipush F dX9_putsNumber_25 (by decide) ?_
            refine z_iload_n F dX9_putsNumber_27 rfl 3 rfl ?_
            refine z_iload_n F dX9_putsNumber_28 rfl 0 rfl ?_
            refine z_idiv F dX9_putsNumber_29 (by omega) (by omega) ?_
            refine z_bipush F dX9_putsNumber_30 (by decide) ?_
            refine z_irem F dX9_putsNumber_32 (by omega) (by omega) ?_
            refine z_iadd F dX9_putsNumber_33 ?_
            refine z_i2c F dX9_putsNumber_34 (i2c_id (by omega)) ?_
            refine z_callV (As := [vI (48 + ((v9 / 1000) % 10))]) (st := []) F (mX9_puts l G N0 h g σ (48 + ((v9 / 1000) % 10)) (L0) hI hR hT hC (show 0 ≤ σ 29 0 ∧ σ 29 0 < 60 from by omega) (by omega)) cvX9_157 (mI hI 0 rfl) (fun r9 h9 => by cases h9; rfl) rfl rfl ⟨Nat.le_of_ble_eq_true rfl, Nat.le_of_ble_eq_true rfl⟩ rfl ⟨Nat.le_of_ble_eq_true rfl, Nat.le_of_ble_eq_true rfl⟩ dX9_putsNumber_35 ?_
            rintro _ h7 ⟨rfl, fh7, nh7, Ih7, Th7, Ch7, Rfh7⟩
            show Z _ _ _ _ _ _ _ _ _ _ _ _ _ _ _ _ _ _ _ _ []
            have Rfh7 := Rfh7
            have lbh7 : nh7 = ((L0 ++ [(48 + ((v9 / 1000) % 10))]).length : Int) := Th7.1
            simp only [List.length_append, List.length_cons, List.length_nil] at lbh7
            refine z_iload_n F dX9_putsNumber_38 rfl 0 rfl ?_
            refine z_bipush F dX9_putsNumber_39 (by decide) ?_
            refine z_idiv F dX9_putsNumber_41 (by omega) (by omega) ?_
            show Z _ _ _ _ _ _ _ _ _ _ _ _ _ _ _ _ _ _ _ _ [vI 100]
            refine z_istore_n (lv' := [(3, vI 100), (2, vI 1000), (0, vR (g 0)), (1, vI v9)]) F dX9_putsNumber_42 rfl (by decide) rfl ?_
            refine z_goto (tgt := 20) F dX9_putsNumber_43 (by decide) ?_
            refine z_iload_n F dX9_putsNumber_20 rfl 0 rfl ?_
            refine z_if_le (tgt := 46) F dX9_putsNumber_21 (by decide) (by decide) (fun c21 => ?_) (fun c21 => ?_)
            · exact absurd c21 (by decide)
            · refine z_aload_n F dX9_putsNumber_24 rfl 2 rfl ?_
              refine z_bipush F dX9_putsNumber_25 (by decide) ?_
              refine z_iload_n F dX9_putsNumber_27 rfl 3 rfl ?_
              refine z_iload_n F dX9_putsNumber_28 rfl 0 rfl ?_
              refine z_idiv F dX9_putsNumber_29 (by omega) (by omega) ?_
              refine z_bipush F dX9_putsNumber_30 (by decide) ?_
              refine z_irem F dX9_putsNumber_32 (by omega) (by omega) ?_
              refine z_iadd F dX9_putsNumber_33 ?_
              refine z_i2c F dX9_putsNumber_34 (i2c_id (by omega)) ?_
              refine z_callV (As := [vI (48 + ((v9 / 100) % 10))]) (st := []) F (mX9_puts l G N0 h7 g (su (sw σ 28 fh7) 29 0 nh7) (48 + ((v9 / 100) % 10)) (L0 ++ [(48 + ((v9 / 1000) % 10))]) Ih7 (rg_su (rg_sw hR Rfh7) (by omega)) Th7 Ch7 (show 0 ≤ nh7 ∧ nh7 < 60 from by omega) (by omega)) cvX9_157 (mI Ih7 0 rfl) (fun r9 h9 => by cases h9; rfl) rfl rfl ⟨Nat.le_of_ble_eq_true rfl, Nat.le_of_ble_eq_true rfl⟩ rfl ⟨Nat.le_of_ble_eq_true rfl, Nat.le_of_ble_eq_true rfl⟩ dX9_putsNumber_35 ?_
              rintro _ h8 ⟨rfl, fh8, nh8, Ih8, Th8, Ch8, Rfh8⟩
              have Ih8 := TXb Ih8
              show Z _ _ _ _ _ _ _ _ _ _ _ _ _ _ _ _ _ _ _ _ []
              have Rfh8 := Rfh8
              have lbh8 : nh8 = ((L0 ++ [(48 + ((v9 / 1000) % 10))] ++ [(48 + ((v9 / 100) % 10))]).length : Int) := Th8.1
              simp only [List.length_append, List.length_cons, List.length_nil] at lbh8
              refine z_iload_n F dX9_putsNumber_38 rfl 0 rfl ?_
              refine z_bipush F dX9_putsNumber_39 (by decide) ?_
              refine z_idiv F dX9_putsNumber_41 (by omega) (by omega) ?_
              show Z _ _ _ _ _ _ _ _ _ _ _ _ _ _ _ _ _ _ _ _ [vI 10]
              refine z_istore_n (lv' := [(3, vI 10), (2, vI 1000), (0, vR (g 0)), (1, vI v9)]) F dX9_putsNumber_42 rfl (by decide) rfl ?_
              refine z_goto (tgt := 20) F dX9_putsNumber_43 (by decide) ?_
              refine z_iload_n F dX9_putsNumber_20 rfl 0 rfl ?_
              refine z_if_le (tgt := 46) F dX9_putsNumber_21 (by decide) (by decide) (fun c21 => ?_) (fun c21 => ?_)
              · exact absurd c21 (by decide)
              · refine z_aload_n F dX9_putsNumber_24 rfl 2 rfl ?_
                refine z_bipush F dX9_putsNumber_25 (by decide) ?_
                refine z_iload_n F dX9_putsNumber_27 rfl 3 rfl ?_
                refine z_iload_n F dX9_putsNumber_28 rfl 0 rfl ?_
                refine z_idiv F dX9_putsNumber_29 (by omega) (by omega) ?_
                refine z_bipush F dX9_putsNumber_30 (by decide) ?_
                refine z_irem F dX9_putsNumber_32 (by omega) (by omega) ?_
                refine z_iadd F dX9_putsNumber_33 ?_
                refine z_i2c F dX9_putsNumber_34 (i2c_id (by omega)) ?_
                refine z_callV (As := [vI (48 + ((v9 / 10) % 10))]) (st := []) F (mX9_puts l G N0 h8 g (su (sw σ 28 fh8) 29 0 nh8) (48 + ((v9 / 10) % 10)) (L0 ++ [(48 + ((v9 / 1000) % 10))] ++ [(48 + ((v9 / 100) % 10))]) Ih8 (rg_su (rg_sw hR Rfh8) (by omega)) Th8 Ch8 (show 0 ≤ nh8 ∧ nh8 < 60 from by omega) (by omega)) cvX9_157 (mI Ih8 0 rfl) (fun r9 h9 => by cases h9; rfl) rfl rfl ⟨Nat.le_of_ble_eq_true rfl, Nat.le_of_ble_eq_true rfl⟩ rfl ⟨Nat.le_of_ble_eq_true rfl, Nat.le_of_ble_eq_true rfl⟩ dX9_putsNumber_35 ?_
                rintro _ h9 ⟨rfl, fh9, nh9, Ih9, Th9, Ch9, Rfh9⟩
                have Ih9 := TXb Ih9
                show Z _ _ _ _ _ _ _ _ _ _ _ _ _ _ _ _ _ _ _ _ []
                have Rfh9 := Rfh9
                have lbh9 : nh9 = ((L0 ++ [(48 + ((v9 / 1000) % 10))] ++ [(48 + ((v9 / 100) % 10))] ++ [(48 + ((v9 / 10) % 10))]).length : Int) := Th9.1
                simp only [List.length_append, List.length_cons, List.length_nil] at lbh9
                refine z_iload_n F dX9_putsNumber_38 rfl 0 rfl ?_
                refine z_bipush F dX9_putsNumber_39 (by decide) ?_
                refine z_idiv F dX9_putsNumber_41 (by omega) (by omega) ?_
                show Z _ _ _ _ _ _ _ _ _ _ _ _ _ _ _ _ _ _ _ _ [vI 1]
                refine z_istore_n (lv' := [(3, vI 1), (2, vI 1000), (0, vR (g 0)), (1, vI v9)]) F dX9_putsNumber_42 rfl (by decide) rfl ?_
                refine z_goto (tgt := 20) F dX9_putsNumber_43 (by decide) ?_
                refine z_iload_n F dX9_putsNumber_20 rfl 0 rfl ?_
                refine z_if_le (tgt := 46) F dX9_putsNumber_21 (by decide) (by decide) (fun c21 => ?_) (fun c21 => ?_)
                · exact absurd c21 (by decide)
                · refine z_aload_n F dX9_putsNumber_24 rfl 2 rfl ?_
                  refine z_bipush F dX9_putsNumber_25 (by decide) ?_
                  refine z_iload_n F dX9_putsNumber_27 rfl 3 rfl ?_
                  refine z_iload_n F dX9_putsNumber_28 rfl 0 rfl ?_
                  refine z_idiv F dX9_putsNumber_29 (by omega) (by omega) ?_
                  refine z_bipush F dX9_putsNumber_30 (by decide) ?_
                  refine z_irem F dX9_putsNumber_32 (by omega) (by omega) ?_
                  refine z_iadd F dX9_putsNumber_33 ?_
                  refine z_i2c F dX9_putsNumber_34 (i2c_id (by omega)) ?_
                  refine z_callV (As := [vI (48 + ((v9 / 1) % 10))]) (st := []) F (mX9_puts l G N0 h9 g (su (sw σ 28 fh9) 29 0 nh9) (48 + ((v9 / 1) % 10)) (L0 ++ [(48 + ((v9 / 1000) % 10))] ++ [(48 + ((v9 / 100) % 10))] ++ [(48 + ((v9 / 10) % 10))]) Ih9 (rg_su (rg_sw hR Rfh9) (by omega)) Th9 Ch9 (show 0 ≤ nh9 ∧ nh9 < 60 from by omega) (by omega)) cvX9_157 (mI Ih9 0 rfl) (fun r9 h9 => by cases h9; rfl) rfl rfl ⟨Nat.le_of_ble_eq_true rfl, Nat.le_of_ble_eq_true rfl⟩ rfl ⟨Nat.le_of_ble_eq_true rfl, Nat.le_of_ble_eq_true rfl⟩ dX9_putsNumber_35 ?_
                  rintro _ h10 ⟨rfl, fh10, nh10, Ih10, Th10, Ch10, Rfh10⟩
                  have Ih10 := TXb Ih10
                  show Z _ _ _ _ _ _ _ _ _ _ _ _ _ _ _ _ _ _ _ _ []
                  have Rfh10 := Rfh10
                  have lbh10 : nh10 = ((L0 ++ [(48 + ((v9 / 1000) % 10))] ++ [(48 + ((v9 / 100) % 10))] ++ [(48 + ((v9 / 10) % 10))] ++ [(48 + ((v9 / 1) % 10))]).length : Int) := Th10.1
                  simp only [List.length_append, List.length_cons, List.length_nil] at lbh10
                  refine z_iload_n F dX9_putsNumber_38 rfl 0 rfl ?_
                  refine z_bipush F dX9_putsNumber_39 (by decide) ?_
                  refine z_idiv F dX9_putsNumber_41 (by omega) (by omega) ?_
                  show Z _ _ _ _ _ _ _ _ _ _ _ _ _ _ _ _ _ _ _ _ [vI 0]
                  refine z_istore_n (lv' := [(3, vI 0), (2, vI 1000), (0, vR (g 0)), (1, vI v9)]) F dX9_putsNumber_42 rfl (by decide) rfl ?_
                  refine z_goto (tgt := 20) F dX9_putsNumber_43 (by decide) ?_
                  refine z_iload_n F dX9_putsNumber_20 rfl 0 rfl ?_
                  refine z_if_le (tgt := 46) F dX9_putsNumber_21 (by decide) (by decide) (fun c21 => ?_) (fun c21 => ?_)
                  · exact z_vret F hr (Nat.le_of_ble_eq_true rfl) (Nat.le_of_ble_eq_true rfl) dX9_putsNumber_46 (⟨rfl, _, _, Ih10, by rw [show decL v9 = [48 + v9 / 1000 % 10, 48 + v9 / 100 % 10, 48 + v9 / 10 % 10, 48 + v9 / 1 % 10] from by unfold decL; rw [if_neg (by omega), if_neg (by omega), if_neg (by omega), if_pos (by omega)]]; simpa only [List.append_assoc, List.cons_append, List.nil_append] using Th10, Ch10, Rfh10⟩)
                  · exact absurd c21 (by decide)
        · refine z_iload_n F dX9_putsNumber_10 rfl 0 rfl ?_
          refine z_bipush F dX9_putsNumber_11 (by decide) ?_
          refine z_imul F dX9_putsNumber_13 ?_
          show Z _ _ _ _ _ _ _ _ _ _ _ _ _ _ _ _ _ _ _ _ [vI 10000]
          refine z_istore_n (lv' := [(2, vI 10000), (0, vR (g 0)), (1, vI v9)]) F dX9_putsNumber_14 rfl (by decide) rfl ?_
          refine z_goto (tgt := 2) F dX9_putsNumber_15 (by decide) ?_
          refine z_iload_n F dX9_putsNumber_2 rfl 2 rfl ?_
          refine z_iload_n F dX9_putsNumber_3 rfl 0 rfl ?_
          refine z_idiv F dX9_putsNumber_4 (by omega) (by omega) ?_
          refine z_bipush F dX9_putsNumber_5 (by decide) ?_
          refine z_icmp_lt (tgt := 18) F dX9_putsNumber_7 (by decide) (by omega) (by decide) (fun c7 => ?_) (fun c7 => ?_)
          · refine z_iload_n F dX9_putsNumber_18 rfl 0 rfl ?_
            refine z_istore_n (lv' := [(3, vI 10000), (2, vI 10000), (0, vR (g 0)), (1, vI v9)]) F dX9_putsNumber_19 rfl (by decide) rfl ?_
            refine z_iload_n F dX9_putsNumber_20 rfl 0 rfl ?_
            refine z_if_le (tgt := 46) F dX9_putsNumber_21 (by decide) (by decide) (fun c21 => ?_) (fun c21 => ?_)
            · exact absurd c21 (by decide)
            · refine z_aload_n F dX9_putsNumber_24 rfl 2 rfl ?_
              refine z_bipush F dX9_putsNumber_25 (by decide) ?_
              refine z_iload_n F dX9_putsNumber_27 rfl 3 rfl ?_
              refine z_iload_n F dX9_putsNumber_28 rfl 0 rfl ?_
              refine z_idiv F dX9_putsNumber_29 (by omega) (by omega) ?_
              refine z_bipush F dX9_putsNumber_30 (by decide) ?_
              refine z_irem F dX9_putsNumber_32 (by omega) (by omega) ?_
              refine z_iadd F dX9_putsNumber_33 ?_
              refine z_i2c F dX9_putsNumber_34 (i2c_id (by omega)) ?_
              refine z_callV (As := [vI (48 + ((v9 / 10000) % 10))]) (st := []) F (mX9_puts l G N0 h g σ (48 + ((v9 / 10000) % 10)) (L0) hI hR hT hC (show 0 ≤ σ 29 0 ∧ σ 29 0 < 60 from by omega) (by omega)) cvX9_157 (mI hI 0 rfl) (fun r9 h9 => by cases h9; rfl) rfl rfl ⟨Nat.le_of_ble_eq_true rfl, Nat.le_of_ble_eq_true rfl⟩ rfl ⟨Nat.le_of_ble_eq_true rfl, Nat.le_of_ble_eq_true rfl⟩ dX9_putsNumber_35 ?_
              rintro _ h11 ⟨rfl, fh11, nh11, Ih11, Th11, Ch11, Rfh11⟩
              show Z _ _ _ _ _ _ _ _ _ _ _ _ _ _ _ _ _ _ _ _ []
              have Rfh11 := Rfh11
              have lbh11 : nh11 = ((L0 ++ [(48 + ((v9 / 10000) % 10))]).length : Int) := Th11.1
              simp only [List.length_append, List.length_cons, List.length_nil] at lbh11
              refine z_iload_n F dX9_putsNumber_38 rfl 0 rfl ?_
              refine z_bipush F dX9_putsNumber_39 (by decide) ?_
              refine z_idiv F dX9_putsNumber_41 (by omega) (by omega) ?_
              show Z _ _ _ _ _ _ _ _ _ _ _ _ _ _ _ _ _ _ _ _ [vI 1000]
              refine z_istore_n (lv' := [(3, vI 1000), (2, vI 10000), (0, vR (g 0)), (1, vI v9)]) F dX9_putsNumber_42 rfl (by decide) rfl ?_
              refine z_goto (tgt := 20) F dX9_putsNumber_43 (by decide) ?_
              refine z_iload_n F dX9_putsNumber_20 rfl 0 rfl ?_
              refine z_if_le (tgt := 46) F dX9_putsNumber_21 (by decide) (by decide) (fun c21 => ?_) (fun c21 => ?_)
              · exact absurd c21 (by decide)
              · refine z_aload_n F dX9_putsNumber_24 rfl 2 rfl ?_
                refine z_bipush F dX9_putsNumber_25 (by decide) ?_
                refine z_iload_n F dX9_putsNumber_27 rfl 3 rfl ?_
                refine z_iload_n F dX9_putsNumber_28 rfl 0 rfl ?_
                refine z_idiv F dX9_putsNumber_29 (by omega) (by omega) ?_
                refine z_bipush F dX9_putsNumber_30 (by decide) ?_
                refine z_irem F dX9_putsNumber_32 (by omega) (by omega) ?_
                refine z_iadd F dX9_putsNumber_33 ?_
                refine z_i2c F dX9_putsNumber_34 (i2c_id (by omega)) ?_
                refine z_callV (As := [vI (48 + ((v9 / 1000) % 10))]) (st := []) F (mX9_puts l G N0 h11 g (su (sw σ 28 fh11) 29 0 nh11) (48 + ((v9 / 1000) % 10)) (L0 ++ [(48 + ((v9 / 10000) % 10))]) Ih11 (rg_su (rg_sw hR Rfh11) (by omega)) Th11 Ch11 (show 0 ≤ nh11 ∧ nh11 < 60 from by omega) (by omega)) cvX9_157 (mI Ih11 0 rfl) (fun r9 h9 => by cases h9; rfl) rfl rfl ⟨Nat.le_of_ble_eq_true rfl, Nat.le_of_ble_eq_true rfl⟩ rfl ⟨Nat.le_of_ble_eq_true rfl, Nat.le_of_ble_eq_true rfl⟩ dX9_putsNumber_35 ?_
                rintro _ h12 ⟨rfl, fh12, nh12, Ih12, Th12, Ch12, Rfh12⟩
                have Ih12 := TXb Ih12
                show Z _ _ _ _ _ _ _ _ _ _ _ _ _ _ _ _ _ _ _ _ []
                have Rfh12 := Rfh12
                have lbh12 : nh12 = ((L0 ++ [(48 + ((v9 / 10000) % 10))] ++ [(48 + ((v9 / 1000) % 10))]).length : Int) := Th12.1
                simp only [List.length_append, List.length_cons, List.length_nil] at lbh12
                refine z_iload_n F dX9_putsNumber_38 rfl 0 rfl ?_
                refine z_bipush F dX9_putsNumber_39 (by decide) ?_
                refine z_idiv F dX9_putsNumber_41 (by omega) (by omega) ?_
                show Z _ _ _ _ _ _ _ _ _ _ _ _ _ _ _ _ _ _ _ _ [vI 100]
                refine z_istore_n (lv' := [(3, vI 100), (2, vI 10000), (0, vR (g 0)), (1, vI v9)]) F dX9_putsNumber_42 rfl (by decide) rfl ?_
                refine z_goto (tgt := 20) F dX9_putsNumber_43 (by decide) ?_
                refine z_iload_n F dX9_putsNumber_20 rfl 0 rfl ?_
                refine z_if_le (tgt := 46) F dX9_putsNumber_21 (by decide) (by decide) (fun c21 => ?_) (fun c21 => ?_)
                · exact absurd c21 (by decide)
                · refine z_aload_n F dX9_putsNumber_24 rfl 2 rfl ?_
                  refine z_bipush F dX9_putsNumber_25 (by decide) ?_
                  refine z_iload_n F dX9_putsNumber_27 rfl 3 rfl ?_
                  refine z_iload_n F dX9_putsNumber_28 rfl 0 rfl ?_
                  refine z_idiv F dX9_putsNumber_29 (by omega) (by omega) ?_
                  refine z_bipush F dX9_putsNumber_30 (by decide) ?_
                  refine z_irem F dX9_putsNumber_32 (by omega) (by omega) ?_
                  refine z_iadd F dX9_putsNumber_33 ?_
                  refine z_i2c F dX9_putsNumber_34 (i2c_id (by omega)) ?_
                  refine z_callV (As := [vI (48 + ((v9 / 100) % 10))]) (st := []) F (mX9_puts l G N0 h12 g (su (sw σ 28 fh12) 29 0 nh12) (48 + ((v9 / 100) % 10)) (L0 ++ [(48 + ((v9 / 10000) % 10))] ++ [(48 + ((v9 / 1000) % 10))]) Ih12 (rg_su (rg_sw hR Rfh12) (by omega)) Th12 Ch12 (show 0 ≤ nh12 ∧ nh12 < 60 from by omega) (by omega)) cvX9_157 (mI Ih12 0 rfl) (fun r9 h9 => by cases h9; rfl) rfl rfl ⟨Nat.le_of_ble_eq_true rfl, Nat.le_of_ble_eq_true rfl⟩ rfl ⟨Nat.le_of_ble_eq_true rfl, Nat.le_of_ble_eq_true rfl⟩ dX9_putsNumber_35 ?_
                  rintro _ h13 ⟨rfl, fh13, nh13, Ih13, Th13, Ch13, Rfh13⟩
                  have Ih13 := TXb Ih13
                  show Z _ _ _ _ _ _ _ _ _ _ _ _ _ _ _ _ _ _ _ _ []
                  have Rfh13 := Rfh13
                  have lbh13 : nh13 = ((L0 ++ [(48 + ((v9 / 10000) % 10))] ++ [(48 + ((v9 / 1000) % 10))] ++ [(48 + ((v9 / 100) % 10))]).length : Int) := Th13.1
                  simp only [List.length_append, List.length_cons, List.length_nil] at lbh13
                  refine z_iload_n F dX9_putsNumber_38 rfl 0 rfl ?_
                  refine z_bipush F dX9_putsNumber_39 (by decide) ?_
                  refine z_idiv F dX9_putsNumber_41 (by omega) (by omega) ?_
                  show Z _ _ _ _ _ _ _ _ _ _ _ _ _ _ _ _ _ _ _ _ [vI 10]
                  refine z_istore_n (lv' := [(3, vI 10), (2, vI 10000), (0, vR (g 0)), (1, vI v9)]) F dX9_putsNumber_42 rfl (by decide) rfl ?_
                  refine z_goto (tgt := 20) F dX9_putsNumber_43 (by decide) ?_
                  refine z_iload_n F dX9_putsNumber_20 rfl 0 rfl ?_
                  refine z_if_le (tgt := 46) F dX9_putsNumber_21 (by decide) (by decide) (fun c21 => ?_) (fun c21 => ?_)
                  · exact absurd c21 (by decide)
                  · refine z_aload_n F dX9_putsNumber_24 rfl 2 rfl ?_
                    refine z_bipush F dX9_putsNumber_25 (by decide) ?_
                    refine z_iload_n F dX9_putsNumber_27 rfl 3 rfl ?_
                    refine z_iload_n F dX9_putsNumber_28 rfl 0 rfl ?_
                    refine z_idiv F dX9_putsNumber_29 (by omega) (by omega) ?_
                    refine z_bipush F dX9_putsNumber_30 (by decide) ?_
                    refine z_irem F dX9_putsNumber_32 (by omega) (by omega) ?_
                    refine z_iadd F dX9_putsNumber_33 ?_
                    refine z_i2c F dX9_putsNumber_34 (i2c_id (by omega)) ?_
                    refine z_callV (As := [vI (48 + ((v9 / 10) % 10))]) (st := []) F (mX9_puts l G N0 h13 g (su (sw σ 28 fh13) 29 0 nh13) (48 + ((v9 / 10) % 10)) (L0 ++ [(48 + ((v9 / 10000) % 10))] ++ [(48 + ((v9 / 1000) % 10))] ++ [(48 + ((v9 / 100) % 10))]) Ih13 (rg_su (rg_sw hR Rfh13) (by omega)) Th13 Ch13 (show 0 ≤ nh13 ∧ nh13 < 60 from by omega) (by omega)) cvX9_157 (mI Ih13 0 rfl) (fun r9 h9 => by cases h9; rfl) rfl rfl ⟨Nat.le_of_ble_eq_true rfl, Nat.le_of_ble_eq_true rfl⟩ rfl ⟨Nat.le_of_ble_eq_true rfl, Nat.le_of_ble_eq_true rfl⟩ dX9_putsNumber_35 ?_
                    rintro _ h14 ⟨rfl, fh14, nh14, Ih14, Th14, Ch14, Rfh14⟩
                    have Ih14 := TXb Ih14
                    show Z _ _ _ _ _ _ _ _ _ _ _ _ _ _ _ _ _ _ _ _ []
                    have Rfh14 := Rfh14
                    have lbh14 : nh14 = ((L0 ++ [(48 + ((v9 / 10000) % 10))] ++ [(48 + ((v9 / 1000) % 10))] ++ [(48 + ((v9 / 100) % 10))] ++ [(48 + ((v9 / 10) % 10))]).length : Int) := Th14.1
                    simp only [List.length_append, List.length_cons, List.length_nil] at lbh14
                    refine z_iload_n F dX9_putsNumber_38 rfl 0 rfl ?_
                    refine z_bipush F dX9_putsNumber_39 (by decide) ?_
                    refine z_idiv F dX9_putsNumber_41 (by omega) (by omega) ?_
                    show Z _ _ _ _ _ _ _ _ _ _ _ _ _ _ _ _ _ _ _ _ [vI 1]
                    refine z_istore_n (lv' := [(3, vI 1), (2, vI 10000), (0, vR (g 0)), (1, vI v9)]) F dX9_putsNumber_42 rfl (by decide) rfl ?_
                    refine z_goto (tgt := 20) F dX9_putsNumber_43 (by decide) ?_
                    refine z_iload_n F dX9_putsNumber_20 rfl 0 rfl ?_
                    refine z_if_le (tgt := 46) F dX9_putsNumber_21 (by decide) (by decide) (fun c21 => ?_) (fun c21 => ?_)
                    · exact absurd c21 (by decide)
                    · refine z_aload_n F dX9_putsNumber_24 rfl 2 rfl ?_
                      refine z_bipush F dX9_putsNumber_25 (by decide) ?_
                      refine z_iload_n F dX9_putsNumber_27 rfl 3 rfl ?_
                      refine z_iload_n F dX9_putsNumber_28 rfl 0 rfl ?_
                      refine z_idiv F dX9_putsNumber_29 (by omega) (by omega) ?_
                      refine z_bipush F dX9_putsNumber_30 (by decide) ?_
                      refine z_irem F dX9_putsNumber_32 (by omega) (by omega) ?_
                      refine z_iadd F dX9_putsNumber_33 ?_
                      refine z_i2c F dX9_putsNumber_34 (i2c_id (by omega)) ?_
                      refine z_callV (As := [vI (48 + ((v9 / 1) % 10))]) (st := []) F (mX9_puts l G N0 h14 g (su (sw σ 28 fh14) 29 0 nh14) (48 + ((v9 / 1) % 10)) (L0 ++ [(48 + ((v9 / 10000) % 10))] ++ [(48 + ((v9 / 1000) % 10))] ++ [(48 + ((v9 / 100) % 10))] ++ [(48 + ((v9 / 10) % 10))]) Ih14 (rg_su (rg_sw hR Rfh14) (by omega)) Th14 Ch14 (show 0 ≤ nh14 ∧ nh14 < 60 from by omega) (by omega)) cvX9_157 (mI Ih14 0 rfl) (fun r9 h9 => by cases h9; rfl) rfl rfl ⟨Nat.le_of_ble_eq_true rfl, Nat.le_of_ble_eq_true rfl⟩ rfl ⟨Nat.le_of_ble_eq_true rfl, Nat.le_of_ble_eq_true rfl⟩ dX9_putsNumber_35 ?_
                      rintro _ h15 ⟨rfl, fh15, nh15, Ih15, Th15, Ch15, Rfh15⟩
                      have Ih15 := TXb Ih15
                      show Z _ _ _ _ _ _ _ _ _ _ _ _ _ _ _ _ _ _ _ _ []
                      have Rfh15 := Rfh15
                      have lbh15 : nh15 = ((L0 ++ [(48 + ((v9 / 10000) % 10))] ++ [(48 + ((v9 / 1000) % 10))] ++ [(48 + ((v9 / 100) % 10))] ++ [(48 + ((v9 / 10) % 10))] ++ [(48 + ((v9 / 1) % 10))]).length : Int) := Th15.1
                      simp only [List.length_append, List.length_cons, List.length_nil] at lbh15
                      refine z_iload_n F dX9_putsNumber_38 rfl 0 rfl ?_
                      refine z_bipush F dX9_putsNumber_39 (by decide) ?_
                      refine z_idiv F dX9_putsNumber_41 (by omega) (by omega) ?_
                      show Z _ _ _ _ _ _ _ _ _ _ _ _ _ _ _ _ _ _ _ _ [vI 0]
                      refine z_istore_n (lv' := [(3, vI 0), (2, vI 10000), (0, vR (g 0)), (1, vI v9)]) F dX9_putsNumber_42 rfl (by decide) rfl ?_
                      refine z_goto (tgt := 20) F dX9_putsNumber_43 (by decide) ?_
                      refine z_iload_n F dX9_putsNumber_20 rfl 0 rfl ?_
                      refine z_if_le (tgt := 46) F dX9_putsNumber_21 (by decide) (by decide) (fun c21 => ?_) (fun c21 => ?_)
                      · exact z_vret F hr (Nat.le_of_ble_eq_true rfl) (Nat.le_of_ble_eq_true rfl) dX9_putsNumber_46 (⟨rfl, _, _, Ih15, by rw [show decL v9 = [48 + v9 / 10000 % 10, 48 + v9 / 1000 % 10, 48 + v9 / 100 % 10, 48 + v9 / 10 % 10, 48 + v9 / 1 % 10] from by unfold decL; rw [if_neg (by omega), if_neg (by omega), if_neg (by omega), if_neg (by omega), if_pos (by omega)]]; simpa only [List.append_assoc, List.cons_append, List.nil_append] using Th15, Ch15, Rfh15⟩)
                      · exact absurd c21 (by decide)
          · refine z_iload_n F dX9_putsNumber_10 rfl 0 rfl ?_
            refine z_bipush F dX9_putsNumber_11 (by decide) ?_
            refine z_imul F dX9_putsNumber_13 ?_
            show Z _ _ _ _ _ _ _ _ _ _ _ _ _ _ _ _ _ _ _ _ [vI 100000]
            refine z_istore_n (lv' := [(2, vI 100000), (0, vR (g 0)), (1, vI v9)]) F dX9_putsNumber_14 rfl (by decide) rfl ?_
            refine z_goto (tgt := 2) F dX9_putsNumber_15 (by decide) ?_
            refine z_iload_n F dX9_putsNumber_2 rfl 2 rfl ?_
            refine z_iload_n F dX9_putsNumber_3 rfl 0 rfl ?_
            refine z_idiv F dX9_putsNumber_4 (by omega) (by omega) ?_
            refine z_bipush F dX9_putsNumber_5 (by decide) ?_
            refine z_icmp_lt (tgt := 18) F dX9_putsNumber_7 (by decide) (by omega) (by decide) (fun c7 => ?_) (fun c7 => ?_)
            · refine z_iload_n F dX9_putsNumber_18 rfl 0 rfl ?_
              refine z_istore_n (lv' := [(3, vI 100000), (2, vI 100000), (0, vR (g 0)), (1, vI v9)]) F dX9_putsNumber_19 rfl (by decide) rfl ?_
              refine z_iload_n F dX9_putsNumber_20 rfl 0 rfl ?_
              refine z_if_le (tgt := 46) F dX9_putsNumber_21 (by decide) (by decide) (fun c21 => ?_) (fun c21 => ?_)
              · exact absurd c21 (by decide)
              · refine z_aload_n F dX9_putsNumber_24 rfl 2 rfl ?_
                refine z_bipush F dX9_putsNumber_25 (by decide) ?_
                refine z_iload_n F dX9_putsNumber_27 rfl 3 rfl ?_
                refine z_iload_n F dX9_putsNumber_28 rfl 0 rfl ?_
                refine z_idiv F dX9_putsNumber_29 (by omega) (by omega) ?_
                refine z_bipush F dX9_putsNumber_30 (by decide) ?_
                refine z_irem F dX9_putsNumber_32 (by omega) (by omega) ?_
                refine z_iadd F dX9_putsNumber_33 ?_
                refine z_i2c F dX9_putsNumber_34 (i2c_id (by omega)) ?_
                refine z_callV (As := [vI (48 + ((v9 / 100000) % 10))]) (st := []) F (mX9_puts l G N0 h g σ (48 + ((v9 / 100000) % 10)) (L0) hI hR hT hC (show 0 ≤ σ 29 0 ∧ σ 29 0 < 60 from by omega) (by omega)) cvX9_157 (mI hI 0 rfl) (fun r9 h9 => by cases h9; rfl) rfl rfl ⟨Nat.le_of_ble_eq_true rfl, Nat.le_of_ble_eq_true rfl⟩ rfl ⟨Nat.le_of_ble_eq_true rfl, Nat.le_of_ble_eq_true rfl⟩ dX9_putsNumber_35 ?_
                rintro _ h16 ⟨rfl, fh16, nh16, Ih16, Th16, Ch16, Rfh16⟩
                show Z _ _ _ _ _ _ _ _ _ _ _ _ _ _ _ _ _ _ _ _ []
                have Rfh16 := Rfh16
                have lbh16 : nh16 = ((L0 ++ [(48 + ((v9 / 100000) % 10))]).length : Int) := Th16.1
                simp only [List.length_append, List.length_cons, List.length_nil] at lbh16
                refine z_iload_n F dX9_putsNumber_38 rfl 0 rfl ?_
                refine z_bipush F dX9_putsNumber_39 (by decide) ?_
                refine z_idiv F dX9_putsNumber_41 (by omega) (by omega) ?_
                show Z _ _ _ _ _ _ _ _ _ _ _ _ _ _ _ _ _ _ _ _ [vI 10000]
                refine z_istore_n (lv' := [(3, vI 10000), (2, vI 100000), (0, vR (g 0)), (1, vI v9)]) F dX9_putsNumber_42 rfl (by decide) rfl ?_
                refine z_goto (tgt := 20) F dX9_putsNumber_43 (by decide) ?_
                refine z_iload_n F dX9_putsNumber_20 rfl 0 rfl ?_
                refine z_if_le (tgt := 46) F dX9_putsNumber_21 (by decide) (by decide) (fun c21 => ?_) (fun c21 => ?_)
                · exact absurd c21 (by decide)
                · refine z_aload_n F dX9_putsNumber_24 rfl 2 rfl ?_
                  refine z_bipush F dX9_putsNumber_25 (by decide) ?_
                  refine z_iload_n F dX9_putsNumber_27 rfl 3 rfl ?_
                  refine z_iload_n F dX9_putsNumber_28 rfl 0 rfl ?_
                  refine z_idiv F dX9_putsNumber_29 (by omega) (by omega) ?_
                  refine z_bipush F dX9_putsNumber_30 (by decide) ?_
                  refine z_irem F dX9_putsNumber_32 (by omega) (by omega) ?_
                  refine z_iadd F dX9_putsNumber_33 ?_
                  refine z_i2c F dX9_putsNumber_34 (i2c_id (by omega)) ?_
                  refine z_callV (As := [vI (48 + ((v9 / 10000) % 10))]) (st := []) F (mX9_puts l G N0 h16 g (su (sw σ 28 fh16) 29 0 nh16) (48 + ((v9 / 10000) % 10)) (L0 ++ [(48 + ((v9 / 100000) % 10))]) Ih16 (rg_su (rg_sw hR Rfh16) (by omega)) Th16 Ch16 (show 0 ≤ nh16 ∧ nh16 < 60 from by omega) (by omega)) cvX9_157 (mI Ih16 0 rfl) (fun r9 h9 => by cases h9; rfl) rfl rfl ⟨Nat.le_of_ble_eq_true rfl, Nat.le_of_ble_eq_true rfl⟩ rfl ⟨Nat.le_of_ble_eq_true rfl, Nat.le_of_ble_eq_true rfl⟩ dX9_putsNumber_35 ?_
                  rintro _ h17 ⟨rfl, fh17, nh17, Ih17, Th17, Ch17, Rfh17⟩
                  have Ih17 := TXb Ih17
                  show Z _ _ _ _ _ _ _ _ _ _ _ _ _ _ _ _ _ _ _ _ []
                  have Rfh17 := Rfh17
                  have lbh17 : nh17 = ((L0 ++ [(48 + ((v9 / 100000) % 10))] ++ [(48 + ((v9 / 10000) % 10))]).length : Int) := Th17.1
                  simp only [List.length_append, List.length_cons, List.length_nil] at lbh17
                  refine z_iload_n F dX9_putsNumber_38 rfl 0 rfl ?_
                  refine z_bipush F dX9_putsNumber_39 (by decide) ?_
                  refine z_idiv F dX9_putsNumber_41 (by omega) (by omega) ?_
                  show Z _ _ _ _ _ _ _ _ _ _ _ _ _ _ _ _ _ _ _ _ [vI 1000]
                  refine z_istore_n (lv' := [(3, vI 1000), (2, vI 100000), (0, vR (g 0)), (1, vI v9)]) F dX9_putsNumber_42 rfl (by decide) rfl ?_
                  refine z_goto (tgt := 20) F dX9_putsNumber_43 (by decide) ?_
                  refine z_iload_n F dX9_putsNumber_20 rfl 0 rfl ?_
                  refine z_if_le (tgt := 46) F dX9_putsNumber_21 (by decide) (by decide) (fun c21 => ?_) (fun c21 => ?_)
                  · exact absurd c21 (by decide)
                  · refine z_aload_n F dX9_putsNumber_24 rfl 2 rfl ?_
                    refine z_bipush F dX9_putsNumber_25 (by decide) ?_
                    refine z_iload_n F dX9_putsNumber_27 rfl 3 rfl ?_
                    refine z_iload_n F dX9_putsNumber_28 rfl 0 rfl ?_
                    refine z_idiv F dX9_putsNumber_29 (by omega) (by omega) ?_
                    refine z_bipush F dX9_putsNumber_30 (by decide) ?_
                    refine z_irem F dX9_putsNumber_32 (by omega) (by omega) ?_
                    refine z_iadd F dX9_putsNumber_33 ?_
                    refine z_i2c F dX9_putsNumber_34 (i2c_id (by omega)) ?_
                    refine z_callV (As := [vI (48 + ((v9 / 1000) % 10))]) (st := []) F (mX9_puts l G N0 h17 g (su (sw σ 28 fh17) 29 0 nh17) (48 + ((v9 / 1000) % 10)) (L0 ++ [(48 + ((v9 / 100000) % 10))] ++ [(48 + ((v9 / 10000) % 10))]) Ih17 (rg_su (rg_sw hR Rfh17) (by omega)) Th17 Ch17 (show 0 ≤ nh17 ∧ nh17 < 60 from by omega) (by omega)) cvX9_157 (mI Ih17 0 rfl) (fun r9 h9 => by cases h9; rfl) rfl rfl ⟨Nat.le_of_ble_eq_true rfl, Nat.le_of_ble_eq_true rfl⟩ rfl ⟨Nat.le_of_ble_eq_true rfl, Nat.le_of_ble_eq_true rfl⟩ dX9_putsNumber_35 ?_
                    rintro _ h18 ⟨rfl, fh18, nh18, Ih18, Th18, Ch18, Rfh18⟩
                    have Ih18 := TXb Ih18
                    show Z _ _ _ _ _ _ _ _ _ _ _ _ _ _ _ _ _ _ _ _ []
                    have Rfh18 := Rfh18
                    have lbh18 : nh18 = ((L0 ++ [(48 + ((v9 / 100000) % 10))] ++ [(48 + ((v9 / 10000) % 10))] ++ [(48 + ((v9 / 1000) % 10))]).length : Int) := Th18.1
                    simp only [List.length_append, List.length_cons, List.length_nil] at lbh18
                    refine z_iload_n F dX9_putsNumber_38 rfl 0 rfl ?_
                    refine z_bipush F dX9_putsNumber_39 (by decide) ?_
                    refine z_idiv F dX9_putsNumber_41 (by omega) (by omega) ?_
                    show Z _ _ _ _ _ _ _ _ _ _ _ _ _ _ _ _ _ _ _ _ [vI 100]
                    refine z_istore_n (lv' := [(3, vI 100), (2, vI 100000), (0, vR (g 0)), (1, vI v9)]) F dX9_putsNumber_42 rfl (by decide) rfl ?_
                    refine z_goto (tgt := 20) F dX9_putsNumber_43 (by decide) ?_
                    refine z_iload_n F dX9_putsNumber_20 rfl 0 rfl ?_
                    refine z_if_le (tgt := 46) F dX9_putsNumber_21 (by decide) (by decide) (fun c21 => ?_) (fun c21 => ?_)
                    · exact absurd c21 (by decide)
                    · refine z_aload_n F dX9_putsNumber_24 rfl 2 rfl ?_
                      refine z_bipush F dX9_putsNumber_25 (by decide) ?_
                      refine z_iload_n F dX9_putsNumber_27 rfl 3 rfl ?_
                      refine z_iload_n F dX9_putsNumber_28 rfl 0 rfl ?_
                      refine z_idiv F dX9_putsNumber_29 (by omega) (by omega) ?_
                      refine z_bipush F dX9_putsNumber_30 (by decide) ?_
                      refine z_irem F dX9_putsNumber_32 (by omega) (by omega) ?_
                      refine z_iadd F dX9_putsNumber_33 ?_
                      refine z_i2c F dX9_putsNumber_34 (i2c_id (by omega)) ?_
                      refine z_callV (As := [vI (48 + ((v9 / 100) % 10))]) (st := []) F (mX9_puts l G N0 h18 g (su (sw σ 28 fh18) 29 0 nh18) (48 + ((v9 / 100) % 10)) (L0 ++ [(48 + ((v9 / 100000) % 10))] ++ [(48 + ((v9 / 10000) % 10))] ++ [(48 + ((v9 / 1000) % 10))]) Ih18 (rg_su (rg_sw hR Rfh18) (by omega)) Th18 Ch18 (show 0 ≤ nh18 ∧ nh18 < 60 from by omega) (by omega)) cvX9_157 (mI Ih18 0 rfl) (fun r9 h9 => by cases h9; rfl) rfl rfl ⟨Nat.le_of_ble_eq_true rfl, Nat.le_of_ble_eq_true rfl⟩ rfl ⟨Nat.le_of_ble_eq_true rfl, Nat.le_of_ble_eq_true rfl⟩ dX9_putsNumber_35 ?_
                      rintro _ h19 ⟨rfl, fh19, nh19, Ih19, Th19, Ch19, Rfh19⟩
                      have Ih19 := TXb Ih19
                      show Z _ _ _ _ _ _ _ _ _ _ _ _ _ _ _ _ _ _ _ _ []
                      have Rfh19 := Rfh19
                      have lbh19 : nh19 = ((L0 ++ [(48 + ((v9 / 100000) % 10))] ++ [(48 + ((v9 / 10000) % 10))] ++ [(48 + ((v9 / 1000) % 10))] ++ [(48 + ((v9 / 100) % 10))]).length : Int) := Th19.1
                      simp only [List.length_append, List.length_cons, List.length_nil] at lbh19
                      refine z_iload_n F dX9_putsNumber_38 rfl 0 rfl ?_
                      refine z_bipush F dX9_putsNumber_39 (by decide) ?_
                      refine z_idiv F dX9_putsNumber_41 (by omega) (by omega) ?_
                      show Z _ _ _ _ _ _ _ _ _ _ _ _ _ _ _ _ _ _ _ _ [vI 10]
                      refine z_istore_n (lv' := [(3, vI 10), (2, vI 100000), (0, vR (g 0)), (1, vI v9)]) F dX9_putsNumber_42 rfl (by decide) rfl ?_
                      refine z_goto (tgt := 20) F dX9_putsNumber_43 (by decide) ?_
                      refine z_iload_n F dX9_putsNumber_20 rfl 0 rfl ?_
                      refine z_if_le (tgt := 46) F dX9_putsNumber_21 (by decide) (by decide) (fun c21 => ?_) (fun c21 => ?_)
                      · exact absurd c21 (by decide)
                      · refine z_aload_n F dX9_putsNumber_24 rfl 2 rfl ?_
                        refine z_bipush F dX9_putsNumber_25 (by decide) ?_
                        refine z_iload_n F dX9_putsNumber_27 rfl 3 rfl ?_
                        refine z_iload_n F dX9_putsNumber_28 rfl 0 rfl ?_
                        refine z_idiv F dX9_putsNumber_29 (by omega) (by omega) ?_
                        refine z_bipush F dX9_putsNumber_30 (by decide) ?_
                        refine z_irem F dX9_putsNumber_32 (by omega) (by omega) ?_
                        refine z_iadd F dX9_putsNumber_33 ?_
                        refine z_i2c F dX9_putsNumber_34 (i2c_id (by omega)) ?_
                        refine z_callV (As := [vI (48 + ((v9 / 10) % 10))]) (st := []) F (mX9_puts l G N0 h19 g (su (sw σ 28 fh19) 29 0 nh19) (48 + ((v9 / 10) % 10)) (L0 ++ [(48 + ((v9 / 100000) % 10))] ++ [(48 + ((v9 / 10000) % 10))] ++ [(48 + ((v9 / 1000) % 10))] ++ [(48 + ((v9 / 100) % 10))]) Ih19 (rg_su (rg_sw hR Rfh19) (by omega)) Th19 Ch19 (show 0 ≤ nh19 ∧ nh19 < 60 from by omega) (by omega)) cvX9_157 (mI Ih19 0 rfl) (fun r9 h9 => by cases h9; rfl) rfl rfl ⟨Nat.le_of_ble_eq_true rfl, Nat.le_of_ble_eq_true rfl⟩ rfl ⟨Nat.le_of_ble_eq_true rfl, Nat.le_of_ble_eq_true rfl⟩ dX9_putsNumber_35 ?_
                        rintro _ h20 ⟨rfl, fh20, nh20, Ih20, Th20, Ch20, Rfh20⟩
                        have Ih20 := TXb Ih20
                        show Z _ _ _ _ _ _ _ _ _ _ _ _ _ _ _ _ _ _ _ _ []
                        have Rfh20 := Rfh20
                        have lbh20 : nh20 = ((L0 ++ [(48 + ((v9 / 100000) % 10))] ++ [(48 + ((v9 / 10000) % 10))] ++ [(48 + ((v9 / 1000) % 10))] ++ [(48 + ((v9 / 100) % 10))] ++ [(48 + ((v9 / 10) % 10))]).length : Int) := Th20.1
                        simp only [List.length_append, List.length_cons, List.length_nil] at lbh20
                        refine z_iload_n F dX9_putsNumber_38 rfl 0 rfl ?_
                        refine z_bipush F dX9_putsNumber_39 (by decide) ?_
                        refine z_idiv F dX9_putsNumber_41 (by omega) (by omega) ?_
                        show Z _ _ _ _ _ _ _ _ _ _ _ _ _ _ _ _ _ _ _ _ [vI 1]
                        refine z_istore_n (lv' := [(3, vI 1), (2, vI 100000), (0, vR (g 0)), (1, vI v9)]) F dX9_putsNumber_42 rfl (by decide) rfl ?_
                        refine z_goto (tgt := 20) F dX9_putsNumber_43 (by decide) ?_
                        refine z_iload_n F dX9_putsNumber_20 rfl 0 rfl ?_
                        refine z_if_le (tgt := 46) F dX9_putsNumber_21 (by decide) (by decide) (fun c21 => ?_) (fun c21 => ?_)
                        · exact absurd c21 (by decide)
                        · refine z_aload_n F dX9_putsNumber_24 rfl 2 rfl ?_
                          refine z_bipush F dX9_putsNumber_25 (by decide) ?_
                          refine z_iload_n F dX9_putsNumber_27 rfl 3 rfl ?_
                          refine z_iload_n F dX9_putsNumber_28 rfl 0 rfl ?_
                          refine z_idiv F dX9_putsNumber_29 (by omega) (by omega) ?_
                          refine z_bipush F dX9_putsNumber_30 (by decide) ?_
                          refine z_irem F dX9_putsNumber_32 (by omega) (by omega) ?_
                          refine z_iadd F dX9_putsNumber_33 ?_
                          refine z_i2c F dX9_putsNumber_34 (i2c_id (by omega)) ?_
                          refine z_callV (As := [vI (48 + ((v9 / 1) % 10))]) (st := []) F (mX9_puts l G N0 h20 g (su (sw σ 28 fh20) 29 0 nh20) (48 + ((v9 / 1) % 10)) (L0 ++ [(48 + ((v9 / 100000) % 10))] ++ [(48 + ((v9 / 10000) % 10))] ++ [(48 + ((v9 / 1000) % 10))] ++ [(48 + ((v9 / 100) % 10))] ++ [(48 + ((v9 / 10) % 10))]) Ih20 (rg_su (rg_sw hR Rfh20) (by omega)) Th20 Ch20 (show 0 ≤ nh20 ∧ nh20 < 60 from by omega) (by omega)) cvX9_157 (mI Ih20 0 rfl) (fun r9 h9 => by cases h9; rfl) rfl rfl ⟨Nat.le_of_ble_eq_true rfl, Nat.le_of_ble_eq_true rfl⟩ rfl ⟨Nat.le_of_ble_eq_true rfl, Nat.le_of_ble_eq_true rfl⟩ dX9_putsNumber_35 ?_
                          rintro _ h21 ⟨rfl, fh21, nh21, Ih21, Th21, Ch21, Rfh21⟩
                          have Ih21 := TXb Ih21
                          show Z _ _ _ _ _ _ _ _ _ _ _ _ _ _ _ _ _ _ _ _ []
                          have Rfh21 := Rfh21
                          have lbh21 : nh21 = ((L0 ++ [(48 + ((v9 / 100000) % 10))] ++ [(48 + ((v9 / 10000) % 10))] ++ [(48 + ((v9 / 1000) % 10))] ++ [(48 + ((v9 / 100) % 10))] ++ [(48 + ((v9 / 10) % 10))] ++ [(48 + ((v9 / 1) % 10))]).length : Int) := Th21.1
                          simp only [List.length_append, List.length_cons, List.length_nil] at lbh21
                          refine z_iload_n F dX9_putsNumber_38 rfl 0 rfl ?_
                          refine z_bipush F dX9_putsNumber_39 (by decide) ?_
                          refine z_idiv F dX9_putsNumber_41 (by omega) (by omega) ?_
                          show Z _ _ _ _ _ _ _ _ _ _ _ _ _ _ _ _ _ _ _ _ [vI 0]
                          refine z_istore_n (lv' := [(3, vI 0), (2, vI 100000), (0, vR (g 0)), (1, vI v9)]) F dX9_putsNumber_42 rfl (by decide) rfl ?_
                          refine z_goto (tgt := 20) F dX9_putsNumber_43 (by decide) ?_
                          refine z_iload_n F dX9_putsNumber_20 rfl 0 rfl ?_
                          refine z_if_le (tgt := 46) F dX9_putsNumber_21 (by decide) (by decide) (fun c21 => ?_) (fun c21 => ?_)
                          · exact z_vret F hr (Nat.le_of_ble_eq_true rfl) (Nat.le_of_ble_eq_true rfl) dX9_putsNumber_46 (⟨rfl, _, _, Ih21, by rw [show decL v9 = [48 + v9 / 100000 % 10, 48 + v9 / 10000 % 10, 48 + v9 / 1000 % 10, 48 + v9 / 100 % 10, 48 + v9 / 10 % 10, 48 + v9 / 1 % 10] from by unfold decL; rw [if_neg (by omega), if_neg (by omega), if_neg (by omega), if_neg (by omega), if_neg (by omega)]]; simpa only [List.append_assoc, List.cons_append, List.nil_append] using Th21, Ch21, Rfh21⟩)
                          · exact absurd c21 (by decide)
            · exact absurd c7 (by omega)
