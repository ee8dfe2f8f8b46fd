set_option maxRecDepth 100000 in
set_option maxHeartbeats 4000000 in
theorem mX9_in (l : Launch) (G : GG) (N0 : Nat) (h : Hp) (v lo hi : Int) (r_v : -2147483648 ≤ v ∧ v < 2147483648) (r_lo : -2147483648 ≤ lo ∧ lo < 2147483648) (r_hi : -2147483648 ≤ hi ∧ hi < 2147483648) : Ct l G N0 yX9_in (Cond.code yX9_in cX9_in 3 (some FieldType.boolean) :: LW) ({ frames := 0, cells := 0, slots := 0, locals := 0 }) [vI v, vI lo, vI hi] h (fun r h' => r = some (vI (if lo ≤ v ∧ v ≤ hi then 1 else 0)) ∧ h' = h) := by
  refine ct_of rfl rfl ?_
  intro p e s m args below meth c F hr hnm
  have F : Fx p s m args meth c RX9 cX9_in 3 G N0 (cA h s.heap.size) := F
  show Z _ _ _ _ _ _ _ _ _ _ _ _ _ _ _ _ _ _ _ [(0, vI v), (1, vI lo), (2, vI hi)] []
  refine z_iload_n F dX9_in_0 rfl 0 rfl ?_
  refine z_iload_n F dX9_in_1 rfl 1 rfl ?_
  refine z_icmp_lt (tgt := 14) F dX9_in_2 (by decide) (by omega) (by omega) (fun c2 => ?_) (fun c2 => ?_)
  · refine z_iconst F dX9_in_14 ?_
    exact z_iret (nf_z (by omega)) F hr (Nat.le_of_ble_eq_true rfl) (Nat.le_of_ble_eq_true rfl) dX9_in_15 ⟨rI (by split <;> omega), rfl⟩
  · refine z_iload_n F dX9_in_5 rfl 0 rfl ?_
    refine z_iload_n F dX9_in_6 rfl 2 rfl ?_
    refine z_icmp_gt (tgt := 14) F dX9_in_7 (by decide) (by omega) (by omega) (fun c7 => ?_) (fun c7 => ?_)
    · refine z_iconst F dX9_in_14 ?_
      exact z_iret (nf_z (by omega)) F hr (Nat.le_of_ble_eq_true rfl) (Nat.le_of_ble_eq_true rfl) dX9_in_15 ⟨rI (by split <;> omega), rfl⟩
    · refine z_iconst F dX9_in_10 ?_
      refine z_goto (tgt := 15) F dX9_in_11 (by decide) ?_
      exact z_iret (nf_z (by omega)) F hr (Nat.le_of_ble_eq_true rfl) (Nat.le_of_ble_eq_true rfl) dX9_in_15 ⟨rI (by split <;> omega), rfl⟩
set_option maxRecDepth 100000 in
set_option maxHeartbeats 4000000 in
theorem mX9_fails (l : Launch) (G : GG) (N0 : Nat) (h : Hp) (g : Nat → Nat) (σ : Sg) (pl : Int) (hI : MI g σ h) (hR : RG σ) (r_pl : -2147483648 ≤ pl ∧ pl < 2147483648) : Ct l G N0 yX9_fails (Cond.code yX9_fails cX9_fails 2 (some FieldType.boolean) :: LW) ({ frames := 0, cells := 0, slots := 0, locals := 0 }) [vR (g 0), vI pl] h (fun r h' => r = some (vI (if 0 < pl then 1 else 0)) ∧ MI g (su σ 30 0 pl) h') := by
  refine ct_of rfl rfl ?_
  intro p e s m args below meth c F hr hnm
  have F : Fx p s m args meth c RX9 cX9_fails 2 G N0 (cA h s.heap.size) := F
  show Z _ _ _ _ _ _ _ _ _ _ _ _ _ _ _ _ _ _ _ [(0, vR (g 0)), (1, vI pl)] []
  refine z_aload_n F dX9_fails_0 rfl 0 rfl ?_
  refine z_iload_n F dX9_fails_1 rfl 1 rfl ?_
  obtain ⟨h1, eh1, Ih1⟩ : ∃ z : Hp, hu h (g 0) (eO 14 [vI (σ 0 0), vI (σ 1 0), vI (σ 2 0), vR (g 3), vR (g 4), vR (g 5), vR (g 6), vR (g 7), vI (σ 8 0), vR (g 9), vR (g 10), vR (g 11), vR (g 12), vR (g 13), vR (g 14), vR (g 15), vI (σ 16 0), vR (g 17), vR (g 18), vR (g 19), vR (g 20), vR (g 21), vR (g 22), vR (g 23), vI (σ 24 0), vR (g 25), vR (g 26), vR (g 27), vR (g 28), vI (σ 29 0), vI pl]) = z ∧ MI g (su σ 30 0 pl) z := ⟨_, rfl, mPs hI 30 rfl pl⟩
  refine z_put (fs := [vI (σ 0 0), vI (σ 1 0), vI (σ 2 0), vR (g 3), vR (g 4), vR (g 5), vR (g 6), vR (g 7), vI (σ 8 0), vR (g 9), vR (g 10), vR (g 11), vR (g 12), vR (g 13), vR (g 14), vR (g 15), vI (σ 16 0), vR (g 17), vR (g 18), vR (g 19), vR (g 20), vR (g 21), vR (g 22), vR (g 23), vI (σ 24 0), vR (g 25), vR (g 26), vR (g 27), vR (g 28), vI (σ 29 0), vI (σ 30 0)]) (fs' := [vI (σ 0 0), vI (σ 1 0), vI (σ 2 0), vR (g 3), vR (g 4), vR (g 5), vR (g 6), vR (g 7), vI (σ 8 0), vR (g 9), vR (g 10), vR (g 11), vR (g 12), vR (g 13), vR (g 14), vR (g 15), vI (σ 16 0), vR (g 17), vR (g 18), vR (g 19), vR (g 20), vR (g 21), vR (g 22), vR (g 23), vI (σ 24 0), vR (g 25), vR (g 26), vR (g 27), vR (g 28), vI (σ 29 0), vI pl]) (h' := h1) F (mI hI 0 rfl) fX9_86 ftX9_30 (nf_i _) (Nat.le_of_ble_eq_true rfl) rfl dX9_fails_2 eh1 ?_
  refine z_iload_n F dX9_fails_5 rfl 1 rfl ?_
  refine z_if_le (tgt := 13) F dX9_fails_6 (by decide) (by omega) (fun c6 => ?_) (fun c6 => ?_)
  · refine z_iconst F dX9_fails_13 ?_
    exact z_iret (nf_z (by omega)) F hr (Nat.le_of_ble_eq_true rfl) (Nat.le_of_ble_eq_true rfl) dX9_fails_14 ⟨rI (by split <;> omega), Ih1⟩
  · refine z_iconst F dX9_fails_9 ?_
    refine z_goto (tgt := 14) F dX9_fails_10 (by decide) ?_
    exact z_iret (nf_z (by omega)) F hr (Nat.le_of_ble_eq_true rfl) (Nat.le_of_ble_eq_true rfl) dX9_fails_14 ⟨rI (by split <;> omega), Ih1⟩
set_option maxRecDepth 100000 in
set_option maxHeartbeats 4000000 in
theorem mX9_tells (l : Launch) (G : GG) (N0 : Nat) (h : Hp) (g : Nat → Nat) (σ : Sg) (v : Int) (hI : MI g σ h) (hR : RG σ) (r_v : -2147483648 ≤ v ∧ v < 2147483648) : Ct l G N0 yX9_tells (Cond.code yX9_tells cX9_tells 2 (some FieldType.int) :: LW) ({ frames := 0, cells := 0, slots := 0, locals := 0 }) [vR (g 0), vI v] h (fun r h' => r = some (vI v) ∧ MI g (su σ 30 0 0) h') := by
  refine ct_of rfl rfl ?_
  intro p e s m args below meth c F hr hnm
  have F : Fx p s m args meth c RX9 cX9_tells 2 G N0 (cA h s.heap.size) := F
  show Z _ _ _ _ _ _ _ _ _ _ _ _ _ _ _ _ _ _ _ [(0, vR (g 0)), (1, vI v)] []
  refine z_aload_n F dX9_tells_0 rfl 0 rfl ?_
  refine z_iconst F dX9_tells_1 ?_
  obtain ⟨h1, eh1, Ih1⟩ : ∃ z : Hp, hu h (g 0) (eO 14 [vI (σ 0 0), vI (σ 1 0), vI (σ 2 0), vR (g 3), vR (g 4), vR (g 5), vR (g 6), vR (g 7), vI (σ 8 0), vR (g 9), vR (g 10), vR (g 11), vR (g 12), vR (g 13), vR (g 14), vR (g 15), vI (σ 16 0), vR (g 17), vR (g 18), vR (g 19), vR (g 20), vR (g 21), vR (g 22), vR (g 23), vI (σ 24 0), vR (g 25), vR (g 26), vR (g 27), vR (g 28), vI (σ 29 0), vI 0]) = z ∧ MI g (su σ 30 0 0) z := ⟨_, rfl, mPs hI 30 rfl 0⟩
  refine z_put (fs := [vI (σ 0 0), vI (σ 1 0), vI (σ 2 0), vR (g 3), vR (g 4), vR (g 5), vR (g 6), vR (g 7), vI (σ 8 0), vR (g 9), vR (g 10), vR (g 11), vR (g 12), vR (g 13), vR (g 14), vR (g 15), vI (σ 16 0), vR (g 17), vR (g 18), vR (g 19), vR (g 20), vR (g 21), vR (g 22), vR (g 23), vI (σ 24 0), vR (g 25), vR (g 26), vR (g 27), vR (g 28), vI (σ 29 0), vI (σ 30 0)]) (fs' := [vI (σ 0 0), vI (σ 1 0), vI (σ 2 0), vR (g 3), vR (g 4), vR (g 5), vR (g 6), vR (g 7), vI (σ 8 0), vR (g 9), vR (g 10), vR (g 11), vR (g 12), vR (g 13), vR (g 14), vR (g 15), vI (σ 16 0), vR (g 17), vR (g 18), vR (g 19), vR (g 20), vR (g 21), vR (g 22), vR (g 23), vI (σ 24 0), vR (g 25), vR (g 26), vR (g 27), vR (g 28), vI (σ 29 0), vI 0]) (h' := h1) F (mI hI 0 rfl) fX9_86 ftX9_30 (nf_i _) (Nat.le_of_ble_eq_true rfl) rfl dX9_tells_2 eh1 ?_
  refine z_iload_n F dX9_tells_5 rfl 1 rfl ?_
  exact z_iret (nf_i _) F hr (Nat.le_of_ble_eq_true rfl) (Nat.le_of_ble_eq_true rfl) dX9_tells_6 ⟨rfl, Ih1⟩
set_option maxRecDepth 100000 in
set_option maxHeartbeats 4000000 in
theorem mX9_thrown (l : Launch) (G : GG) (N0 : Nat) (h : Hp) (g : Nat → Nat) (σ : Sg) (hI : MI g σ h) (hR : RG σ) : Ct l G N0 yX9_thrown (Cond.code yX9_thrown cX9_thrown 1 (some FieldType.int) :: LW) ({ frames := 0, cells := 0, slots := 0, locals := 0 }) [vR (g 0)] h (fun r h' => r = some (vI (σ 30 0)) ∧ h' = h) := by
  refine ct_of rfl rfl ?_
  intro p e s m args below meth c F hr hnm
  have F : Fx p s m args meth c RX9 cX9_thrown 1 G N0 (cA h s.heap.size) := F
  show Z _ _ _ _ _ _ _ _ _ _ _ _ _ _ _ _ _ _ _ [(0, vR (g 0))] []
  refine z_aload_n F dX9_thrown_0 rfl 0 rfl ?_
  refine z_get (v := vI (σ 30 0)) F (mI hI 0 rfl) fX9_86 rfl dX9_thrown_1 ?_
  exact z_iret (nf_i _) F hr (Nat.le_of_ble_eq_true rfl) (Nat.le_of_ble_eq_true rfl) dX9_thrown_4 ⟨rfl, rfl⟩
set_option maxRecDepth 100000 in
set_option maxHeartbeats 4000000 in
theorem mX9_isNoClient (l : Launch) (G : GG) (N0 : Nat) (h : Hp) (g : Nat → Nat) (σ : Sg) (c9 : Int) (hI : MI g σ h) (hR : RG σ) (r_c9 : -2147483648 ≤ c9 ∧ c9 < 2147483648) (hc : 0 ≤ σ 2 0 ∧ σ 2 0 ≤ 5) : Ct l G N0 yX9_isNoClient (Cond.code yX9_isNoClient cX9_isNoClient 2 (some FieldType.boolean) :: LW) ({ frames := 1, cells := 0, slots := 0, locals := 30 }) [vR (g 0), vI c9] h (fun r h' => r = some (vI (if 0 ≤ c9 ∧ c9 < σ 2 0 then 0 else 1)) ∧ h' = h) := by
  refine ct_of rfl rfl ?_
  intro p e s m args below meth c F hr hnm
  have F : Fx p s m args meth c RX9 cX9_isNoClient 2 G N0 (cA h s.heap.size) := F
  show Z _ _ _ _ _ _ _ _ _ _ _ _ _ _ _ _ _ _ _ [(0, vR (g 0)), (1, vI c9)] []
  refine z_iload_n F dX9_isNoClient_0 rfl 1 rfl ?_
  refine z_iconst F dX9_isNoClient_1 ?_
  refine z_aload_n F dX9_isNoClient_2 rfl 0 rfl ?_
  refine z_get (v := vI (σ 2 0)) F (mI hI 0 rfl) fX9_90 rfl dX9_isNoClient_3 ?_
  refine z_iconst F dX9_isNoClient_6 ?_
  refine z_isub F dX9_isNoClient_7 ?_
  refine z_callS (As := [vI c9, vI 0, vI ((σ 2 0) - 1)]) (st := []) F (mX9_in l G N0 h c9 0 ((σ 2 0) - 1) (by omega) (by decide) (by omega)) csX9_93 rfl rfl ⟨Nat.le_of_ble_eq_true rfl, Nat.le_of_ble_eq_true rfl⟩ rfl ⟨Nat.le_of_ble_eq_true rfl, Nat.le_of_ble_eq_true rfl⟩ dX9_isNoClient_8 ?_
  rintro _ h9 ⟨rfl, hh9⟩
  rw [hh9]
  clear hh9 h9
  generalize ex1 : (if 0 ≤ c9 ∧ c9 ≤ (σ 2 0) - 1 then (1 : Int) else 0) = x1
  refine z_if_ne (tgt := 18) F dX9_isNoClient_11 (by decide) (by omega) (fun c11 => ?_) (fun c11 => ?_)
  · refine z_iconst F dX9_isNoClient_18 ?_
    exact z_iret (nf_z (by omega)) F hr (Nat.le_of_ble_eq_true rfl) (Nat.le_of_ble_eq_true rfl) dX9_isNoClient_19 ⟨rI (by omega), rfl⟩
  · refine z_iconst F dX9_isNoClient_14 ?_
    refine z_goto (tgt := 19) F dX9_isNoClient_15 (by decide) ?_
    exact z_iret (nf_z (by omega)) F hr (Nat.le_of_ble_eq_true rfl) (Nat.le_of_ble_eq_true rfl) dX9_isNoClient_19 ⟨rI (by omega), rfl⟩
set_option maxRecDepth 100000 in
set_option maxHeartbeats 4000000 in
theorem mX9_isNone (l : Launch) (G : GG) (N0 : Nat) (h : Hp) (g : Nat → Nat) (σ : Sg) (c9 : Int) (hI : MI g σ h) (hR : RG σ) (r_c9 : -2147483648 ≤ c9 ∧ c9 < 2147483648) (hc : 0 ≤ σ 8 0 ∧ σ 8 0 ≤ 24) : Ct l G N0 yX9_isNone (Cond.code yX9_isNone cX9_isNone 2 (some FieldType.boolean) :: LW) ({ frames := 1, cells := 0, slots := 0, locals := 30 }) [vR (g 0), vI c9] h (fun r h' => r = some (vI (if 0 ≤ c9 ∧ c9 < σ 8 0 then 0 else 1)) ∧ h' = h) := by
  refine ct_of rfl rfl ?_
  intro p e s m args below meth c F hr hnm
  have F : Fx p s m args meth c RX9 cX9_isNone 2 G N0 (cA h s.heap.size) := F
  show Z _ _ _ _ _ _ _ _ _ _ _ _ _ _ _ _ _ _ _ [(0, vR (g 0)), (1, vI c9)] []
  refine z_iload_n F dX9_isNone_0 rfl 1 rfl ?_
  refine z_iconst F dX9_isNone_1 ?_
  refine z_aload_n F dX9_isNone_2 rfl 0 rfl ?_
  refine z_get (v := vI (σ 8 0)) F (mI hI 0 rfl) fX9_97 rfl dX9_isNone_3 ?_
  refine z_iconst F dX9_isNone_6 ?_
  refine z_isub F dX9_isNone_7 ?_
  refine z_callS (As := [vI c9, vI 0, vI ((σ 8 0) - 1)]) (st := []) F (mX9_in l G N0 h c9 0 ((σ 8 0) - 1) (by omega) (by decide) (by omega)) csX9_93 rfl rfl ⟨Nat.le_of_ble_eq_true rfl, Nat.le_of_ble_eq_true rfl⟩ rfl ⟨Nat.le_of_ble_eq_true rfl, Nat.le_of_ble_eq_true rfl⟩ dX9_isNone_8 ?_
  rintro _ h9 ⟨rfl, hh9⟩
  rw [hh9]
  clear hh9 h9
  generalize ex1 : (if 0 ≤ c9 ∧ c9 ≤ (σ 8 0) - 1 then (1 : Int) else 0) = x1
  refine z_if_ne (tgt := 18) F dX9_isNone_11 (by decide) (by omega) (fun c11 => ?_) (fun c11 => ?_)
  · refine z_iconst F dX9_isNone_18 ?_
    exact z_iret (nf_z (by omega)) F hr (Nat.le_of_ble_eq_true rfl) (Nat.le_of_ble_eq_true rfl) dX9_isNone_19 ⟨rI (by omega), rfl⟩
  · refine z_iconst F dX9_isNone_14 ?_
    refine z_goto (tgt := 19) F dX9_isNone_15 (by decide) ?_
    exact z_iret (nf_z (by omega)) F hr (Nat.le_of_ble_eq_true rfl) (Nat.le_of_ble_eq_true rfl) dX9_isNone_19 ⟨rI (by omega), rfl⟩
set_option maxRecDepth 100000 in
set_option maxHeartbeats 4000000 in
theorem mX9_isNoInvoice (l : Launch) (G : GG) (N0 : Nat) (h : Hp) (g : Nat → Nat) (σ : Sg) (c9 : Int) (hI : MI g σ h) (hR : RG σ) (r_c9 : -2147483648 ≤ c9 ∧ c9 < 2147483648) (hc : 0 ≤ σ 16 0 ∧ σ 16 0 ≤ 8) : Ct l G N0 yX9_isNoInvoice (Cond.code yX9_isNoInvoice cX9_isNoInvoice 2 (some FieldType.boolean) :: LW) ({ frames := 1, cells := 0, slots := 0, locals := 30 }) [vR (g 0), vI c9] h (fun r h' => r = some (vI (if 0 ≤ c9 ∧ c9 < σ 16 0 then 0 else 1)) ∧ h' = h) := by
  refine ct_of rfl rfl ?_
  intro p e s m args below meth c F hr hnm
  have F : Fx p s m args meth c RX9 cX9_isNoInvoice 2 G N0 (cA h s.heap.size) := F
  show Z _ _ _ _ _ _ _ _ _ _ _ _ _ _ _ _ _ _ _ [(0, vR (g 0)), (1, vI c9)] []
  refine z_iload_n F dX9_isNoInvoice_0 rfl 1 rfl ?_
  refine z_iconst F dX9_isNoInvoice_1 ?_
  refine z_aload_n F dX9_isNoInvoice_2 rfl 0 rfl ?_
  refine z_get (v := vI (σ 16 0)) F (mI hI 0 rfl) fX9_192 rfl dX9_isNoInvoice_3 ?_
  refine z_iconst F dX9_isNoInvoice_6 ?_
  refine z_isub F dX9_isNoInvoice_7 ?_
  refine z_callS (As := [vI c9, vI 0, vI ((σ 16 0) - 1)]) (st := []) F (mX9_in l G N0 h c9 0 ((σ 16 0) - 1) (by omega) (by decide) (by omega)) csX9_93 rfl rfl ⟨Nat.le_of_ble_eq_true rfl, Nat.le_of_ble_eq_true rfl⟩ rfl ⟨Nat.le_of_ble_eq_true rfl, Nat.le_of_ble_eq_true rfl⟩ dX9_isNoInvoice_8 ?_
  rintro _ h9 ⟨rfl, hh9⟩
  rw [hh9]
  clear hh9 h9
  generalize ex1 : (if 0 ≤ c9 ∧ c9 ≤ (σ 16 0) - 1 then (1 : Int) else 0) = x1
  refine z_if_ne (tgt := 18) F dX9_isNoInvoice_11 (by decide) (by omega) (fun c11 => ?_) (fun c11 => ?_)
  · refine z_iconst F dX9_isNoInvoice_18 ?_
    exact z_iret (nf_z (by omega)) F hr (Nat.le_of_ble_eq_true rfl) (Nat.le_of_ble_eq_true rfl) dX9_isNoInvoice_19 ⟨rI (by omega), rfl⟩
  · refine z_iconst F dX9_isNoInvoice_14 ?_
    refine z_goto (tgt := 19) F dX9_isNoInvoice_15 (by decide) ?_
    exact z_iret (nf_z (by omega)) F hr (Nat.le_of_ble_eq_true rfl) (Nat.le_of_ble_eq_true rfl) dX9_isNoInvoice_19 ⟨rI (by omega), rfl⟩
set_option maxRecDepth 100000 in
set_option maxHeartbeats 4000000 in
theorem mX9_now (l : Launch) (G : GG) (N0 : Nat) (h : Hp) (g : Nat → Nat) (σ : Sg) (hI : MI g σ h) (hR : RG σ) : Ct l G N0 yX9_now (Cond.code yX9_now cX9_now 1 (some FieldType.int) :: LW) ({ frames := 1, cells := 0, slots := 0, locals := 30 }) [vR (g 0)] h (fun r h' => r = some (vI (σ 0 0)) ∧ MI g (su σ 30 0 0) h') := by
  refine ct_of rfl rfl ?_
  intro p e s m args below meth c F hr hnm
  have F : Fx p s m args meth c RX9 cX9_now 1 G N0 (cA h s.heap.size) := F
  show Z _ _ _ _ _ _ _ _ _ _ _ _ _ _ _ _ _ _ _ [(0, vR (g 0))] []
  refine z_aload_n F dX9_now_0 rfl 0 rfl ?_
  refine z_aload_n F dX9_now_1 rfl 0 rfl ?_
  refine z_get (v := vI (σ 0 0)) F (mI hI 0 rfl) fX9_100 rfl dX9_now_2 ?_
  refine z_callV (As := [vI (σ 0 0)]) (st := []) F (mX9_tells l G N0 h g σ (σ 0 0) hI hR (hR 0 0)) cvX9_103 (mI hI 0 rfl) (fun r9 h9 => by cases h9; rfl) rfl rfl ⟨Nat.le_of_ble_eq_true rfl, Nat.le_of_ble_eq_true rfl⟩ rfl ⟨Nat.le_of_ble_eq_true rfl, Nat.le_of_ble_eq_true rfl⟩ dX9_now_5 ?_
  rintro _ h1 ⟨rfl, Ih1⟩
  exact z_iret (nf_i _) F hr (Nat.le_of_ble_eq_true rfl) (Nat.le_of_ble_eq_true rfl) dX9_now_8 ⟨rfl, Ih1⟩
set_option maxRecDepth 100000 in
set_option maxHeartbeats 4000000 in
theorem mX9_clients (l : Launch) (G : GG) (N0 : Nat) (h : Hp) (g : Nat → Nat) (σ : Sg) (hI : MI g σ h) (hR : RG σ) : Ct l G N0 yX9_clients (Cond.code yX9_clients cX9_clients 1 (some FieldType.int) :: LW) ({ frames := 1, cells := 0, slots := 0, locals := 30 }) [vR (g 0)] h (fun r h' => r = some (vI (σ 2 0)) ∧ MI g (su σ 30 0 0) h') := by
  refine ct_of rfl rfl ?_
  intro p e s m args below meth c F hr hnm
  have F : Fx p s m args meth c RX9 cX9_clients 1 G N0 (cA h s.heap.size) := F
  show Z _ _ _ _ _ _ _ _ _ _ _ _ _ _ _ _ _ _ _ [(0, vR (g 0))] []
  refine z_aload_n F dX9_clients_0 rfl 0 rfl ?_
  refine z_aload_n F dX9_clients_1 rfl 0 rfl ?_
  refine z_get (v := vI (σ 2 0)) F (mI hI 0 rfl) fX9_90 rfl dX9_clients_2 ?_
  refine z_callV (As := [vI (σ 2 0)]) (st := []) F (mX9_tells l G N0 h g σ (σ 2 0) hI hR (hR 2 0)) cvX9_103 (mI hI 0 rfl) (fun r9 h9 => by cases h9; rfl) rfl rfl ⟨Nat.le_of_ble_eq_true rfl, Nat.le_of_ble_eq_true rfl⟩ rfl ⟨Nat.le_of_ble_eq_true rfl, Nat.le_of_ble_eq_true rfl⟩ dX9_clients_5 ?_
  rintro _ h1 ⟨rfl, Ih1⟩
  exact z_iret (nf_i _) F hr (Nat.le_of_ble_eq_true rfl) (Nat.le_of_ble_eq_true rfl) dX9_clients_8 ⟨rfl, Ih1⟩
set_option maxRecDepth 100000 in
set_option maxHeartbeats 4000000 in
theorem mX9_entries (l : Launch) (G : GG) (N0 : Nat) (h : Hp) (g : Nat → Nat) (σ : Sg) (hI : MI g σ h) (hR : RG σ) : Ct l G N0 yX9_entries (Cond.code yX9_entries cX9_entries 1 (some FieldType.int) :: LW) ({ frames := 1, cells := 0, slots := 0, locals := 30 }) [vR (g 0)] h (fun r h' => r = some (vI (σ 8 0)) ∧ MI g (su σ 30 0 0) h') := by
  refine ct_of rfl rfl ?_
  intro p e s m args below meth c F hr hnm
  have F : Fx p s m args meth c RX9 cX9_entries 1 G N0 (cA h s.heap.size) := F
  show Z _ _ _ _ _ _ _ _ _ _ _ _ _ _ _ _ _ _ _ [(0, vR (g 0))] []
  refine z_aload_n F dX9_entries_0 rfl 0 rfl ?_
  refine z_aload_n F dX9_entries_1 rfl 0 rfl ?_
  refine z_get (v := vI (σ 8 0)) F (mI hI 0 rfl) fX9_97 rfl dX9_entries_2 ?_
  refine z_callV (As := [vI (σ 8 0)]) (st := []) F (mX9_tells l G N0 h g σ (σ 8 0) hI hR (hR 8 0)) cvX9_103 (mI hI 0 rfl) (fun r9 h9 => by cases h9; rfl) rfl rfl ⟨Nat.le_of_ble_eq_true rfl, Nat.le_of_ble_eq_true rfl⟩ rfl ⟨Nat.le_of_ble_eq_true rfl, Nat.le_of_ble_eq_true rfl⟩ dX9_entries_5 ?_
  rintro _ h1 ⟨rfl, Ih1⟩
  exact z_iret (nf_i _) F hr (Nat.le_of_ble_eq_true rfl) (Nat.le_of_ble_eq_true rfl) dX9_entries_8 ⟨rfl, Ih1⟩
set_option maxRecDepth 100000 in
set_option maxHeartbeats 4000000 in
theorem mX9_invoices (l : Launch) (G : GG) (N0 : Nat) (h : Hp) (g : Nat → Nat) (σ : Sg) (hI : MI g σ h) (hR : RG σ) : Ct l G N0 yX9_invoices (Cond.code yX9_invoices cX9_invoices 1 (some FieldType.int) :: LW) ({ frames := 1, cells := 0, slots := 0, locals := 30 }) [vR (g 0)] h (fun r h' => r = some (vI (σ 16 0)) ∧ MI g (su σ 30 0 0) h') := by
  refine ct_of rfl rfl ?_
  intro p e s m args below meth c F hr hnm
  have F : Fx p s m args meth c RX9 cX9_invoices 1 G N0 (cA h s.heap.size) := F
  show Z _ _ _ _ _ _ _ _ _ _ _ _ _ _ _ _ _ _ _ [(0, vR (g 0))] []
  refine z_aload_n F dX9_invoices_0 rfl 0 rfl ?_
  refine z_aload_n F dX9_invoices_1 rfl 0 rfl ?_
  refine z_get (v := vI (σ 16 0)) F (mI hI 0 rfl) fX9_192 rfl dX9_invoices_2 ?_
  refine z_callV (As := [vI (σ 16 0)]) (st := []) F (mX9_tells l G N0 h g σ (σ 16 0) hI hR (hR 16 0)) cvX9_103 (mI hI 0 rfl) (fun r9 h9 => by cases h9; rfl) rfl rfl ⟨Nat.le_of_ble_eq_true rfl, Nat.le_of_ble_eq_true rfl⟩ rfl ⟨Nat.le_of_ble_eq_true rfl, Nat.le_of_ble_eq_true rfl⟩ dX9_invoices_5 ?_
  rintro _ h1 ⟨rfl, Ih1⟩
  exact z_iret (nf_i _) F hr (Nat.le_of_ble_eq_true rfl) (Nat.le_of_ble_eq_true rfl) dX9_invoices_8 ⟨rfl, Ih1⟩
