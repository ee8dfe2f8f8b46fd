set_option maxRecDepth 100000 in
set_option maxHeartbeats 4000000 in
theorem mX2_isOpen (l : Launch) (G : GG) (N0 : Nat) (h : Hp) (o : Nat) (nu : Int) (ow : Nat) (stt en sta fx : Int) (he : h o = some (eO 7 [vI nu, vR ow, vI stt, vI en, vI sta, vI fx])) (hs : 0 ≤ sta ∧ sta < 65536) : Ct l G N0 yX2_isOpen (Cond.code yX2_isOpen cX2_isOpen 1 (some FieldType.boolean) :: LW) ({ frames := 0, cells := 0, slots := 0, locals := 0 }) [vR o] h (fun r h' => r = some (vI (if sta = 114 ∨ sta = 101 then 1 else 0)) ∧ h' = h) := by
  refine ct_of rfl rfl ?_
  intro p e s m args below meth c F hr hnm
  have F : Fx p s m args meth c RX2 cX2_isOpen 1 G N0 (cA h s.heap.size) := F
  show Z _ _ _ _ _ _ _ _ _ _ _ _ _ _ _ _ _ _ _ [(0, vR o)] []
  refine z_aload_n F dX2_isOpen_0 rfl 0 rfl ?_
  refine z_get (v := vI sta) F he fX2_25 rfl dX2_isOpen_1 ?_
  refine z_bipush F dX2_isOpen_4 (by decide) ?_
  refine z_icmp_eq (tgt := 18) F dX2_isOpen_6 (by decide) (by omega) (by decide) (fun c6 => ?_) (fun c6 => ?_)
  · refine z_iconst F dX2_isOpen_18 ?_
    refine z_goto (tgt := 23) F dX2_isOpen_19 (by decide) ?_
    exact z_iret (nf_z (by omega)) F hr (Nat.le_of_ble_eq_true rfl) (Nat.le_of_ble_eq_true rfl) dX2_isOpen_23 ⟨rI (by split <;> omega), rfl⟩
  · refine z_aload_n F dX2_isOpen_9 rfl 0 rfl ?_
    refine z_get (v := vI sta) F he fX2_25 rfl dX2_isOpen_10 ?_
    refine z_bipush F dX2_isOpen_13 (by decide) ?_
    refine z_icmp_ne (tgt := 22) F dX2_isOpen_15 (by decide) (by omega) (by decide) (fun c15 => ?_) (fun c15 => ?_)
    · refine z_iconst F dX2_isOpen_22 ?_
      exact z_iret (nf_z (by omega)) F hr (Nat.le_of_ble_eq_true rfl) (Nat.le_of_ble_eq_true rfl) dX2_isOpen_23 ⟨rI (by split <;> omega), rfl⟩
    · refine z_iconst F dX2_isOpen_18 ?_
      refine z_goto (tgt := 23) F dX2_isOpen_19 (by decide) ?_
      exact z_iret (nf_z (by omega)) F hr (Nat.le_of_ble_eq_true rfl) (Nat.le_of_ble_eq_true rfl) dX2_isOpen_23 ⟨rI (by split <;> omega), rfl⟩
set_option maxRecDepth 100000 in
set_option maxHeartbeats 4000000 in
theorem mX2_covers (l : Launch) (G : GG) (N0 : Nat) (h : Hp) (o : Nat) (nu : Int) (ow : Nat) (stt en sta fx : Int) (mi : Int) (he : h o = some (eO 7 [vI nu, vR ow, vI stt, vI en, vI sta, vI fx])) (hs : 0 ≤ sta ∧ sta < 65536) (h1 : -2147483648 ≤ stt ∧ stt < 2147483648) (h2 : -2147483648 ≤ en ∧ en < 2147483648) (h3 : -2147483648 ≤ mi ∧ mi < 2147483648) : Ct l G N0 yX2_covers (Cond.code yX2_covers cX2_covers 2 (some FieldType.boolean) :: LW) ({ frames := 0, cells := 0, slots := 0, locals := 0 }) [vR o, vI mi] h (fun r h' => r = some (vI (if stt ≤ mi ∧ mi < en ∧ sta ≠ 120 then 1 else 0)) ∧ h' = h) := by
  refine ct_of rfl rfl ?_
  intro p e s m args below meth c F hr hnm
  have F : Fx p s m args meth c RX2 cX2_covers 2 G N0 (cA h s.heap.size) := F
  show Z _ _ _ _ _ _ _ _ _ _ _ _ _ _ _ _ _ _ _ [(0, vR o), (1, vI mi)] []
  refine z_aload_n F dX2_covers_0 rfl 0 rfl ?_
  refine z_get (v := vI stt) F he fX2_19 rfl dX2_covers_1 ?_
  refine z_iload_n F dX2_covers_4 rfl 1 rfl ?_
  refine z_icmp_gt (tgt := 29) F dX2_covers_5 (by decide) (by omega) (by omega) (fun c5 => ?_) (fun c5 => ?_)
  · refine z_iconst F dX2_covers_29 ?_
    exact z_iret (nf_z (by omega)) F hr (Nat.le_of_ble_eq_true rfl) (Nat.le_of_ble_eq_true rfl) dX2_covers_30 ⟨rI (by split <;> omega), rfl⟩
  · refine z_iload_n F dX2_covers_8 rfl 1 rfl ?_
    refine z_aload_n F dX2_covers_9 rfl 0 rfl ?_
    refine z_get (v := vI en) F he fX2_22 rfl dX2_covers_10 ?_
    refine z_icmp_ge (tgt := 29) F dX2_covers_13 (by decide) (by omega) (by omega) (fun c13 => ?_) (fun c13 => ?_)
    · refine z_iconst F dX2_covers_29 ?_
      exact z_iret (nf_z (by omega)) F hr (Nat.le_of_ble_eq_true rfl) (Nat.le_of_ble_eq_true rfl) dX2_covers_30 ⟨rI (by split <;> omega), rfl⟩
    · refine z_aload_n F dX2_covers_16 rfl 0 rfl ?_
      refine z_get (v := vI sta) F he fX2_25 rfl dX2_covers_17 ?_
      refine z_bipush F dX2_covers_20 (by decide) ?_
      refine z_icmp_eq (tgt := 29) F dX2_covers_22 (by decide) (by omega) (by decide) (fun c22 => ?_) (fun c22 => ?_)
      · refine z_iconst F dX2_covers_29 ?_
        exact z_iret (nf_z (by omega)) F hr (Nat.le_of_ble_eq_true rfl) (Nat.le_of_ble_eq_true rfl) dX2_covers_30 ⟨rI (by split <;> omega), rfl⟩
      · refine z_iconst F dX2_covers_25 ?_
        refine z_goto (tgt := 30) F dX2_covers_26 (by decide) ?_
        exact z_iret (nf_z (by omega)) F hr (Nat.le_of_ble_eq_true rfl) (Nat.le_of_ble_eq_true rfl) dX2_covers_30 ⟨rI (by split <;> omega), rfl⟩
