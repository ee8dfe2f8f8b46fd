set_option maxRecDepth 100000 in
set_option maxHeartbeats 4000000 in
theorem mJ5_isLatin1_aae02 (l : Launch) (G : GG) (N0 : Nat) (h : Hp) (a v0 N : Nat) (ml n : Int) (t : Int → Int) (ha : h a = some (eO 1 [vR v0, vI 0, vI ml, vI n])) : Ct l G N0 yJ5_isLatin1_aae02 (Cond.code yJ5_isLatin1_aae02 cJ5_isLatin1_aae02 1 (some FieldType.boolean) :: LW) ({ frames := 0, cells := 0, slots := 0, locals := 0 }) [vR a] h (fun r h' => r = some (vI 1) ∧ h' = h) := by
  refine ct_of rfl rfl ?_
  intro p e s m args below meth c F hr hnm
  have F : Fx p s m args meth c RJ5 cJ5_isLatin1_aae02 1 G N0 (cA h s.heap.size) := F
  show Z _ _ _ _ _ _ _ _ _ _ _ _ _ _ _ _ _ _ _ [(0, vR a)] []
  refine z_getCS F q146 dJ5_isLatin1_aae02_0 ?_
  refine z_if_eq (tgt := 17) F dJ5_isLatin1_aae02_3 (by decide) (by decide) (fun c3 => ?_) (fun c3 => ?_)
  · exact absurd c3 (by decide)
  · refine z_aload_n F dJ5_isLatin1_aae02_6 rfl 0 rfl ?_
    refine z_get (v := vI 0) F ha fJ5_22 rfl dJ5_isLatin1_aae02_7 ?_
    refine z_if_ne (tgt := 17) F dJ5_isLatin1_aae02_10 (by decide) (by decide) (fun c10 => ?_) (fun c10 => ?_)
    · exact absurd c10 (by decide)
    · refine z_iconst F dJ5_isLatin1_aae02_13 ?_
      refine z_goto (tgt := 18) F dJ5_isLatin1_aae02_14 (by decide) ?_
      exact z_iret (nf_z (by omega)) F hr (Nat.le_of_ble_eq_true rfl) (Nat.le_of_ble_eq_true rfl) dJ5_isLatin1_aae02_18 (⟨rfl, rfl⟩)
set_option maxRecDepth 100000 in
set_option maxHeartbeats 4000000 in
theorem mJ5_length_8abf5 (l : Launch) (G : GG) (N0 : Nat) (h : Hp) (a v0 N : Nat) (ml n : Int) (t : Int → Int) (ha : h a = some (eO 1 [vR v0, vI 0, vI ml, vI n])) : Ct l G N0 yJ5_length_8abf5 (Cond.code yJ5_length_8abf5 cJ5_length_8abf5 1 (some FieldType.int) :: LW) ({ frames := 0, cells := 0, slots := 0, locals := 0 }) [vR a] h (fun r h' => r = some (vI n) ∧ h' = h) := by
  refine ct_of rfl rfl ?_
  intro p e s m args below meth c F hr hnm
  have F : Fx p s m args meth c RJ5 cJ5_length_8abf5 1 G N0 (cA h s.heap.size) := F
  show Z _ _ _ _ _ _ _ _ _ _ _ _ _ _ _ _ _ _ _ [(0, vR a)] []
  refine z_aload_n F dJ5_length_8abf5_0 rfl 0 rfl ?_
  refine z_get (v := vI n) F ha fJ5_79 rfl dJ5_length_8abf5_1 ?_
  exact z_iret (nf_i _) F hr (Nat.le_of_ble_eq_true rfl) (Nat.le_of_ble_eq_true rfl) dJ5_length_8abf5_4 (⟨rfl, rfl⟩)
set_option maxRecDepth 100000 in
set_option maxHeartbeats 4000000 in
theorem mJ4_length_8abf5 (l : Launch) (G : GG) (N0 : Nat) (h : Hp) (a v0 N : Nat) (ml n : Int) (t : Int → Int) (ha : h a = some (eO 1 [vR v0, vI 0, vI ml, vI n])) : Ct l G N0 yJ4_length_8abf5 (Cond.code yJ4_length_8abf5 cJ4_length_8abf5 1 (some FieldType.int) :: LW) ({ frames := 1, cells := 0, slots := 0, locals := 40 }) [vR a] h (fun r h' => r = some (vI n) ∧ h' = h) := by
  refine ct_of rfl rfl ?_
  intro p e s m args below meth c F hr hnm
  have F : Fx p s m args meth c RJ4 cJ4_length_8abf5 1 G N0 (cA h s.heap.size) := F
  show Z _ _ _ _ _ _ _ _ _ _ _ _ _ _ _ _ _ _ _ [(0, vR a)] []
  refine z_aload_n F dJ4_length_8abf5_0 rfl 0 rfl ?_
  refine z_callSU (C := "java/lang/StringBuilder") (As := []) (st := []) F (mJ5_length_8abf5 l G N0 h a v0 N ml n t (ha)) cuJ4_343 ha (fun r9 h9 => by cases h9; rfl) rfl rfl ⟨Nat.le_of_ble_eq_true rfl, Nat.le_of_ble_eq_true rfl⟩ rfl ⟨Nat.le_of_ble_eq_true rfl, Nat.le_of_ble_eq_true rfl⟩ dJ4_length_8abf5_1 ?_
  rintro _ h9 ⟨rfl, hh9⟩
  rw [hh9]
  clear hh9 h9
  show Z _ _ _ _ _ _ _ _ _ _ _ _ _ _ _ _ _ _ _ _ [vI n]
  exact z_iret (nf_i _) F hr (Nat.le_of_ble_eq_true rfl) (Nat.le_of_ble_eq_true rfl) dJ4_length_8abf5_4 (⟨rfl, rfl⟩)
set_option maxRecDepth 100000 in
set_option maxHeartbeats 4000000 in
theorem mJ0_checkIndex_df160 (l : Launch) (G : GG) (N0 : Nat) (h : Hp) (i n : Int) (hi : 0 ≤ i ∧ i < n) (hn : n < 2147483648) : Ct l G N0 yJ0_checkIndex_df160 (Cond.code yJ0_checkIndex_df160 cJ0_checkIndex_df160 2 none :: LW) ({ frames := 1, cells := 0, slots := 0, locals := 40 }) [vI i, vI n] h (fun r h' => r = none ∧ h' = h) := by
  refine ct_of rfl rfl ?_
  intro p e s m args below meth c F hr hnm
  have F : Fx p s m args meth c RJ0 cJ0_checkIndex_df160 2 G N0 (cA h s.heap.size) := F
  show Z _ _ _ _ _ _ _ _ _ _ _ _ _ _ _ _ _ _ _ [(0, vI i), (1, vI n)] []
  refine z_iload_n F dJ0_checkIndex_df160_0 rfl 0 rfl ?_
  refine z_iload_n F dJ0_checkIndex_df160_1 rfl 1 rfl ?_
  refine z_getSI F q388 dJ0_checkIndex_df160_2 (fun sq1 => ?_)
  refine z_callS (As := [vI i, vI n, vQ sq1]) (st := []) F (mJ3_checkIndex_8e157 l G N0 h i n sq1 (by omega) (by omega)) csJ0_1059 rfl rfl ⟨Nat.le_of_ble_eq_true rfl, Nat.le_of_ble_eq_true rfl⟩ rfl ⟨Nat.le_of_ble_eq_true rfl, Nat.le_of_ble_eq_true rfl⟩ dJ0_checkIndex_df160_5 ?_
  rintro _ h9 ⟨rfl, hh9⟩
  rw [hh9]
  clear hh9 h9
  show Z _ _ _ _ _ _ _ _ _ _ _ _ _ _ _ _ _ _ _ _ [vI i]
  refine z_pop F dJ0_checkIndex_df160_8 rfl ?_
  exact z_vret F hr (Nat.le_of_ble_eq_true rfl) (Nat.le_of_ble_eq_true rfl) dJ0_checkIndex_df160_9 (⟨rfl, rfl⟩)
