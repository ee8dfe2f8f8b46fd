theorem shr0 (x : Int) : iI x >>> (iI 0 &&& 31) = iI x := by
  have : (iI 0 &&& 31) = 0 := by decide
  rw [this, Int32.shiftRight_zero]
theorem and255 : ∀ x : Fin 256, iI (x.val : Int) &&& iI 255 = iI (x.val : Int) := by decide +kernel
theorem and255' {x : Int} (h : 0 ≤ x ∧ x < 256) : iI x &&& iI 255 = iI x := by
  have := and255 ⟨x.toNat, by omega⟩
  rw [show (((⟨x.toNat, by omega⟩ : Fin 256).val : Nat) : Int) = x by show ((x.toNat : Nat) : Int) = x; omega] at this
  exact this
set_option maxRecDepth 100000 in
set_option maxHeartbeats 4000000 in
theorem mJ5_charAt_5068e (l : Launch) (G : GG) (N0 : Nat) (h : Hp) (a v0 N : Nat) (ml n : Int) (t : Int → Int) (i : Int) (ha : h a = some (eO 1 [vR v0, vI 0, vI ml, vI n])) (hv : h v0 = some (eA 4 N (fun j => vI (t j)))) (hi : 0 ≤ i ∧ i < n) (hN : n ≤ N ∧ (N : Int) < 2147483648) (ht : 0 ≤ t i ∧ t i < 128) : Ct l G N0 yJ5_charAt_5068e (Cond.code yJ5_charAt_5068e cJ5_charAt_5068e 5 (some FieldType.char) :: LW) ({ frames := 2, cells := 0, slots := 0, locals := 90 }) [vR a, vI i] h (fun r h' => r = some (vI (t i)) ∧ h' = h) := by
  refine ct_of rfl rfl ?_
  intro p e s m args below meth c F hr hnm
  have F : Fx p s m args meth c RJ5 cJ5_charAt_5068e 5 G N0 (cA h s.heap.size) := F
  show Z _ _ _ _ _ _ _ _ _ _ _ _ _ _ _ _ _ _ _ [(0, vR a), (1, vI i)] []
  refine z_aload_n F dJ5_charAt_5068e_0 rfl 0 rfl ?_
  refine z_get (v := vI 0) F ha fJ5_22 rfl dJ5_charAt_5068e_1 ?_
  refine z_istore_n (lv' := [(2, vI 0), (0, vR a), (1, vI i)]) F dJ5_charAt_5068e_4 rfl (by decide) rfl ?_
  refine z_aload_n F dJ5_charAt_5068e_5 rfl 1 rfl ?_
  refine z_get (v := vR v0) F ha fJ5_15 rfl dJ5_charAt_5068e_6 ?_
  refine z_astore_n (lv' := [(3, vR v0), (2, vI 0), (0, vR a), (1, vI i)]) F dJ5_charAt_5068e_9 rfl (by decide) rfl ?_
  refine z_aload_n F dJ5_charAt_5068e_10 rfl 2 rfl ?_
  refine z_get (v := vI n) F ha fJ5_79 rfl dJ5_charAt_5068e_11 ?_
  refine z_aload_n F dJ5_charAt_5068e_14 rfl 0 rfl ?_
  refine z_alen F hv (by decide) dJ5_charAt_5068e_15 ?_
  refine z_iload_n F dJ5_charAt_5068e_16 rfl 1 rfl ?_
  refine z_ishr (z := (N : Int)) F dJ5_charAt_5068e_17 (shr0 _) ?_
  refine z_mmin F mmJ5_138 ⟨Nat.le_of_ble_eq_true rfl, Nat.le_of_ble_eq_true rfl, (Nat.le_of_ble_eq_true rfl), (Nat.le_of_ble_eq_true rfl)⟩ (by omega) (by omega) dJ5_charAt_5068e_18 ?_
  generalize ex1 : (if (N : Int) < n then (N : Int) else n) = x1
  have rx1 := ex1
  refine z_istore (lv' := [(4, vI x1), (3, vR v0), (2, vI 0), (0, vR a), (1, vI i)]) F dJ5_charAt_5068e_21 (by decide) rfl ?_
  refine z_iload_n F dJ5_charAt_5068e_23 rfl 4 rfl ?_
  refine z_iload F dJ5_charAt_5068e_24 0 rfl ?_
  refine z_callS (As := [vI i, vI x1]) (st := []) F (mJ0_checkIndex_df160 l G N0 h i x1 (by omega) (by omega)) csJ5_144 rfl rfl ⟨Nat.le_of_ble_eq_true rfl, Nat.le_of_ble_eq_true rfl⟩ rfl ⟨Nat.le_of_ble_eq_true rfl, Nat.le_of_ble_eq_true rfl⟩ dJ5_charAt_5068e_26 ?_
  rintro _ h9 ⟨rfl, hh9⟩
  rw [hh9]
  clear hh9 h9
  show Z _ _ _ _ _ _ _ _ _ _ _ _ _ _ _ _ _ _ _ _ []
  refine z_iload_n F dJ5_charAt_5068e_29 rfl 2 rfl ?_
  refine z_if_ne (tgt := 42) F dJ5_charAt_5068e_30 (by decide) (by decide) (fun c30 => ?_) (fun c30 => ?_)
  · exact absurd c30 (by decide)
  · refine z_aload_n F dJ5_charAt_5068e_33 rfl 1 rfl ?_
    refine z_iload_n F dJ5_charAt_5068e_34 rfl 4 rfl ?_
    refine z_baload (N := N) (f := t) F hv (by omega) (by omega) (by omega) dJ5_charAt_5068e_35 ?_
    refine z_sipush F dJ5_charAt_5068e_36 (by decide) ?_
    refine z_iand (z := t i) F dJ5_charAt_5068e_39 (and255' (by omega)) ?_
    refine z_i2c F dJ5_charAt_5068e_40 (i2c_id (by omega)) ?_
    exact z_iret (nf_c (by omega)) F hr (Nat.le_of_ble_eq_true rfl) (Nat.le_of_ble_eq_true rfl) dJ5_charAt_5068e_41 (⟨rfl, rfl⟩)
set_option maxRecDepth 100000 in
set_option maxHeartbeats 4000000 in
theorem mJ4_charAt_5068e (l : Launch) (G : GG) (N0 : Nat) (h : Hp) (a v0 N : Nat) (ml n : Int) (t : Int → Int) (i : Int) (ha : h a = some (eO 1 [vR v0, vI 0, vI ml, vI n])) (hv : h v0 = some (eA 4 N (fun j => vI (t j)))) (hi : 0 ≤ i ∧ i < n) (hN : n ≤ N ∧ (N : Int) < 2147483648) (ht : 0 ≤ t i ∧ t i < 128) : Ct l G N0 yJ4_charAt_5068e (Cond.code yJ4_charAt_5068e cJ4_charAt_5068e 2 (some FieldType.char) :: LW) ({ frames := 3, cells := 0, slots := 0, locals := 130 }) [vR a, vI i] h (fun r h' => r = some (vI (t i)) ∧ h' = h) := by
  refine ct_of rfl rfl ?_
  intro p e s m args below meth c F hr hnm
  have F : Fx p s m args meth c RJ4 cJ4_charAt_5068e 2 G N0 (cA h s.heap.size) := F
  show Z _ _ _ _ _ _ _ _ _ _ _ _ _ _ _ _ _ _ _ [(0, vR a), (1, vI i)] []
  refine z_aload_n F dJ4_charAt_5068e_0 rfl 0 rfl ?_
  refine z_iload_n F dJ4_charAt_5068e_1 rfl 1 rfl ?_
  refine z_callSU (C := "java/lang/StringBuilder") (As := [vI i]) (st := []) F (mJ5_charAt_5068e l G N0 h a v0 N ml n t i ha hv hi hN ht) cuJ4_329 ha (fun r9 h9 => by cases h9; rfl) rfl rfl ⟨Nat.le_of_ble_eq_true rfl, Nat.le_of_ble_eq_true rfl⟩ rfl ⟨Nat.le_of_ble_eq_true rfl, Nat.le_of_ble_eq_true rfl⟩ dJ4_charAt_5068e_2 ?_
  rintro _ h9 ⟨rfl, hh9⟩
  rw [hh9]
  clear hh9 h9
  show Z _ _ _ _ _ _ _ _ _ _ _ _ _ _ _ _ _ _ _ _ [vI (t i)]
  exact z_iret (nf_c (by omega)) F hr (Nat.le_of_ble_eq_true rfl) (Nat.le_of_ble_eq_true rfl) dJ4_charAt_5068e_5 (⟨rfl, rfl⟩)
