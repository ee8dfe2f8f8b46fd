set_option maxRecDepth 100000 in
set_option maxHeartbeats 4000000 in
theorem mJ3_checkIndex_8e157 (l : Launch) (G : GG) (N0 : Nat) (h : Hp) (i n : Int) (q3 : Option Nat) (hi : 0 ≤ i ∧ i < n) (hn : n < 2147483648) : Ct l G N0 yJ3_checkIndex_8e157 (Cond.code yJ3_checkIndex_8e157 cJ3_checkIndex_8e157 3 (some FieldType.int) :: LW) ({ frames := 0, cells := 0, slots := 0, locals := 0 }) [vI i, vI n, vQ q3] h (fun r h' => r = some (vI i) ∧ h' = h) := by
  refine ct_of rfl rfl ?_
  intro p e s m args below meth c F hr hnm
  have F : Fx p s m args meth c RJ3 cJ3_checkIndex_8e157 3 G N0 (cA h s.heap.size) := F
  show Z _ _ _ _ _ _ _ _ _ _ _ _ _ _ _ _ _ _ _ [(0, vI i), (1, vI n), (2, vQ q3)] []
  refine z_iload_n F dJ3_checkIndex_8e157_0 rfl 0 rfl ?_
  refine z_if_lt (tgt := 9) F dJ3_checkIndex_8e157_1 (by decide) (by omega) (fun c1 => ?_) (fun c1 => ?_)
  · exfalso; omega
  · refine z_iload_n F dJ3_checkIndex_8e157_4 rfl 0 rfl ?_
    refine z_iload_n F dJ3_checkIndex_8e157_5 rfl 1 rfl ?_
    refine z_icmp_lt (tgt := 16) F dJ3_checkIndex_8e157_6 (by decide) (by omega) (by omega) (fun c6 => ?_) (fun c6 => ?_)
    · refine z_iload_n F dJ3_checkIndex_8e157_16 rfl 0 rfl ?_
      exact z_iret (nf_i _) F hr (Nat.le_of_ble_eq_true rfl) (Nat.le_of_ble_eq_true rfl) dJ3_checkIndex_8e157_17 (⟨rfl, rfl⟩)
    · exfalso; omega
set_option maxRecDepth 100000 in
set_option maxHeartbeats 4000000 in
theorem mJ15_checkIndex_7cf53 (l : Launch) (G : GG) (N0 : Nat) (h : Hp) (i n : Int) (hi : 0 ≤ i ∧ i < n) (hn : n < 2147483648) : Ct l G N0 yJ15_checkIndex_7cf53 (Cond.code yJ15_checkIndex_7cf53 cJ15_checkIndex_7cf53 2 (some FieldType.int) :: LW) ({ frames := 1, cells := 0, slots := 0, locals := 40 }) [vI i, vI n] h (fun r h' => r = some (vI i) ∧ h' = h) := by
  refine ct_of rfl rfl ?_
  intro p e s m args below meth c F hr hnm
  have F : Fx p s m args meth c RJ15 cJ15_checkIndex_7cf53 2 G N0 (cA h s.heap.size) := F
  show Z _ _ _ _ _ _ _ _ _ _ _ _ _ _ _ _ _ _ _ [(0, vI i), (1, vI n)] []
  refine z_iload_n F dJ15_checkIndex_7cf53_0 rfl 0 rfl ?_
  refine z_iload_n F dJ15_checkIndex_7cf53_1 rfl 1 rfl ?_
  refine z_null F dJ15_checkIndex_7cf53_2 ?_
  refine z_callS (As := [vI i, vI n, vN]) (st := []) F (mJ3_checkIndex_8e157 l G N0 h i n none (by omega) (by omega)) csJ15_105 rfl rfl ⟨Nat.le_of_ble_eq_true rfl, Nat.le_of_ble_eq_true rfl⟩ rfl ⟨Nat.le_of_ble_eq_true rfl, Nat.le_of_ble_eq_true rfl⟩ dJ15_checkIndex_7cf53_3 ?_
  rintro _ h9 ⟨rfl, hh9⟩
  rw [hh9]
  clear hh9 h9
  show Z _ _ _ _ _ _ _ _ _ _ _ _ _ _ _ _ _ _ _ _ [vI i]
  exact z_iret (nf_i _) F hr (Nat.le_of_ble_eq_true rfl) (Nat.le_of_ble_eq_true rfl) dJ15_checkIndex_7cf53_6 (⟨rfl, rfl⟩)
set_option maxRecDepth 100000 in
set_option maxHeartbeats 4000000 in
theorem mJx4a65c_size_8abf5 (l : Launch) (G : GG) (N0 : Nat) (h : Hp) (a e0 N : Nat) (mc n : Int) (f : Int → Option Nat) (ha : h a = some (eO 4 [vI mc, vR e0, vI n])) : Ct l G N0 yJx4a65c_size_8abf5 (Cond.code yJx4a65c_size_8abf5 cJx4a65c_size_8abf5 1 (some FieldType.int) :: LW) ({ frames := 0, cells := 0, slots := 0, locals := 0 }) [vR a] h (fun r h' => r = some (vI n) ∧ h' = h) := by
  refine ct_of rfl rfl ?_
  intro p e s m args below meth c F hr hnm
  have F : Fx p s m args meth c RJx4a65c cJx4a65c_size_8abf5 1 G N0 (cA h s.heap.size) := F
  show Z _ _ _ _ _ _ _ _ _ _ _ _ _ _ _ _ _ _ _ [(0, vR a)] []
  refine z_aload_n F dJx4a65c_size_8abf5_0 rfl 0 rfl ?_
  refine z_get (v := vI n) F ha fJx4a65c_48 rfl dJx4a65c_size_8abf5_1 ?_
  exact z_iret (nf_i _) F hr (Nat.le_of_ble_eq_true rfl) (Nat.le_of_ble_eq_true rfl) dJx4a65c_size_8abf5_4 (⟨rfl, rfl⟩)
set_option maxRecDepth 100000 in
set_option maxHeartbeats 4000000 in
theorem mJx4a65c_isEmpty_aae02 (l : Launch) (G : GG) (N0 : Nat) (h : Hp) (a e0 N : Nat) (mc n : Int) (f : Int → Option Nat) (ha : h a = some (eO 4 [vI mc, vR e0, vI n])) (hn : 0 ≤ n ∧ n < 2147483648) : Ct l G N0 yJx4a65c_isEmpty_aae02 (Cond.code yJx4a65c_isEmpty_aae02 cJx4a65c_isEmpty_aae02 1 (some FieldType.boolean) :: LW) ({ frames := 0, cells := 0, slots := 0, locals := 0 }) [vR a] h (fun r h' => r = some (vI (if n = 0 then 1 else 0)) ∧ h' = h) := by
  refine ct_of rfl rfl ?_
  intro p e s m args below meth c F hr hnm
  have F : Fx p s m args meth c RJx4a65c cJx4a65c_isEmpty_aae02 1 G N0 (cA h s.heap.size) := F
  show Z _ _ _ _ _ _ _ _ _ _ _ _ _ _ _ _ _ _ _ [(0, vR a)] []
  refine z_aload_n F dJx4a65c_isEmpty_aae02_0 rfl 0 rfl ?_
  refine z_get (v := vI n) F ha fJx4a65c_48 rfl dJx4a65c_isEmpty_aae02_1 ?_
  refine z_if_ne (tgt := 11) F dJx4a65c_isEmpty_aae02_4 (by decide) (by omega) (fun c4 => ?_) (fun c4 => ?_)
  · refine z_iconst F dJx4a65c_isEmpty_aae02_11 ?_
    exact z_iret (nf_z (by omega)) F hr (Nat.le_of_ble_eq_true rfl) (Nat.le_of_ble_eq_true rfl) dJx4a65c_isEmpty_aae02_12 (⟨rI (by omega), rfl⟩)
  · refine z_iconst F dJx4a65c_isEmpty_aae02_7 ?_
    refine z_goto (tgt := 12) F dJx4a65c_isEmpty_aae02_8 (by decide) ?_
    exact z_iret (nf_z (by omega)) F hr (Nat.le_of_ble_eq_true rfl) (Nat.le_of_ble_eq_true rfl) dJx4a65c_isEmpty_aae02_12 (⟨rI (by omega), rfl⟩)
set_option maxRecDepth 100000 in
set_option maxHeartbeats 4000000 in
theorem mJx4a65c_elementData_915e3 (l : Launch) (G : GG) (N0 : Nat) (h : Hp) (a e0 N : Nat) (mc n : Int) (f : Int → Option Nat) (i : Int) (b : Nat) (ha : h a = some (eO 4 [vI mc, vR e0, vI n])) (he : h e0 = some (eA 5 N (fun j => vQ (f j)))) (hi : 0 ≤ i ∧ i < n) (hN : n ≤ N ∧ (N : Int) < 2147483648) (hfi : f i = some b) : Ct l G N0 yJx4a65c_elementData_915e3 (Cond.code yJx4a65c_elementData_915e3 cJx4a65c_elementData_915e3 2 (some (FieldType.object "java/lang/Object")) :: LW) ({ frames := 0, cells := 0, slots := 0, locals := 0 }) [vR a, vI i] h (fun r h' => r = some (vR b) ∧ h' = h) := by
  refine ct_of rfl rfl ?_
  intro p e s m args below meth c F hr hnm
  have F : Fx p s m args meth c RJx4a65c cJx4a65c_elementData_915e3 2 G N0 (cA h s.heap.size) := F
  show Z _ _ _ _ _ _ _ _ _ _ _ _ _ _ _ _ _ _ _ [(0, vR a), (1, vI i)] []
  refine z_aload_n F dJx4a65c_elementData_915e3_0 rfl 0 rfl ?_
  refine z_get (v := vR e0) F ha fJx4a65c_9 rfl dJx4a65c_elementData_915e3_1 ?_
  refine z_iload_n F dJx4a65c_elementData_915e3_4 rfl 1 rfl ?_
  refine z_aaload (N := N) (f := (fun j => vQ (f j))) F he (by omega) (by omega) (by omega) dJx4a65c_elementData_915e3_5 ?_
  show Z _ _ _ _ _ _ _ _ _ _ _ _ _ _ _ _ _ _ _ _ [vQ (f i)]
  rw [show f i = some b from hfi]
  exact z_aret (Or.inl ⟨_, rfl⟩) F hr (Nat.le_of_ble_eq_true rfl) (Nat.le_of_ble_eq_true rfl) dJx4a65c_elementData_915e3_6 (⟨rfl, rfl⟩)
set_option maxRecDepth 100000 in
set_option maxHeartbeats 4000000 in
theorem mJx4a65c_get_915e3 (l : Launch) (G : GG) (N0 : Nat) (h : Hp) (a e0 N : Nat) (mc n : Int) (f : Int → Option Nat) (i : Int) (b : Nat) (ha : h a = some (eO 4 [vI mc, vR e0, vI n])) (he : h e0 = some (eA 5 N (fun j => vQ (f j)))) (hi : 0 ≤ i ∧ i < n) (hN : n ≤ N ∧ (N : Int) < 2147483648) (hfi : f i = some b) : Ct l G N0 yJx4a65c_get_915e3 (Cond.code yJx4a65c_get_915e3 cJx4a65c_get_915e3 2 (some (FieldType.object "java/lang/Object")) :: LW) ({ frames := 2, cells := 0, slots := 0, locals := 80 }) [vR a, vI i] h (fun r h' => r = some (vR b) ∧ h' = h) := by
  refine ct_of rfl rfl ?_
  intro p e s m args below meth c F hr hnm
  have F : Fx p s m args meth c RJx4a65c cJx4a65c_get_915e3 2 G N0 (cA h s.heap.size) := F
  show Z _ _ _ _ _ _ _ _ _ _ _ _ _ _ _ _ _ _ _ [(0, vR a), (1, vI i)] []
  refine z_iload_n F dJx4a65c_get_915e3_0 rfl 1 rfl ?_
  refine z_aload_n F dJx4a65c_get_915e3_1 rfl 0 rfl ?_
  refine z_get (v := vI n) F ha fJx4a65c_48 rfl dJx4a65c_get_915e3_2 ?_
  refine z_callS (As := [vI i, vI n]) (st := []) F (mJ15_checkIndex_7cf53 l G N0 h i n (by omega) (by omega)) csJx4a65c_118 rfl rfl ⟨Nat.le_of_ble_eq_true rfl, Nat.le_of_ble_eq_true rfl⟩ rfl ⟨Nat.le_of_ble_eq_true rfl, Nat.le_of_ble_eq_true rfl⟩ dJx4a65c_get_915e3_5 ?_
  rintro _ h9 ⟨rfl, hh9⟩
  rw [hh9]
  clear hh9 h9
  show Z _ _ _ _ _ _ _ _ _ _ _ _ _ _ _ _ _ _ _ _ [vI i]
  refine z_pop F dJx4a65c_get_915e3_8 rfl ?_
  refine z_aload_n F dJx4a65c_get_915e3_9 rfl 0 rfl ?_
  refine z_iload_n F dJx4a65c_get_915e3_10 rfl 1 rfl ?_
  refine z_callV (As := [vI i]) (st := []) F (mJx4a65c_elementData_915e3 l G N0 h a e0 N mc n f i b ha he hi hN hfi) cvJx4a65c_123 ha (fun r9 h9 => by cases h9; rfl) rfl rfl ⟨Nat.le_of_ble_eq_true rfl, Nat.le_of_ble_eq_true rfl⟩ rfl ⟨Nat.le_of_ble_eq_true rfl, Nat.le_of_ble_eq_true rfl⟩ dJx4a65c_get_915e3_11 ?_
  rintro _ h9 ⟨rfl, hh9⟩
  rw [hh9]
  clear hh9 h9
  show Z _ _ _ _ _ _ _ _ _ _ _ _ _ _ _ _ _ _ _ _ [vR b]
  exact z_aret (Or.inl ⟨_, rfl⟩) F hr (Nat.le_of_ble_eq_true rfl) (Nat.le_of_ble_eq_true rfl) dJx4a65c_get_915e3_14 (⟨rfl, rfl⟩)
set_option maxRecDepth 100000 in
set_option maxHeartbeats 4000000 in
theorem mJx4a65c_clear_da8c8 (l : Launch) (G : GG) (N0 : Nat) (h : Hp) (a e0 N : Nat) (mc n : Int) (f : Int → Option Nat) (ha : h a = some (eO 4 [vI mc, vR e0, vI n])) (hN : 0 < n → h e0 = some (eA 5 N (fun j => vQ (f j))) ∧ n ≤ N) (hn : 0 ≤ n ∧ n < 2147483648) (hae : e0 ≠ a) : Ct l G N0 yJx4a65c_clear_da8c8 (Cond.code yJx4a65c_clear_da8c8 cJx4a65c_clear_da8c8 4 none :: LW) ({ frames := 0, cells := 0, slots := 0, locals := 0 }) [vR a] h (fun r h' => r = none ∧ h' a = some (eO 4 [vI (mc + 1), vR e0, vI 0]) ∧ (∀ x, x ≠ a → x ≠ e0 → h' x = h x) ∧ (n = 0 → h' e0 = h e0) ∧ (0 < n → h' e0 = some (eA 5 N (fun j => vQ (if 0 ≤ j ∧ j < n then none else f j))))) := by
  refine ct_of rfl rfl ?_
  intro p e s m args below meth c F hr hnm
  have F : Fx p s m args meth c RJx4a65c cJx4a65c_clear_da8c8 4 G N0 (cA h s.heap.size) := F
  obtain ⟨Q, hQ⟩ : ∃ z, z = MQ below (cQc G N0 h s.heap.size (fun r h' => r = none ∧ h' a = some (eO 4 [vI (mc + 1), vR e0, vI 0]) ∧ (∀ x, x ≠ a → x ≠ e0 → h' x = h x) ∧ (n = 0 → h' e0 = h e0) ∧ (0 < n → h' e0 = some (eA 5 N (fun j => vQ (if 0 ≤ j ∧ j < n then none else f j)))))) args s 0 0 (cA h s.heap.size) := ⟨_, rfl⟩
  rw [← hQ]
  show Z _ _ _ _ _ _ _ _ _ _ _ _ _ _ _ _ _ _ _ [(0, vR a)] []
  refine z_aload_n F dJx4a65c_clear_da8c8_0 rfl 0 rfl ?_
  refine z_dup F dJx4a65c_clear_da8c8_1 rfl ?_
  refine z_get (v := vI mc) F ha fJx4a65c_63 rfl dJx4a65c_clear_da8c8_2 ?_
  refine z_iconst F dJx4a65c_clear_da8c8_5 ?_
  refine z_iadd F dJx4a65c_clear_da8c8_6 ?_
  obtain ⟨h1, eh1⟩ : ∃ z : Hp, hu h a (eO 4 [vI (mc + 1), vR e0, vI n]) = z := ⟨_, rfl⟩
  refine z_put (fs := [vI mc, vR e0, vI n]) (fs' := [vI (mc + 1), vR e0, vI n]) (h' := h1) F ha fJx4a65c_63 ftJx4a65c_0 (nf_i _) (Nat.le_of_ble_eq_true rfl) rfl dJx4a65c_clear_da8c8_7 eh1 ?_
  have g2 : h1 a = some (eO 4 [vI (mc + 1), vR e0, vI n]) := by rw [← eh1]; exact hu_s _ _ _
  refine z_aload_n F dJx4a65c_clear_da8c8_10 rfl 0 rfl ?_
  refine z_get (v := vR e0) F g2 fJx4a65c_9 rfl dJx4a65c_clear_da8c8_11 ?_
  refine z_astore_n (lv' := [(1, vR e0), (0, vR a)]) F dJx4a65c_clear_da8c8_14 rfl (by decide) rfl ?_
  refine z_aload_n F dJx4a65c_clear_da8c8_15 rfl 1 rfl ?_
  refine z_get (v := vI n) F g2 fJx4a65c_48 rfl dJx4a65c_clear_da8c8_16 ?_
  refine z_istore_n (lv' := [(2, vI n), (1, vR e0), (0, vR a)]) F dJx4a65c_clear_da8c8_19 rfl (by decide) rfl ?_
  refine z_aload_n F dJx4a65c_clear_da8c8_20 rfl 2 rfl ?_
  refine z_iconst F dJx4a65c_clear_da8c8_21 ?_
  refine z_dup_x1 F dJx4a65c_clear_da8c8_22 rfl rfl ?_
  obtain ⟨h3, eh3⟩ : ∃ z : Hp, hu h1 a (eO 4 [vI (mc + 1), vR e0, vI 0]) = z := ⟨_, rfl⟩
  refine z_put (fs := [vI (mc + 1), vR e0, vI n]) (fs' := [vI (mc + 1), vR e0, vI 0]) (h' := h3) F g2 fJx4a65c_48 ftJx4a65c_2 (nf_i _) (Nat.le_of_ble_eq_true rfl) rfl dJx4a65c_clear_da8c8_23 eh3 ?_
  have g4 : h3 a = some (eO 4 [vI (mc + 1), vR e0, vI 0]) := by rw [← eh3]; exact hu_s _ _ _
  have hx0 : ∀ x, x ≠ a → x ≠ e0 → h3 x = h x := fun x q1 q2 => by rw [← eh3, hu_n _ _ q1, ← eh1, hu_n _ _ q1]
  have hz0 : h3 e0 = h e0 := by rw [← eh3, hu_n _ _ hae, ← eh1, hu_n _ _ hae]
  have he00 : 0 < n → h3 e0 = some (eA 5 N (fun j => vQ (if 0 ≤ j ∧ j < 0 then none else f j))) := fun q => by
    rw [hz0, (hN q).1]
    congr 4
    funext j
    rw [if_neg (by omega)]
  refine z_istore_n (lv' := [(3, vI 0), (2, vI n), (1, vR e0), (0, vR a)]) F dJx4a65c_clear_da8c8_26 rfl (by decide) rfl ?_
  have L27 : ∀ (fuel : Nat) (i9 : Int) (h9 : Hp), (h9 a = some (eO 4 [vI (mc + 1), vR e0, vI 0])) → (∀ x, x ≠ a → x ≠ e0 → h9 x = h x) → (n = 0 → h9 e0 = h e0) → (0 < n → h9 e0 = some (eA 5 N (fun j => vQ (if 0 ≤ j ∧ j < i9 then none else f j)))) → (0 ≤ i9 ∧ i9 ≤ n) → n - i9 < (fuel : Int) → Z p l e ({ frames := 0, cells := 0, slots := 0, locals := 0 }) s m args below meth c 4 G N0 (cA h s.heap.size) Q h9 0 0 27 [(3, vI i9), (2, vI n), (1, vR e0), (0, vR a)] [] := by
    intro fuel
    induction fuel with
    | zero => intro i9 h9  ha9 hx9 hz9 he9 h09 hm; exact absurd hm (by omega)
    | succ fuel ih27 =>
      intro i9 h9  ha9 hx9 hz9 he9 h09 hm
      refine z_iload_n F dJx4a65c_clear_da8c8_27 rfl 0 rfl ?_
      have hNn := hN
      refine z_iload_n F dJx4a65c_clear_da8c8_28 rfl 1 rfl ?_
      refine z_icmp_ge (tgt := 42) F dJx4a65c_clear_da8c8_29 (by decide) (by omega) (by omega) (fun c29 => ?_) (fun c29 => ?_)
      · rw [hQ]
        exact z_vret F hr (Nat.le_of_ble_eq_true rfl) (Nat.le_of_ble_eq_true rfl) dJx4a65c_clear_da8c8_42 (⟨rfl, ha9, hx9, hz9, fun q => by rw [he9 q, show i9 = n by omega]⟩)
      · refine z_aload_n F dJx4a65c_clear_da8c8_32 rfl 2 rfl ?_
        refine z_iload_n F dJx4a65c_clear_da8c8_33 rfl 0 rfl ?_
        refine z_null F dJx4a65c_clear_da8c8_34 ?_
        have hpos : 0 < n := by omega
        refine z_aastoreN F (he9 hpos) (by omega) (by omega) (by omega) dJx4a65c_clear_da8c8_35 ?_
        obtain ⟨h8, eh8⟩ : ∃ z : Hp, hu h9 e0 (eA 5 N (fu (fun j => vQ (if 0 ≤ j ∧ j < i9 then none else f j)) i9 vN)) = z := ⟨_, rfl⟩
        rw [eh8]
        have g8 : h8 e0 = some (eA 5 N (fun j => vQ (if 0 ≤ j ∧ j < i9 + 1 then none else f j))) := by
          rw [← eh8, hu_s]
          congr 4
          funext j
          unfold fu
          by_cases q : j = i9
          · rw [if_pos q, if_pos (by omega)]
          · rw [if_neg q]
            show vQ (if 0 ≤ j ∧ j < i9 then none else f j) = _
            by_cases q2 : 0 ≤ j ∧ j < i9
            · rw [if_pos q2, if_pos (by omega)]
            · rw [if_neg q2, if_neg (by omega)]
        have ga8 : h8 a = some (eO 4 [vI (mc + 1), vR e0, vI 0]) := by rw [← eh8, hu_n _ _ (fun z => hae z.symm)]; exact ha9
        have gx8 : ∀ x, x ≠ a → x ≠ e0 → h8 x = h x := fun x q1 q2 => by rw [← eh8, hu_n _ _ q2]; exact hx9 x q1 q2
        refine z_iinc (lv' := [(3, vI (i9 + 1)), (2, vI n), (1, vR e0), (0, vR a)]) F dJx4a65c_clear_da8c8_36 0 rfl (by decide) rfl ?_
        refine z_goto (tgt := 27) F dJx4a65c_clear_da8c8_39 (by decide) ?_
        exact ih27 (i9 + 1) h8 (ga8) (gx8) (fun q => absurd q (by omega)) (fun q => g8) (by omega) (by omega)
  exact L27 ((n - 0 : Int).toNat + 1) 0 h3 (g4) (hx0) (fun q => hz0) (he00) (by omega) (by omega)
set_option maxRecDepth 100000 in
set_option maxHeartbeats 4000000 in
theorem mJ7_fill_53178 (l : Launch) (G : GG) (N0 : Nat) (h : Hp) (b N : Nat) (f : Int → Int) (v : Int) (hb : h b = some (eA 0 N (fun j => vI (f j)))) (hN : (N : Int) < 2147483648) : Ct l G N0 yJ7_fill_53178 (Cond.code yJ7_fill_53178 cJ7_fill_53178 4 none :: LW) ({ frames := 0, cells := 0, slots := 0, locals := 0 }) [vR b, vI v] h (fun r h' => r = none ∧ h' = hu h b (eA 0 N (fun j => vI (if 0 ≤ j ∧ j < (N : Int) then v else f j)))) := by
  refine ct_of rfl rfl ?_
  intro p e s m args below meth c F hr hnm
  have F : Fx p s m args meth c RJ7 cJ7_fill_53178 4 G N0 (cA h s.heap.size) := F
  obtain ⟨Q, hQ⟩ : ∃ z, z = MQ below (cQc G N0 h s.heap.size (fun r h' => r = none ∧ h' = hu h b (eA 0 N (fun j => vI (if 0 ≤ j ∧ j < (N : Int) then v else f j))))) args s 0 0 (cA h s.heap.size) := ⟨_, rfl⟩
  rw [← hQ]
  show Z _ _ _ _ _ _ _ _ _ _ _ _ _ _ _ _ _ _ _ [(0, vR b), (1, vI v)] []
  refine z_iconst F dJ7_fill_53178_0 ?_
  refine z_istore_n (lv' := [(2, vI 0), (0, vR b), (1, vI v)]) F dJ7_fill_53178_1 rfl (by decide) rfl ?_
  have hf0 : h = hu h b (eA 0 N (fun j => vI (if 0 ≤ j ∧ j < 0 then v else f j))) := by
    funext x
    unfold hu
    by_cases q : x = b
    · rw [if_pos q, q, hb]
      congr 4
      funext j
      rw [if_neg (by omega)]
    · rw [if_neg q]
  refine z_aload_n F dJ7_fill_53178_2 rfl 1 rfl ?_
  refine z_alen F hb (by decide) dJ7_fill_53178_3 ?_
  refine z_istore_n (lv' := [(3, vI (N : Int)), (2, vI 0), (0, vR b), (1, vI v)]) F dJ7_fill_53178_4 rfl (by decide) rfl ?_
  have L5 : ∀ (fuel : Nat) (i9 : Int) (h9 : Hp), (h9 = hu h b (eA 0 N (fun j => vI (if 0 ≤ j ∧ j < i9 then v else f j)))) → (0 ≤ i9 ∧ i9 ≤ N) → N - i9 < (fuel : Int) → Z p l e ({ frames := 0, cells := 0, slots := 0, locals := 0 }) s m args below meth c 4 G N0 (cA h s.heap.size) Q h9 0 0 5 [(3, vI (N : Int)), (2, vI i9), (0, vR b), (1, vI v)] [] := by
    intro fuel
    induction fuel with
    | zero => intro i9 h9  hf9 h09 hm; exact absurd hm (by omega)
    | succ fuel ih5 =>
      intro i9 h9  hf9 h09 hm
      refine z_iload_n F dJ7_fill_53178_5 rfl 1 rfl ?_
      refine z_iload_n F dJ7_fill_53178_6 rfl 0 rfl ?_
      refine z_icmp_ge (tgt := 20) F dJ7_fill_53178_7 (by decide) (by omega) (by omega) (fun c7 => ?_) (fun c7 => ?_)
      · rw [hQ]
        exact z_vret F hr (Nat.le_of_ble_eq_true rfl) (Nat.le_of_ble_eq_true rfl) dJ7_fill_53178_20 (⟨rfl, by rw [hf9, show i9 = (N : Int) by omega]⟩)
      · refine z_aload_n F dJ7_fill_53178_10 rfl 2 rfl ?_
        refine z_iload_n F dJ7_fill_53178_11 rfl 1 rfl ?_
        refine z_iload_n F dJ7_fill_53178_12 rfl 3 rfl ?_
        obtain ⟨h1, eh1⟩ : ∃ z : Hp, hu h9 b (eA 0 N (fun j => vI (if j = i9 then v else if 0 ≤ j ∧ j < i9 then v else f j))) = z := ⟨_, rfl⟩
        refine z_iastore (N := N) (f := fun j => if 0 ≤ j ∧ j < i9 then v else f j) (h' := h1) F (show h9 b = some (eA 0 N (fun j => vI (if 0 ≤ j ∧ j < i9 then v else f j))) from by rw [hf9, hu_s]) (by omega) (by omega) (by omega) dJ7_fill_53178_13 eh1 ?_
        have g2 : h1 b = some (eA 0 N (fun j => vI (if j = i9 then v else if 0 ≤ j ∧ j < i9 then v else f j))) := by rw [← eh1]; exact hu_s _ _ _
        refine z_iinc (lv' := [(2, vI (i9 + 1)), (3, vI (N : Int)), (0, vR b), (1, vI v)]) F dJ7_fill_53178_14 1 rfl (by decide) rfl ?_
        refine z_goto (tgt := 5) F dJ7_fill_53178_17 (by decide) ?_
        refine z_pick (lv' := [(3, vI (N : Int)), (2, vI (i9 + 1)), (0, vR b), (1, vI v)]) [1, 0, 2, 3] rfl ?_
        have hb8 : h1 = hu h b (eA 0 N (fun j => vI (if 0 ≤ j ∧ j < i9 + 1 then v else f j))) := by
          rw [← eh1, hf9]
          funext x
          unfold hu
          by_cases q : x = b
          · simp only [if_pos q]
            congr 4
            funext j
            by_cases q1 : j = i9
            · rw [if_pos q1, if_pos (by omega)]
            · rw [if_neg q1]
              by_cases q2 : 0 ≤ j ∧ j < i9
              · rw [if_pos q2, if_pos (by omega)]
              · rw [if_neg q2, if_neg (by omega)]
          · simp only [if_neg q]
        exact ih5 (i9 + 1) h1 (hb8) (by omega) (by omega)
  exact L5 ((N - 0 : Int).toNat + 1) 0 h (hf0) (by omega) (by omega)
