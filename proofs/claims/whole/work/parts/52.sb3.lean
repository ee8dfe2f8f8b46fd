set_option maxRecDepth 100000 in
set_option maxHeartbeats 4000000 in
theorem mJ5_init_d00df (l : Launch) (G : GG) (N0 : Nat) (h : Hp) (a : Nat) (ha : h a = some (eO 1 [vN, vI 0, vI 0, vI 0])) : Ct l G N0 yJ5_init_d00df (Cond.code yJ5_init_d00df cJ5_init_d00df 2 none :: LW) ({ frames := 1, cells := 1, slots := 16, locals := 60 }) [vR a, vI 16] h (fun r h' => r = none ∧ ∃ q, h q = none ∧ h' = hu (hu h q (eA 4 16 (fun _ => vI 0))) a (eO 1 [vR q, vI 0, vI 0, vI 0])) := by
  refine ct_of rfl rfl ?_
  intro p e s m args below meth c F hr hnm
  have F : Fx p s m args meth c RJ5 cJ5_init_d00df 2 G N0 (cA h s.heap.size) := F
  show Z _ _ _ _ _ _ _ _ _ _ _ _ _ _ _ _ _ _ _ [(0, vR a), (1, vI 16)] []
  refine z_aload_n F dJ5_init_d00df_0 rfl 0 rfl ?_
  refine z_objInit F oiJ5_3 (Nat.le_of_ble_eq_true rfl) (Nat.le_of_ble_eq_true rfl) rfl dJ5_init_d00df_1 ?_
  refine z_getCS F q146 dJ5_init_d00df_4 ?_
  refine z_if_eq (tgt := 25) F dJ5_init_d00df_7 (by decide) (by decide) (fun c7 => ?_) (fun c7 => ?_)
  · exact absurd c7 (by decide)
  · refine z_aload_n F dJ5_init_d00df_10 rfl 0 rfl ?_
    refine z_iload_n F dJ5_init_d00df_11 rfl 1 rfl ?_
    refine z_newarr (kk := 4) (N := 16) (v0 := vI 0) (ty := .byte) F rfl q169 rfl (fun C9 h9 => by cases h9) rfl rfl (by decide) (by decide) (Nat.le_of_ble_eq_true rfl) (Nat.le_of_ble_eq_true rfl) dJ5_init_d00df_12 (fun ad1 fad1 => ?_)
    generalize eh2 : hu h ad1 (eA 4 16 (fun _ => vI 0)) = h2
    have g3 : h2 ad1 = some (eA 4 16 (fun _ => vI 0)) := by rw [← eh2]; exact hu_s _ _ _
    have g4 : h2 a = some (eO 1 [vN, vI 0, vI 0, vI 0]) := s_hu eh2 (fresh_ne fad1 (ha)) (ha)
    obtain ⟨h5, eh5⟩ : ∃ z : Hp, hu h2 a (eO 1 [vR ad1, vI 0, vI 0, vI 0]) = z := ⟨_, rfl⟩
    refine z_put (fs := [vN, vI 0, vI 0, vI 0]) (fs' := [vR ad1, vI 0, vI 0, vI 0]) (h' := h5) F g4 fJ5_15 ftJ4_0 (nf_a _ _) (Nat.le_of_ble_eq_true rfl) rfl dJ5_init_d00df_14 eh5 ?_
    have g6 : h5 a = some (eO 1 [vR ad1, vI 0, vI 0, vI 0]) := by rw [← eh5]; exact hu_s _ _ _
    have g7 : h5 ad1 = some (eA 4 16 (fun _ => vI 0)) := s_hu eh5 (Ne.symm (fresh_ne fad1 (ha))) (g3)
    refine z_aload_n F dJ5_init_d00df_17 rfl 0 rfl ?_
    refine z_iconst F dJ5_init_d00df_18 ?_
    obtain ⟨h8, eh8⟩ : ∃ z : Hp, hu h5 a (eO 1 [vR ad1, vI 0, vI 0, vI 0]) = z := ⟨_, rfl⟩
    refine z_put (fs := [vR ad1, vI 0, vI 0, vI 0]) (fs' := [vR ad1, vI 0, vI 0, vI 0]) (h' := h8) F g6 fJ5_22 ftJ4_1 (nf_b (by omega)) (Nat.le_of_ble_eq_true rfl) rfl dJ5_init_d00df_19 eh8 ?_
    have g9 : h8 a = some (eO 1 [vR ad1, vI 0, vI 0, vI 0]) := by rw [← eh8]; exact hu_s _ _ _
    have g10 : h8 ad1 = some (eA 4 16 (fun _ => vI 0)) := s_hu eh8 (Ne.symm (fresh_ne fad1 (ha))) (g7)
    refine z_goto (tgt := 38) F dJ5_init_d00df_22 (by decide) ?_
    exact z_vret F hr (Nat.le_of_ble_eq_true rfl) (Nat.le_of_ble_eq_true rfl) dJ5_init_d00df_38 (⟨rfl, _, fad1, by rw [← eh8, ← eh5, ← eh2, hu_hu]⟩)
set_option maxRecDepth 100000 in
set_option maxHeartbeats 4000000 in
theorem mJ4_init_da8c8 (l : Launch) (G : GG) (N0 : Nat) (h : Hp) (a : Nat) (ha : h a = some (eO 1 [vN, vI 0, vI 0, vI 0])) : Ct l G N0 yJ4_init_da8c8 (Cond.code yJ4_init_da8c8 cJ4_init_da8c8 1 none :: LW) ({ frames := 2, cells := 1, slots := 16, locals := 120 }) [vR a] h (fun r h' => r = none ∧ ∃ q, h q = none ∧ h' = hu (hu h q (eA 4 16 (fun _ => vI 0))) a (eO 1 [vR q, vI 0, vI 0, vI 0])) := by
  refine ct_of rfl rfl ?_
  intro p e s m args below meth c F hr hnm
  have F : Fx p s m args meth c RJ4 cJ4_init_da8c8 1 G N0 (cA h s.heap.size) := F
  show Z _ _ _ _ _ _ _ _ _ _ _ _ _ _ _ _ _ _ _ [(0, vR a)] []
  refine z_aload_n F dJ4_init_da8c8_0 rfl 0 rfl ?_
  refine z_bipush F dJ4_init_da8c8_1 (by decide) ?_
  refine z_callI (As := [vI 16]) (st := []) F (mJ5_init_d00df l G N0 h a ha) ciJ4_1 rfl rfl ⟨Nat.le_of_ble_eq_true rfl, Nat.le_of_ble_eq_true rfl⟩ rfl ⟨Nat.le_of_ble_eq_true rfl, Nat.le_of_ble_eq_true rfl⟩ dJ4_init_da8c8_3 ?_
  rintro _ h9 ⟨rfl, q, fq, k9⟩
  show Z _ _ _ _ _ _ _ _ _ _ _ _ _ _ _ _ _ _ _ _ []
  exact z_vret F hr (Nat.le_of_ble_eq_true rfl) (Nat.le_of_ble_eq_true rfl) dJ4_init_da8c8_6 (⟨rfl, q, fq, k9⟩)
set_option maxRecDepth 100000 in
set_option maxHeartbeats 4000000 in
theorem mJ5_ensureCapacityInternal_d00df (l : Launch) (G : GG) (N0 : Nat) (h : Hp) (a v0 N : Nat) (ml n : Int) (t : Int → Int) (mn : Int) (ha : h a = some (eO 1 [vR v0, vI 0, vI ml, vI n])) (hv : h v0 = some (eA 4 N (fun j => vI (t j)))) (hm : 0 ≤ mn ∧ mn ≤ N ∧ (N : Int) < 2147483648) : Ct l G N0 yJ5_ensureCapacityInternal_d00df (Cond.code yJ5_ensureCapacityInternal_d00df cJ5_ensureCapacityInternal_d00df 3 none :: LW) ({ frames := 0, cells := 0, slots := 0, locals := 0 }) [vR a, vI mn] h (fun r h' => r = none ∧ h' = h) := by
  refine ct_of rfl rfl ?_
  intro p e s m args below meth c F hr hnm
  have F : Fx p s m args meth c RJ5 cJ5_ensureCapacityInternal_d00df 3 G N0 (cA h s.heap.size) := F
  show Z _ _ _ _ _ _ _ _ _ _ _ _ _ _ _ _ _ _ _ [(0, vR a), (1, vI mn)] []
  refine z_aload_n F dJ5_ensureCapacityInternal_d00df_0 rfl 0 rfl ?_
  refine z_get (v := vR v0) F ha fJ5_15 rfl dJ5_ensureCapacityInternal_d00df_1 ?_
  refine z_alen F hv (by decide) dJ5_ensureCapacityInternal_d00df_4 ?_
  refine z_aload_n F dJ5_ensureCapacityInternal_d00df_5 rfl 0 rfl ?_
  refine z_get (v := vI 0) F ha fJ5_22 rfl dJ5_ensureCapacityInternal_d00df_6 ?_
  refine z_ishr (z := (N : Int)) F dJ5_ensureCapacityInternal_d00df_9 (shr0 _) ?_
  refine z_istore_n (lv' := [(2, vI (N : Int)), (0, vR a), (1, vI mn)]) F dJ5_ensureCapacityInternal_d00df_10 rfl (by decide) rfl ?_
  refine z_iload_n F dJ5_ensureCapacityInternal_d00df_11 rfl 2 rfl ?_
  refine z_iload_n F dJ5_ensureCapacityInternal_d00df_12 rfl 0 rfl ?_
  refine z_isub F dJ5_ensureCapacityInternal_d00df_13 ?_
  refine z_if_le (tgt := 38) F dJ5_ensureCapacityInternal_d00df_14 (by decide) (by omega) (fun c14 => ?_) (fun c14 => ?_)
  · exact z_vret F hr (Nat.le_of_ble_eq_true rfl) (Nat.le_of_ble_eq_true rfl) dJ5_ensureCapacityInternal_d00df_38 (⟨rfl, rfl⟩)
  · exfalso; omega
set_option maxRecDepth 100000 in
set_option maxHeartbeats 4000000 in
theorem mJ5_setLength_d00df (l : Launch) (G : GG) (N0 : Nat) (h : Hp) (a v0 N : Nat) (ml n : Int) (t : Int → Int) (ha : h a = some (eO 1 [vR v0, vI 0, vI ml, vI n])) (hv : h v0 = some (eA 4 N (fun j => vI (t j)))) (hN : 0 ≤ n ∧ n ≤ N ∧ (N : Int) < 2147483648) : Ct l G N0 yJ5_setLength_d00df (Cond.code yJ5_setLength_d00df cJ5_setLength_d00df 2 none :: LW) ({ frames := 1, cells := 0, slots := 0, locals := 60 }) [vR a, vI 0] h (fun r h' => r = none ∧ ∃ m2, h' = hu h a (eO 1 [vR v0, vI 0, vI m2, vI 0])) := by
  refine ct_of rfl rfl ?_
  intro p e s m args below meth c F hr hnm
  have F : Fx p s m args meth c RJ5 cJ5_setLength_d00df 2 G N0 (cA h s.heap.size) := F
  show Z _ _ _ _ _ _ _ _ _ _ _ _ _ _ _ _ _ _ _ [(0, vR a), (1, vI 0)] []
  refine z_iload_n F dJ5_setLength_d00df_0 rfl 1 rfl ?_
  refine z_if_ge (tgt := 13) F dJ5_setLength_d00df_1 (by decide) (by decide) (fun c1 => ?_) (fun c1 => ?_)
  · refine z_aload_n F dJ5_setLength_d00df_13 rfl 0 rfl ?_
    refine z_iload_n F dJ5_setLength_d00df_14 rfl 1 rfl ?_
    refine z_callU (C := "java/lang/StringBuilder") (As := [vI 0]) (st := []) F (mJ5_ensureCapacityInternal_d00df l G N0 h a v0 N ml n t 0 (ha) (hv) (by omega)) cuJ5_100 clJ5_100 ha (fun r9 h9 => by cases h9; rfl) rfl rfl ⟨Nat.le_of_ble_eq_true rfl, Nat.le_of_ble_eq_true rfl⟩ rfl ⟨Nat.le_of_ble_eq_true rfl, Nat.le_of_ble_eq_true rfl⟩ dJ5_setLength_d00df_15 ?_
    rintro _ h9 ⟨rfl, hh9⟩
    rw [hh9]
    clear hh9 h9
    show Z _ _ _ _ _ _ _ _ _ _ _ _ _ _ _ _ _ _ _ _ []
    refine z_aload_n F dJ5_setLength_d00df_18 rfl 0 rfl ?_
    refine z_get (v := vI n) F ha fJ5_79 rfl dJ5_setLength_d00df_19 ?_
    refine z_iload_n F dJ5_setLength_d00df_22 rfl 1 rfl ?_
    refine z_icmp_ge (tgt := 63) F dJ5_setLength_d00df_23 (by decide) (by omega) (by decide) (fun c23 => ?_) (fun c23 => ?_)
    · refine z_aload_n F dJ5_setLength_d00df_63 rfl 0 rfl ?_
      refine z_get (v := vI n) F ha fJ5_79 rfl dJ5_setLength_d00df_64 ?_
      refine z_iload_n F dJ5_setLength_d00df_67 rfl 1 rfl ?_
      refine z_icmp_le (tgt := 76) F dJ5_setLength_d00df_68 (by decide) (by omega) (by decide) (fun c68 => ?_) (fun c68 => ?_)
      · refine z_aload_n F dJ5_setLength_d00df_76 rfl 0 rfl ?_
        refine z_iload_n F dJ5_setLength_d00df_77 rfl 1 rfl ?_
        obtain ⟨h1, eh1⟩ : ∃ z : Hp, hu h a (eO 1 [vR v0, vI 0, vI ml, vI 0]) = z := ⟨_, rfl⟩
        refine z_put (fs := [vR v0, vI 0, vI ml, vI n]) (fs' := [vR v0, vI 0, vI ml, vI 0]) (h' := h1) F ha fJ5_79 ftJ4_3 (nf_i _) (Nat.le_of_ble_eq_true rfl) rfl dJ5_setLength_d00df_78 eh1 ?_
        have g2 : h1 a = some (eO 1 [vR v0, vI 0, vI ml, vI 0]) := by rw [← eh1]; exact hu_s _ _ _
        have g3 : h1 v0 = some (eA 4 N (fun j => vI (t j))) := s_hu eh1 (ne_tg (hv) (ha) rfl) (hv)
        exact z_vret F hr (Nat.le_of_ble_eq_true rfl) (Nat.le_of_ble_eq_true rfl) dJ5_setLength_d00df_81 (⟨rfl, ml, by rw [← eh1]⟩)
      · refine z_aload_n F dJ5_setLength_d00df_71 rfl 0 rfl ?_
        refine z_iconst F dJ5_setLength_d00df_72 ?_
        obtain ⟨h4, eh4⟩ : ∃ z : Hp, hu h a (eO 1 [vR v0, vI 0, vI 1, vI n]) = z := ⟨_, rfl⟩
        refine z_put (fs := [vR v0, vI 0, vI ml, vI n]) (fs' := [vR v0, vI 0, vI 1, vI n]) (h' := h4) F ha fJ5_73 ftJ4_2 (nf_z (by omega)) (Nat.le_of_ble_eq_true rfl) rfl dJ5_setLength_d00df_73 eh4 ?_
        have g5 : h4 a = some (eO 1 [vR v0, vI 0, vI 1, vI n]) := by rw [← eh4]; exact hu_s _ _ _
        have g6 : h4 v0 = some (eA 4 N (fun j => vI (t j))) := s_hu eh4 (ne_tg (hv) (ha) rfl) (hv)
        refine z_aload_n F dJ5_setLength_d00df_76 rfl 0 rfl ?_
        refine z_iload_n F dJ5_setLength_d00df_77 rfl 1 rfl ?_
        obtain ⟨h7, eh7⟩ : ∃ z : Hp, hu h4 a (eO 1 [vR v0, vI 0, vI 1, vI 0]) = z := ⟨_, rfl⟩
        refine z_put (fs := [vR v0, vI 0, vI 1, vI n]) (fs' := [vR v0, vI 0, vI 1, vI 0]) (h' := h7) F g5 fJ5_79 ftJ4_3 (nf_i _) (Nat.le_of_ble_eq_true rfl) rfl dJ5_setLength_d00df_78 eh7 ?_
        have g8 : h7 a = some (eO 1 [vR v0, vI 0, vI 1, vI 0]) := by rw [← eh7]; exact hu_s _ _ _
        have g9 : h7 v0 = some (eA 4 N (fun j => vI (t j))) := s_hu eh7 (ne_tg (g6) (g5) rfl) (g6)
        exact z_vret F hr (Nat.le_of_ble_eq_true rfl) (Nat.le_of_ble_eq_true rfl) dJ5_setLength_d00df_81 (⟨rfl, 1, by rw [← eh7, ← eh4, hu_hu]⟩)
    · exfalso; omega
  · exact absurd c1 (by decide)
set_option maxRecDepth 100000 in
set_option maxHeartbeats 4000000 in
theorem mJ4_setLength_d00df (l : Launch) (G : GG) (N0 : Nat) (h : Hp) (a v0 N : Nat) (ml n : Int) (t : Int → Int) (ha : h a = some (eO 1 [vR v0, vI 0, vI ml, vI n])) (hv : h v0 = some (eA 4 N (fun j => vI (t j)))) (hN : 0 ≤ n ∧ n ≤ N ∧ (N : Int) < 2147483648) : Ct l G N0 yJ4_setLength_d00df (Cond.code yJ4_setLength_d00df cJ4_setLength_d00df 2 none :: LW) ({ frames := 2, cells := 0, slots := 0, locals := 120 }) [vR a, vI 0] h (fun r h' => r = none ∧ ∃ m2, h' = hu h a (eO 1 [vR v0, vI 0, vI m2, vI 0])) := by
  refine ct_of rfl rfl ?_
  intro p e s m args below meth c F hr hnm
  have F : Fx p s m args meth c RJ4 cJ4_setLength_d00df 2 G N0 (cA h s.heap.size) := F
  show Z _ _ _ _ _ _ _ _ _ _ _ _ _ _ _ _ _ _ _ [(0, vR a), (1, vI 0)] []
  refine z_aload_n F dJ4_setLength_d00df_0 rfl 0 rfl ?_
  refine z_iload_n F dJ4_setLength_d00df_1 rfl 1 rfl ?_
  refine z_callSU (C := "java/lang/StringBuilder") (As := [vI 0]) (st := []) F (mJ5_setLength_d00df l G N0 h a v0 N ml n t ha hv hN) cuJ4_333 ha (fun r9 h9 => by cases h9; rfl) rfl rfl ⟨Nat.le_of_ble_eq_true rfl, Nat.le_of_ble_eq_true rfl⟩ rfl ⟨Nat.le_of_ble_eq_true rfl, Nat.le_of_ble_eq_true rfl⟩ dJ4_setLength_d00df_2 ?_
  rintro _ h9 ⟨rfl, m2, k9⟩
  show Z _ _ _ _ _ _ _ _ _ _ _ _ _ _ _ _ _ _ _ _ []
  exact z_vret F hr (Nat.le_of_ble_eq_true rfl) (Nat.le_of_ble_eq_true rfl) dJ4_setLength_d00df_5 (⟨rfl, m2, k9⟩)
