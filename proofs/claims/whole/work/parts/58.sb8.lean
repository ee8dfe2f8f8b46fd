theorem mAppC (l : Launch) (G : GG) (N0 : Nat) (h : Hp) (a v0 N : Nat) (ml n : Int) (t : Int → Int) (c9 : Int) (ha : h a = some (eO 1 [vR v0, vI 0, vI ml, vI n])) (hv : h v0 = some (eA 4 N (fun j => vI (t j)))) (hN : 0 ≤ n ∧ n ≤ N ∧ N ≤ 82) (hN2 : n = N → N ≤ 40) (hc : 0 ≤ c9 ∧ c9 < 128) (ht : ∀ i : Int, 0 ≤ i → i < N → -128 ≤ t i ∧ t i < 128) : Ct l G N0 yJ5_append_3fe6f (Cond.code yJ5_append_3fe6f cJ5_append_3fe6f 2 (some (FieldType.object "java/lang/AbstractStringBuilder")) :: LW) ({ frames := 5, cells := 1, slots := 100, locals := 260 }) [vR a, vI c9] h (fun r h' => r = some (vR a) ∧ SBA h a v0 N ml n t c9 h') := by
  by_cases q : n = N
  · exact mAppC2 l G N0 h a v0 N ml n t c9 ha hv ⟨q, hN2 q⟩ hc ht
  · exact mAppC1 l G N0 h a v0 N ml n t c9 ha hv ⟨hN.1, by omega, hN.2.2⟩ hc ht
set_option maxRecDepth 100000 in
set_option maxHeartbeats 4000000 in
theorem mJ4_append_cf468 (l : Launch) (G : GG) (N0 : Nat) (h : Hp) (a v0 N : Nat) (ml n : Int) (t : Int → Int) (c9 : Int) (ha : h a = some (eO 1 [vR v0, vI 0, vI ml, vI n])) (hv : h v0 = some (eA 4 N (fun j => vI (t j)))) (hN : 0 ≤ n ∧ n ≤ N ∧ N ≤ 82) (hN2 : n = N → N ≤ 40) (hc : 0 ≤ c9 ∧ c9 < 128) (ht : ∀ i : Int, 0 ≤ i → i < N → -128 ≤ t i ∧ t i < 128) : Ct l G N0 yJ4_append_cf468 (Cond.code yJ4_append_cf468 cJ4_append_cf468 2 (some (FieldType.object "java/lang/StringBuilder")) :: LW) ({ frames := 6, cells := 1, slots := 100, locals := 320 }) [vR a, vI c9] h (fun r h' => r = some (vR a) ∧ SBA h a v0 N ml n t c9 h') := by
  refine ct_of rfl rfl ?_
  intro p e s m args below meth c F hr hnm
  have F : Fx p s m args meth c RJ4 cJ4_append_cf468 2 G N0 (cA h s.heap.size) := F
  show Z _ _ _ _ _ _ _ _ _ _ _ _ _ _ _ _ _ _ _ [(0, vR a), (1, vI c9)] []
  refine z_aload_n F dJ4_append_cf468_0 rfl 0 rfl ?_
  refine z_iload_n F dJ4_append_cf468_1 rfl 1 rfl ?_
  refine z_callSU (C := "java/lang/StringBuilder") (As := [vI c9]) (st := []) F (mAppC l G N0 h a v0 N ml n t c9 ha hv hN hN2 hc ht) cuJ4_50 ha (fun r9 h9 => by cases h9; rfl) rfl rfl ⟨Nat.le_of_ble_eq_true rfl, Nat.le_of_ble_eq_true rfl⟩ rfl ⟨Nat.le_of_ble_eq_true rfl, Nat.le_of_ble_eq_true rfl⟩ dJ4_append_cf468_2 ?_
  rintro _ h9 ⟨rfl, hp9⟩
  show Z _ _ _ _ _ _ _ _ _ _ _ _ _ _ _ _ _ _ _ _ [vR a]
  refine z_pop F dJ4_append_cf468_5 rfl ?_
  refine z_aload_n F dJ4_append_cf468_6 rfl 0 rfl ?_
  exact z_aret (Or.inl ⟨_, rfl⟩) F hr (Nat.le_of_ble_eq_true rfl) (Nat.le_of_ble_eq_true rfl) dJ4_append_cf468_7 (⟨rfl, hp9⟩)
