theorem shl0 (x : Int) : iI x <<< (iI 0 &&& 31) = iI x := by
  have : (iI 0 &&& 31) = 0 := by decide
  rw [this, Int32.shiftLeft_zero]
set_option maxRecDepth 100000 in
set_option maxHeartbeats 4000000 in
theorem mJ5_newCapacity_0f7a4 (l : Launch) (G : GG) (N0 : Nat) (h : Hp) (a v0 N : Nat) (ml n : Int) (t : Int → Int) (mn : Int) (ha : h a = some (eO 1 [vR v0, vI 0, vI ml, vI n])) (hv : h v0 = some (eA 4 N (fun j => vI (t j)))) (hm : (N : Int) < mn ∧ mn ≤ 900 ∧ N ≤ 400) : Ct l G N0 yJ5_newCapacity_0f7a4 (Cond.code yJ5_newCapacity_0f7a4 cJ5_newCapacity_0f7a4 6 (some FieldType.int) :: LW) ({ frames := 3, cells := 0, slots := 0, locals := 110 }) [vR a, vI mn] h (fun r h' => r = some (vI ((N : Int) + (if mn - (N : Int) < (N : Int) + 2 then (N : Int) + 2 else mn - (N : Int)))) ∧ h' = h) := by
  refine ct_of rfl rfl ?_
  intro p e s m args below meth c F hr hnm
  have F : Fx p s m args meth c RJ5 cJ5_newCapacity_0f7a4 6 G N0 (cA h s.heap.size) := F
  show Z _ _ _ _ _ _ _ _ _ _ _ _ _ _ _ _ _ _ _ [(0, vR a), (1, vI mn)] []
  refine z_aload_n F dJ5_newCapacity_0f7a4_0 rfl 0 rfl ?_
  refine z_get (v := vR v0) F ha fJ5_15 rfl dJ5_newCapacity_0f7a4_1 ?_
  refine z_alen F hv (by decide) dJ5_newCapacity_0f7a4_4 ?_
  refine z_istore_n (lv' := [(2, vI (N : Int)), (0, vR a), (1, vI mn)]) F dJ5_newCapacity_0f7a4_5 rfl (by decide) rfl ?_
  refine z_iload_n F dJ5_newCapacity_0f7a4_6 rfl 2 rfl ?_
  refine z_aload_n F dJ5_newCapacity_0f7a4_7 rfl 1 rfl ?_
  refine z_get (v := vI 0) F ha fJ5_22 rfl dJ5_newCapacity_0f7a4_8 ?_
  refine z_ishl (z := mn) F dJ5_newCapacity_0f7a4_11 (shl0 _) ?_
  refine z_istore_n (lv' := [(3, vI mn), (2, vI (N : Int)), (0, vR a), (1, vI mn)]) F dJ5_newCapacity_0f7a4_12 rfl (by decide) rfl ?_
  refine z_iload_n F dJ5_newCapacity_0f7a4_13 rfl 0 rfl ?_
  refine z_iload_n F dJ5_newCapacity_0f7a4_14 rfl 1 rfl ?_
  refine z_isub F dJ5_newCapacity_0f7a4_15 ?_
  refine z_istore (lv' := [(4, vI (mn - (N : Int))), (3, vI mn), (2, vI (N : Int)), (0, vR a), (1, vI mn)]) F dJ5_newCapacity_0f7a4_16 (by decide) rfl ?_
  refine z_iload_n F dJ5_newCapacity_0f7a4_18 rfl 2 rfl ?_
  refine z_iload F dJ5_newCapacity_0f7a4_19 0 rfl ?_
  refine z_iload_n F dJ5_newCapacity_0f7a4_21 rfl 2 rfl ?_
  refine z_iconst F dJ5_newCapacity_0f7a4_22 ?_
  refine z_aload_n F dJ5_newCapacity_0f7a4_23 rfl 3 rfl ?_
  refine z_get (v := vI 0) F ha fJ5_22 rfl dJ5_newCapacity_0f7a4_24 ?_
  refine z_ishl (z := 2) F dJ5_newCapacity_0f7a4_27 (shl0 _) ?_
  refine z_iadd F dJ5_newCapacity_0f7a4_28 ?_
  refine z_callS (As := [vI (N : Int), vI (mn - (N : Int)), vI ((N : Int) + 2)]) (st := []) F (mJ8_newLength_cabcc l G N0 h (N : Int) (mn - (N : Int)) ((N : Int) + 2) (by omega) (by omega) (by omega)) csJ5_114 rfl rfl ⟨Nat.le_of_ble_eq_true rfl, Nat.le_of_ble_eq_true rfl⟩ rfl ⟨Nat.le_of_ble_eq_true rfl, Nat.le_of_ble_eq_true rfl⟩ dJ5_newCapacity_0f7a4_29 ?_
  rintro _ h9 ⟨rfl, hh9⟩
  rw [hh9]
  clear hh9 h9
  show Z _ _ _ _ _ _ _ _ _ _ _ _ _ _ _ _ _ _ _ _ [vI ((N : Int) + (if mn - (N : Int) < (N : Int) + 2 then (N : Int) + 2 else mn - (N : Int)))]
  refine z_istore (lv' := [(5, vI ((N : Int) + (if mn - (N : Int) < (N : Int) + 2 then (N : Int) + 2 else mn - (N : Int)))), (4, vI (mn - (N : Int))), (3, vI mn), (2, vI (N : Int)), (0, vR a), (1, vI mn)]) F dJ5_newCapacity_0f7a4_32 (by decide) rfl ?_
  refine z_iload F dJ5_newCapacity_0f7a4_34 0 rfl ?_
  refine z_ldc F q354 dJ5_newCapacity_0f7a4_36 ?_
  refine z_icmp_ne (tgt := 51) F dJ5_newCapacity_0f7a4_38 (by decide) (by omega) (by decide) (fun c38 => ?_) (fun c38 => ?_)
  · refine z_iload F dJ5_newCapacity_0f7a4_51 0 rfl ?_
    refine z_aload_n F dJ5_newCapacity_0f7a4_53 rfl 4 rfl ?_
    refine z_get (v := vI 0) F ha fJ5_22 rfl dJ5_newCapacity_0f7a4_54 ?_
    refine z_ishr (z := (N : Int) + (if mn - (N : Int) < (N : Int) + 2 then (N : Int) + 2 else mn - (N : Int))) F dJ5_newCapacity_0f7a4_57 (shr0 _) ?_
    exact z_iret (nf_i _) F hr (Nat.le_of_ble_eq_true rfl) (Nat.le_of_ble_eq_true rfl) dJ5_newCapacity_0f7a4_58 (⟨rI (by omega), rfl⟩)
  · exfalso; omega
set_option maxRecDepth 100000 in
set_option maxHeartbeats 4000000 in
theorem mJ7_copyOf_9075b (l : Launch) (G : GG) (N0 : Nat) (h : Hp) (b N N1 : Nat) (t : Int → Int) (hb : h b = some (eA 4 N (fun j => vI (t j)))) (hN : N < N1 ∧ N1 ≤ 100) (ht : ∀ i : Int, 0 ≤ i → i < N → -128 ≤ t i ∧ t i < 128) : Ct l G N0 yJ7_copyOf_9075b (Cond.code yJ7_copyOf_9075b cJ7_copyOf_9075b 3 (some (FieldType.array FieldType.byte)) :: LW) ({ frames := 1, cells := 1, slots := 100, locals := 80 }) [vR b, vI (N1 : Int)] h (fun r h' => ∃ q, r = some (vR q) ∧ h q = none ∧ h' = hu h q (eA 4 N1 (fun j => vI (cpI t (fun _ => 0) 0 0 (N : Int) j)))) := by
  refine ct_of rfl rfl ?_
  intro p e s m args below meth c F hr hnm
  have F : Fx p s m args meth c RJ7 cJ7_copyOf_9075b 3 G N0 (cA h s.heap.size) := F
  show Z _ _ _ _ _ _ _ _ _ _ _ _ _ _ _ _ _ _ _ [(0, vR b), (1, vI (N1 : Int))] []
  refine z_iload_n F dJ7_copyOf_9075b_0 rfl 1 rfl ?_
  refine z_aload_n F dJ7_copyOf_9075b_1 rfl 0 rfl ?_
  refine z_alen F hb (by decide) dJ7_copyOf_9075b_2 ?_
  refine z_icmp_ne (tgt := 14) F dJ7_copyOf_9075b_3 (by decide) (by omega) (by omega) (fun c3 => ?_) (fun c3 => ?_)
  · refine z_iload_n F dJ7_copyOf_9075b_14 rfl 1 rfl ?_
    refine z_newarr (kk := 4) (N := N1) (v0 := vI 0) (ty := .byte) F rfl q169 rfl (fun C9 h9 => by cases h9) rfl rfl (by first | omega | (show N1 * 1 ≤ 536870912; omega)) (by first | omega | (show N1 * 1 ≤ 536870912; omega)) (by first | omega | (simp only []; omega)) (by first | omega | (simp only []; omega)) dJ7_copyOf_9075b_15 (fun ad1 fad1 => ?_)
    generalize eh2 : hu h ad1 (eA 4 N1 (fun _ => vI 0)) = h2
    have g3 : h2 ad1 = some (eA 4 N1 (fun _ => vI 0)) := by rw [← eh2]; exact hu_s _ _ _
    have g4 : h2 b = some (eA 4 N (fun j => vI (t j))) := s_hu eh2 (fresh_ne fad1 (hb)) (hb)
    refine z_astore_n (lv' := [(2, vR ad1), (0, vR b), (1, vI (N1 : Int))]) F dJ7_copyOf_9075b_17 rfl (by decide) rfl ?_
    refine z_aload_n F dJ7_copyOf_9075b_18 rfl 1 rfl ?_
    refine z_iconst F dJ7_copyOf_9075b_19 ?_
    refine z_aload_n F dJ7_copyOf_9075b_20 rfl 0 rfl ?_
    refine z_iconst F dJ7_copyOf_9075b_21 ?_
    refine z_aload_n F dJ7_copyOf_9075b_22 rfl 1 rfl ?_
    refine z_alen F g4 (by decide) dJ7_copyOf_9075b_23 ?_
    refine z_iload_n F dJ7_copyOf_9075b_24 rfl 2 rfl ?_
    refine z_mmin F mmJ7_304 ⟨Nat.le_of_ble_eq_true rfl, Nat.le_of_ble_eq_true rfl, (by first | omega | (simp only []; omega)), (by first | omega | (simp only []; omega))⟩ (by omega) (by omega) dJ7_copyOf_9075b_25 ?_
    generalize ex5 : (if (N1 : Int) < (N : Int) then (N1 : Int) else (N : Int)) = x5
    have rx5 := ex5
    have mn9 : x5 = (N : Int) := by omega
    rw [mn9]
    refine z_bcopy (f := t) (g := (fun _ => 0)) (M0 := N) (M1 := N1) F (g4) (g3) (by omega) (fun i q1 q2 => by rw [Int.zero_add]; exact ht i q1 q2) ⟨q368, q370, q369, q24⟩ ⟨Nat.le_of_ble_eq_true rfl, Nat.le_of_ble_eq_true rfl⟩ dJ7_copyOf_9075b_28 ?_
    obtain ⟨h6, eh6⟩ : ∃ z : Hp, hu h2 ad1 (eA 4 N1 (fun j => vI (cpI t (fun _ => 0) 0 0 (N : Int) j))) = z := ⟨_, rfl⟩
    rw [eh6]
    have hfin : h6 = hu h ad1 (eA 4 N1 (fun j => vI (cpI t (fun _ => 0) 0 0 (N : Int) j))) := by rw [← eh6, ← eh2, hu_hu]
    refine z_aload_n F dJ7_copyOf_9075b_31 rfl 0 rfl ?_
    exact z_aret (Or.inr ⟨_, rfl⟩) F hr (by first | exact Nat.le_of_ble_eq_true rfl | omega | (simp only []; omega)) (by first | exact Nat.le_of_ble_eq_true rfl | omega | (simp only []; omega)) dJ7_copyOf_9075b_32 (⟨_, rfl, fad1, hfin⟩)
  · exfalso; omega
