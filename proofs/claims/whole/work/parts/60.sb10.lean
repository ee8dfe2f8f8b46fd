/-- behind an append of the text L -/
def SBL (h : Hp) (a v0 N : Nat) (ml n : Int) (t : Int → Int) (L : List Int) (h' : Hp) : Prop := ∃ (v1 N1 : Nat) (t1 : Int → Int), h' a = some (eO 1 [vR v1, vI 0, vI ml, vI (n + L.length)]) ∧ h' v1 = some (eA 4 N1 (fun j => vI (t1 j))) ∧ (∀ j, 0 ≤ j → j < n → t1 j = t j) ∧ LT t1 n L ∧ (∀ j : Int, 0 ≤ j → j < N1 → -128 ≤ t1 j ∧ t1 j < 128) ∧ (n + L.length ≤ N1 ∧ 16 ≤ N1 ∧ (N1 : Int) ≤ 34) ∧ (v1 = v0 ∨ h v1 = none) ∧ (∀ x, x ≠ a → x ≠ v1 → h' x = h x) ∧ (N1 = N ∨ (N = 16 ∧ N1 = 34))
set_option maxRecDepth 100000 in
set_option maxHeartbeats 4000000 in
theorem mAppI1 (l : Launch) (G : GG) (N0 : Nat) (h : Hp) (a v0 N : Nat) (ml n : Int) (t : Int → Int) (v9 : Int) (ha : h a = some (eO 1 [vR v0, vI 0, vI ml, vI n])) (hv : h v0 = some (eA 4 N (fun j => vI (t j)))) (hN : 0 ≤ n ∧ n + szI v9 ≤ N ∧ 16 ≤ N ∧ N ≤ 34) (hv9 : 0 ≤ v9 ∧ v9 < 1000000) (ht : ∀ i : Int, 0 ≤ i → i < N → -128 ≤ t i ∧ t i < 128) : Ct l G N0 yJ5_append_c97b9 (Cond.code yJ5_append_c97b9 cJ5_append_c97b9 4 (some (FieldType.object "java/lang/AbstractStringBuilder")) :: LW) ({ frames := 5, cells := 1, slots := 100, locals := 260 }) [vR a, vI v9] h (fun r h' => r = some (vR a) ∧ SBL h a v0 N ml n t (decL v9) h') := by
  refine ct_of rfl rfl ?_
  intro p e s m args below meth c F hr hnm
  have F : Fx p s m args meth c RJ5 cJ5_append_c97b9 4 G N0 (cA h s.heap.size) := F
  have ne_av : a ≠ v0 := fun z => by rw [z, hv] at ha; cases ha
  have hsz0 := szI_in v9
  show Z _ _ _ _ _ _ _ _ _ _ _ _ _ _ _ _ _ _ _ [(0, vR a), (1, vI v9)] []
  refine z_aload_n F dJ5_append_c97b9_0 rfl 0 rfl ?_
  refine z_get (v := vI n) F ha fJ5_79 rfl dJ5_append_c97b9_1 ?_
  refine z_istore_n (lv' := [(2, vI n), (0, vR a), (1, vI v9)]) F dJ5_append_c97b9_4 rfl (by decide) rfl ?_
  refine z_iload_n F dJ5_append_c97b9_5 rfl 0 rfl ?_
  refine z_iload_n F dJ5_append_c97b9_6 rfl 2 rfl ?_
  refine z_callS (As := [vI v9]) (st := [vI n]) F (mJ6_stringSize_0f7a4 l G N0 h v9 hv9) csJ5_245 rfl rfl ⟨Nat.le_of_ble_eq_true rfl, Nat.le_of_ble_eq_true rfl⟩ rfl ⟨Nat.le_of_ble_eq_true rfl, Nat.le_of_ble_eq_true rfl⟩ dJ5_append_c97b9_7 ?_
  rintro _ h9 ⟨rfl, hh9⟩
  rw [hh9]
  clear hh9 h9
  show Z _ _ _ _ _ _ _ _ _ _ _ _ _ _ _ _ _ _ _ _ [vI (szI v9), vI n]
  refine z_iadd F dJ5_append_c97b9_10 ?_
  refine z_istore_n (lv' := [(3, vI (n + (szI v9))), (2, vI n), (0, vR a), (1, vI v9)]) F dJ5_append_c97b9_11 rfl (by decide) rfl ?_
  refine z_aload_n F dJ5_append_c97b9_12 rfl 2 rfl ?_
  refine z_iload_n F dJ5_append_c97b9_13 rfl 0 rfl ?_
  refine z_callU (C := "java/lang/StringBuilder") (As := [vI (n + (szI v9))]) (st := []) F (mJ5_ensureCapacityInternal_d00df l G N0 h a v0 N ml n t (n + (szI v9)) (ha) (hv) (by omega)) cuJ5_100 clJ5_100 ha (fun r9 h9 => by cases h9; rfl) rfl rfl ⟨Nat.le_of_ble_eq_true rfl, Nat.le_of_ble_eq_true rfl⟩ rfl ⟨Nat.le_of_ble_eq_true rfl, Nat.le_of_ble_eq_true rfl⟩ dJ5_append_c97b9_14 ?_
  rintro _ h9 ⟨rfl, hh9⟩
  rw [hh9]
  clear hh9 h9
  show Z _ _ _ _ _ _ _ _ _ _ _ _ _ _ _ _ _ _ _ _ []
  refine z_aload_n F dJ5_append_c97b9_17 rfl 2 rfl ?_
  refine z_callU (C := "java/lang/StringBuilder") (As := []) (st := []) F (mJ5_isLatin1_aae02 l G N0 h a v0 0 ml n t (ha)) cuJ5_83 clJ5_83 ha (fun r9 h9 => by cases h9; rfl) rfl rfl ⟨Nat.le_of_ble_eq_true rfl, Nat.le_of_ble_eq_true rfl⟩ rfl ⟨Nat.le_of_ble_eq_true rfl, Nat.le_of_ble_eq_true rfl⟩ dJ5_append_c97b9_18 ?_
  rintro _ h9 ⟨rfl, hh9⟩
  rw [hh9]
  clear hh9 h9
  show Z _ _ _ _ _ _ _ _ _ _ _ _ _ _ _ _ _ _ _ _ [vI 1]
  refine z_if_eq (tgt := 37) F dJ5_append_c97b9_21 (by decide) (by decide) (fun c21 => ?_) (fun c21 => ?_)
  · exact absurd c21 (by decide)
  · refine z_iload_n F dJ5_append_c97b9_24 rfl 3 rfl ?_
    refine z_iload_n F dJ5_append_c97b9_25 rfl 0 rfl ?_
    refine z_aload_n F dJ5_append_c97b9_26 rfl 2 rfl ?_
    refine z_get (v := vR v0) F ha fJ5_15 rfl dJ5_append_c97b9_27 ?_
    refine z_callS (As := [vI v9, vI (n + (szI v9)), vR v0]) (st := []) F (mJ6_getChars_ba4f3 l G N0 h v9 (n + (szI v9)) v0 N (fun j => t j) hv9 (hv) (by have := szI_in v9; omega) (ht)) csJ5_248 rfl rfl ⟨Nat.le_of_ble_eq_true rfl, Nat.le_of_ble_eq_true rfl⟩ rfl ⟨Nat.le_of_ble_eq_true rfl, Nat.le_of_ble_eq_true rfl⟩ dJ5_append_c97b9_30 ?_
    rintro _ h8 ⟨rfl, t8, gv8, k81, k82, k83, k8⟩
    have ga8 : h8 a = some (eO 1 [vR v0, vI 0, vI ml, vI n]) := by rw [k8 a (ne_av)]; exact ha
    show Z _ _ _ _ _ _ _ _ _ _ _ _ _ _ _ _ _ _ _ _ [vI (n + (szI v9) - szI v9)]
    refine z_pop F dJ5_append_c97b9_33 rfl ?_
    refine z_goto (tgt := 48) F dJ5_append_c97b9_34 (by decide) ?_
    refine z_aload_n F dJ5_append_c97b9_48 rfl 2 rfl ?_
    refine z_iload_n F dJ5_append_c97b9_49 rfl 0 rfl ?_
    obtain ⟨h1, eh1⟩ : ∃ z : Hp, hu h8 a (eO 1 [vR v0, vI 0, vI ml, vI (n + (szI v9))]) = z := ⟨_, rfl⟩
    refine z_put (fs := [vR v0, vI 0, vI ml, vI n]) (fs' := [vR v0, vI 0, vI ml, vI (n + (szI v9))]) (h' := h1) F ga8 fJ5_79 ftJ4_3 (nf_i _) (Nat.le_of_ble_eq_true rfl) rfl dJ5_append_c97b9_50 eh1 ?_
    have g2 : h1 a = some (eO 1 [vR v0, vI 0, vI ml, vI (n + (szI v9))]) := by rw [← eh1]; exact hu_s _ _ _
    have g3 : h1 v0 = some (eA 4 N (fun j => vI (t8 j))) := s_hu eh1 (Ne.symm (ne_av)) (gv8)
    refine z_aload_n F dJ5_append_c97b9_53 rfl 2 rfl ?_
    have hsz9 := decL_sz v9
    have hx0 : n + szI v9 - szI v9 = n := by omega
    rw [hx0] at k81 k82
    exact z_aret (Or.inl ⟨_, rfl⟩) F hr (Nat.le_of_ble_eq_true rfl) (Nat.le_of_ble_eq_true rfl) dJ5_append_c97b9_54 (⟨rfl, v0, N, t8, (by rw [hsz9]; exact g2), (by rw [← eh1, hu_n _ _ (Ne.symm (ne_av))]; exact gv8), fun j q1 q2 => (k81 j q2), k82, k83, by rw [hsz9]; have := szI_in v9; omega, Or.inl rfl, fun x q1 q2 => by rw [← eh1, hu_n _ _ q1, k8 x q2], Or.inl rfl⟩)
set_option maxRecDepth 100000 in
set_option maxHeartbeats 4000000 in
theorem mAppI2 (l : Launch) (G : GG) (N0 : Nat) (h : Hp) (a v0 N : Nat) (ml n : Int) (t : Int → Int) (v9 : Int) (ha : h a = some (eO 1 [vR v0, vI 0, vI ml, vI n])) (hv : h v0 = some (eA 4 N (fun j => vI (t j)))) (hN : 0 ≤ n ∧ n ≤ N ∧ (N : Int) < n + szI v9 ∧ N = 16) (hv9 : 0 ≤ v9 ∧ v9 < 1000000) (ht : ∀ i : Int, 0 ≤ i → i < N → -128 ≤ t i ∧ t i < 128) : Ct l G N0 yJ5_append_c97b9 (Cond.code yJ5_append_c97b9 cJ5_append_c97b9 4 (some (FieldType.object "java/lang/AbstractStringBuilder")) :: LW) ({ frames := 5, cells := 1, slots := 100, locals := 260 }) [vR a, vI v9] h (fun r h' => r = some (vR a) ∧ SBL h a v0 N ml n t (decL v9) h') := by
  refine ct_of rfl rfl ?_
  intro p e s m args below meth c F hr hnm
  have F : Fx p s m args meth c RJ5 cJ5_append_c97b9 4 G N0 (cA h s.heap.size) := F
  have hsz0 := szI_in v9
  show Z _ _ _ _ _ _ _ _ _ _ _ _ _ _ _ _ _ _ _ [(0, vR a), (1, vI v9)] []
  refine z_aload_n F dJ5_append_c97b9_0 rfl 0 rfl ?_
  refine z_get (v := vI n) F ha fJ5_79 rfl dJ5_append_c97b9_1 ?_
  refine z_istore_n (lv' := [(2, vI n), (0, vR a), (1, vI v9)]) F dJ5_append_c97b9_4 rfl (by decide) rfl ?_
  refine z_iload_n F dJ5_append_c97b9_5 rfl 0 rfl ?_
  refine z_iload_n F dJ5_append_c97b9_6 rfl 2 rfl ?_
  refine z_callS (As := [vI v9]) (st := [vI n]) F (mJ6_stringSize_0f7a4 l G N0 h v9 hv9) csJ5_245 rfl rfl ⟨Nat.le_of_ble_eq_true rfl, Nat.le_of_ble_eq_true rfl⟩ rfl ⟨Nat.le_of_ble_eq_true rfl, Nat.le_of_ble_eq_true rfl⟩ dJ5_append_c97b9_7 ?_
  rintro _ h9 ⟨rfl, hh9⟩
  rw [hh9]
  clear hh9 h9
  show Z _ _ _ _ _ _ _ _ _ _ _ _ _ _ _ _ _ _ _ _ [vI (szI v9), vI n]
  refine z_iadd F dJ5_append_c97b9_10 ?_
  refine z_istore_n (lv' := [(3, vI (n + (szI v9))), (2, vI n), (0, vR a), (1, vI v9)]) F dJ5_append_c97b9_11 rfl (by decide) rfl ?_
  refine z_aload_n F dJ5_append_c97b9_12 rfl 2 rfl ?_
  refine z_iload_n F dJ5_append_c97b9_13 rfl 0 rfl ?_
  refine z_callU (C := "java/lang/StringBuilder") (As := [vI (n + (szI v9))]) (st := []) F (mEnsureG l G N0 h a v0 N ml n t (n + (szI v9)) ha hv (by omega) ht) cuJ5_100 clJ5_100 ha (fun r9 h9 => by cases h9; rfl) rfl rfl ⟨Nat.le_of_ble_eq_true rfl, Nat.le_of_ble_eq_true rfl⟩ rfl ⟨Nat.le_of_ble_eq_true rfl, Nat.le_of_ble_eq_true rfl⟩ dJ5_append_c97b9_14 ?_
  rintro _ h7 ⟨rfl, q, fq, k7⟩
  have neqa : a ≠ q := fresh_ne fq ha
  have ga1 : h7 a = some (eO 1 [vR q, vI 0, vI ml, vI n]) := by rw [k7, hu_s]
  have gq1 : h7 q = some (eA 4 (2 * N + 2) (fun j => vI (cpI t (fun _ => 0) 0 0 (N : Int) j))) := by rw [k7, hu_n _ _ neqa.symm, hu_s]
  have gx1 : ∀ x, x ≠ a → x ≠ q → h7 x = h x := fun x q1 q2 => by rw [k7, hu_n _ _ q1, hu_n _ _ q2]
  have hcp : ∀ j : Int, 0 ≤ j → j < ((2 * N + 2 : Nat) : Int) → -128 ≤ cpI t (fun _ => 0) 0 0 (N : Int) j ∧ cpI t (fun _ => 0) 0 0 (N : Int) j < 128 := fun j q1 _ => by
    unfold cpI
    by_cases q2 : 0 ≤ j ∧ j < 0 + (N : Int)
    · rw [if_pos q2]; exact ht _ (by omega) (by omega)
    · rw [if_neg q2]; exact (by decide : (-128 : Int) ≤ 0 ∧ (0 : Int) < 128)
  have hcq : ∀ j : Int, 0 ≤ j → j < n → cpI t (fun _ => 0) 0 0 (N : Int) j = t j := fun j q1 q2 => by
    unfold cpI
    rw [if_pos (by omega), show (0 : Int) + (j - 0) = j by omega]
  show Z _ _ _ _ _ _ _ _ _ _ _ _ _ _ _ _ _ _ _ _ []
  refine z_aload_n F dJ5_append_c97b9_17 rfl 2 rfl ?_
  refine z_callU (C := "java/lang/StringBuilder") (As := []) (st := []) F (mJ5_isLatin1_aae02 l G N0 h7 a q 0 ml n t (ga1)) cuJ5_83 clJ5_83 ga1 (fun r9 h9 => by cases h9; rfl) rfl rfl ⟨Nat.le_of_ble_eq_true rfl, Nat.le_of_ble_eq_true rfl⟩ rfl ⟨Nat.le_of_ble_eq_true rfl, Nat.le_of_ble_eq_true rfl⟩ dJ5_append_c97b9_18 ?_
  rintro _ h9 ⟨rfl, hh9⟩
  rw [hh9]
  clear hh9 h9
  show Z _ _ _ _ _ _ _ _ _ _ _ _ _ _ _ _ _ _ _ _ [vI 1]
  refine z_if_eq (tgt := 37) F dJ5_append_c97b9_21 (by decide) (by decide) (fun c21 => ?_) (fun c21 => ?_)
  · exact absurd c21 (by decide)
  · refine z_iload_n F dJ5_append_c97b9_24 rfl 3 rfl ?_
    refine z_iload_n F dJ5_append_c97b9_25 rfl 0 rfl ?_
    refine z_aload_n F dJ5_append_c97b9_26 rfl 2 rfl ?_
    refine z_get (v := vR q) F ga1 fJ5_15 rfl dJ5_append_c97b9_27 ?_
    refine z_callS (As := [vI v9, vI (n + (szI v9)), vR q]) (st := []) F (mJ6_getChars_ba4f3 l G N0 h7 v9 (n + (szI v9)) q (2 * N + 2) (fun j => cpI t (fun _ => 0) 0 0 (N : Int) j) hv9 (gq1) (by have := szI_in v9; omega) (hcp)) csJ5_248 rfl rfl ⟨Nat.le_of_ble_eq_true rfl, Nat.le_of_ble_eq_true rfl⟩ rfl ⟨Nat.le_of_ble_eq_true rfl, Nat.le_of_ble_eq_true rfl⟩ dJ5_append_c97b9_30 ?_
    rintro _ h8 ⟨rfl, t8, gv8, k81, k82, k83, k8⟩
    have ga8 : h8 a = some (eO 1 [vR q, vI 0, vI ml, vI n]) := by rw [k8 a (neqa)]; exact ga1
    show Z _ _ _ _ _ _ _ _ _ _ _ _ _ _ _ _ _ _ _ _ [vI (n + (szI v9) - szI v9)]
    refine z_pop F dJ5_append_c97b9_33 rfl ?_
    refine z_goto (tgt := 48) F dJ5_append_c97b9_34 (by decide) ?_
    refine z_aload_n F dJ5_append_c97b9_48 rfl 2 rfl ?_
    refine z_iload_n F dJ5_append_c97b9_49 rfl 0 rfl ?_
    obtain ⟨h1, eh1⟩ : ∃ z : Hp, hu h8 a (eO 1 [vR q, vI 0, vI ml, vI (n + (szI v9))]) = z := ⟨_, rfl⟩
    refine z_put (fs := [vR q, vI 0, vI ml, vI n]) (fs' := [vR q, vI 0, vI ml, vI (n + (szI v9))]) (h' := h1) F ga8 fJ5_79 ftJ4_3 (nf_i _) (Nat.le_of_ble_eq_true rfl) rfl dJ5_append_c97b9_50 eh1 ?_
    have g2 : h1 a = some (eO 1 [vR q, vI 0, vI ml, vI (n + (szI v9))]) := by rw [← eh1]; exact hu_s _ _ _
    have g3 : h1 q = some (eA 4 (2 * N + 2) (fun j => vI (t8 j))) := s_hu eh1 (Ne.symm (neqa)) (gv8)
    refine z_aload_n F dJ5_append_c97b9_53 rfl 2 rfl ?_
    have hsz9 := decL_sz v9
    have hx0 : n + szI v9 - szI v9 = n := by omega
    rw [hx0] at k81 k82
    exact z_aret (Or.inl ⟨_, rfl⟩) F hr (Nat.le_of_ble_eq_true rfl) (Nat.le_of_ble_eq_true rfl) dJ5_append_c97b9_54 (⟨rfl, q, (2 * N + 2), t8, (by rw [hsz9]; exact g2), (by rw [← eh1, hu_n _ _ (Ne.symm (neqa))]; exact gv8), fun j q1 q2 => ((k81 j q2).trans (hcq j q1 q2)), k82, k83, by rw [hsz9]; have := szI_in v9; omega, Or.inr fq, fun x q1 q2 => by rw [← eh1, hu_n _ _ q1, k8 x q2, gx1 x q1 q2], Or.inr ⟨hN.2.2.2, by omega⟩⟩)
theorem mAppI (l : Launch) (G : GG) (N0 : Nat) (h : Hp) (a v0 N : Nat) (ml n : Int) (t : Int → Int) (v9 : Int) (ha : h a = some (eO 1 [vR v0, vI 0, vI ml, vI n])) (hv : h v0 = some (eA 4 N (fun j => vI (t j)))) (hN : 0 ≤ n ∧ n ≤ N ∧ 16 ≤ N ∧ N ≤ 34) (hN2 : (N : Int) < n + szI v9 → N = 16) (hv9 : 0 ≤ v9 ∧ v9 < 1000000) (ht : ∀ i : Int, 0 ≤ i → i < N → -128 ≤ t i ∧ t i < 128) : Ct l G N0 yJ5_append_c97b9 (Cond.code yJ5_append_c97b9 cJ5_append_c97b9 4 (some (FieldType.object "java/lang/AbstractStringBuilder")) :: LW) ({ frames := 5, cells := 1, slots := 100, locals := 260 }) [vR a, vI v9] h (fun r h' => r = some (vR a) ∧ SBL h a v0 N ml n t (decL v9) h') := by
  by_cases q : (N : Int) < n + szI v9
  · exact mAppI2 l G N0 h a v0 N ml n t v9 ha hv ⟨hN.1, hN.2.1, q, hN2 q⟩ hv9 ht
  · exact mAppI1 l G N0 h a v0 N ml n t v9 ha hv ⟨hN.1, by omega, hN.2.2⟩ hv9 ht
set_option maxRecDepth 100000 in
set_option maxHeartbeats 4000000 in
theorem mJ4_append_bf812 (l : Launch) (G : GG) (N0 : Nat) (h : Hp) (a v0 N : Nat) (ml n : Int) (t : Int → Int) (v9 : Int) (ha : h a = some (eO 1 [vR v0, vI 0, vI ml, vI n])) (hv : h v0 = some (eA 4 N (fun j => vI (t j)))) (hN : 0 ≤ n ∧ n ≤ N ∧ 16 ≤ N ∧ N ≤ 34) (hN2 : (N : Int) < n + szI v9 → N = 16) (hv9 : 0 ≤ v9 ∧ v9 < 1000000) (ht : ∀ i : Int, 0 ≤ i → i < N → -128 ≤ t i ∧ t i < 128) : Ct l G N0 yJ4_append_bf812 (Cond.code yJ4_append_bf812 cJ4_append_bf812 2 (some (FieldType.object "java/lang/StringBuilder")) :: LW) ({ frames := 6, cells := 1, slots := 100, locals := 320 }) [vR a, vI v9] h (fun r h' => r = some (vR a) ∧ SBL h a v0 N ml n t (decL v9) h') := by
  refine ct_of rfl rfl ?_
  intro p e s m args below meth c F hr hnm
  have F : Fx p s m args meth c RJ4 cJ4_append_bf812 2 G N0 (cA h s.heap.size) := F
  show Z _ _ _ _ _ _ _ _ _ _ _ _ _ _ _ _ _ _ _ [(0, vR a), (1, vI v9)] []
  refine z_aload_n F dJ4_append_bf812_0 rfl 0 rfl ?_
  refine z_iload_n F dJ4_append_bf812_1 rfl 1 rfl ?_
  refine z_callSU (C := "java/lang/StringBuilder") (As := [vI v9]) (st := []) F (mAppI l G N0 h a v0 N ml n t v9 ha hv hN hN2 hv9 ht) cuJ4_53 ha (fun r9 h9 => by cases h9; rfl) rfl rfl ⟨Nat.le_of_ble_eq_true rfl, Nat.le_of_ble_eq_true rfl⟩ rfl ⟨Nat.le_of_ble_eq_true rfl, Nat.le_of_ble_eq_true rfl⟩ dJ4_append_bf812_2 ?_
  rintro _ h9 ⟨rfl, hp9⟩
  show Z _ _ _ _ _ _ _ _ _ _ _ _ _ _ _ _ _ _ _ _ [vR a]
  refine z_pop F dJ4_append_bf812_5 rfl ?_
  refine z_aload_n F dJ4_append_bf812_6 rfl 0 rfl ?_
  exact z_aret (Or.inl ⟨_, rfl⟩) F hr (Nat.le_of_ble_eq_true rfl) (Nat.le_of_ble_eq_true rfl) dJ4_append_bf812_7 (⟨rfl, hp9⟩)
/-- append(char), as a text of one sign -/
theorem mAppC4 (l : Launch) (G : GG) (N0 : Nat) (h : Hp) (a v0 N : Nat) (ml n : Int) (t : Int → Int) (c9 : Int) (ha : h a = some (eO 1 [vR v0, vI 0, vI ml, vI n])) (hv : h v0 = some (eA 4 N (fun j => vI (t j)))) (hN : 0 ≤ n ∧ n ≤ N ∧ 16 ≤ N ∧ N ≤ 34) (hN2 : n = N → N = 16) (hc : 0 ≤ c9 ∧ c9 < 128) (ht : ∀ i : Int, 0 ≤ i → i < N → -128 ≤ t i ∧ t i < 128) : Ct l G N0 yJ4_append_cf468 (Cond.code yJ4_append_cf468 cJ4_append_cf468 2 (some (FieldType.object "java/lang/StringBuilder")) :: LW) ({ frames := 6, cells := 1, slots := 100, locals := 320 }) [vR a, vI c9] h (fun r h' => r = some (vR a) ∧ SBL h a v0 N ml n t [c9] h') :=
  Ct.mono (mJ4_append_cf468 l G N0 h a v0 N ml n t c9 ha hv ⟨hN.1, hN.2.1, by omega⟩ (fun q => by have := hN2 q; omega) hc ht) (fun r h' q => by
    obtain ⟨q0, v1, N1, t1, p1, p2, p3, p4, p5, p6, p7, p8, p9, p10⟩ := q
    refine ⟨q0, v1, N1, t1, p1, p2, p3, fun i hi => ?_, p5, ⟨p6, ?_, ?_⟩, p7, p8, ?_⟩
    · have hi0 : i = 0 := by
        have : ([c9] : List Int).length = 1 := rfl
        omega
      subst hi0
      show t1 (n + 0) = c9
      rw [Int.add_zero]
      exact p4
    · rcases p10 with z | ⟨z, w⟩ <;> omega
    · rcases p10 with z | ⟨z, w⟩
      · omega
      · have := hN2 z
        omega
    · rcases p10 with z | ⟨z, w⟩
      · exact Or.inl z
      · exact Or.inr ⟨hN2 z, by have := hN2 z; omega⟩)
