/-- behind an append of one sign c -/
def SBA (h : Hp) (a v0 N : Nat) (ml n : Int) (t : Int → Int) (c : Int) (h' : Hp) : Prop := ∃ (v1 N1 : Nat) (t1 : Int → Int), h' a = some (eO 1 [vR v1, vI 0, vI ml, vI (n + 1)]) ∧ h' v1 = some (eA 4 N1 (fun j => vI (t1 j))) ∧ (∀ j, 0 ≤ j → j < n → t1 j = t j) ∧ t1 n = c ∧ (∀ j : Int, 0 ≤ j → j < N1 → -128 ≤ t1 j ∧ t1 j < 128) ∧ n + 1 ≤ N1 ∧ (v1 = v0 ∨ h v1 = none) ∧ (∀ x, x ≠ a → x ≠ v1 → h' x = h x) ∧ (N1 : Int) ≤ 82 ∧ (N1 = N ∨ (n = (N : Int) ∧ N1 = 2 * N + 2))
set_option maxRecDepth 100000 in
set_option maxHeartbeats 4000000 in
theorem mJ1_canEncode_fc78d (l : Launch) (G : GG) (N0 : Nat) (h : Hp) (c9 : Int) (hc : 0 ≤ c9 ∧ c9 < 128) : Ct l G N0 yJ1_canEncode_fc78d (Cond.code yJ1_canEncode_fc78d cJ1_canEncode_fc78d 1 (some FieldType.boolean) :: LW) ({ frames := 0, cells := 0, slots := 0, locals := 0 }) [vI c9] h (fun r h' => r = some (vI 1) ∧ h' = h) := by
  refine ct_of rfl rfl ?_
  intro p e s m args below meth c F hr hnm
  have F : Fx p s m args meth c RJ1 cJ1_canEncode_fc78d 1 G N0 (cA h s.heap.size) := F
  show Z _ _ _ _ _ _ _ _ _ _ _ _ _ _ _ _ _ _ _ [(0, vI c9)] []
  refine z_iload_n F dJ1_canEncode_fc78d_0 rfl 0 rfl ?_
  refine z_sipush F dJ1_canEncode_fc78d_1 (by decide) ?_
  refine z_icmp_gt (tgt := 11) F dJ1_canEncode_fc78d_4 (by decide) (by omega) (by decide) (fun c4 => ?_) (fun c4 => ?_)
  · exfalso; omega
  · refine z_iconst F dJ1_canEncode_fc78d_7 ?_
    refine z_goto (tgt := 12) F dJ1_canEncode_fc78d_8 (by decide) ?_
    exact z_iret (nf_z (by omega)) F hr (Nat.le_of_ble_eq_true rfl) (Nat.le_of_ble_eq_true rfl) dJ1_canEncode_fc78d_12 (⟨rfl, rfl⟩)
theorem i2b_id {z : Int} (h : -128 ≤ z ∧ z < 128) : (iI z).toInt8.toInt32 = iI z := by
  rw [← Int32.toInt_inj, Int8.toInt_toInt32, Int32.toInt_toInt8, iI_toInt (by omega)]
  exact Int.bmod_eq_of_le (by omega) (by omega)
set_option maxRecDepth 100000 in
set_option maxHeartbeats 4000000 in
theorem mAppC1 (l : Launch) (G : GG) (N0 : Nat) (h : Hp) (a v0 N : Nat) (ml n : Int) (t : Int → Int) (c9 : Int) (ha : h a = some (eO 1 [vR v0, vI 0, vI ml, vI n])) (hv : h v0 = some (eA 4 N (fun j => vI (t j)))) (hN : 0 ≤ n ∧ n < N ∧ N ≤ 82) (hc : 0 ≤ c9 ∧ c9 < 128) (ht : ∀ i : Int, 0 ≤ i → i < N → -128 ≤ t i ∧ t i < 128) : Ct l G N0 yJ5_append_3fe6f (Cond.code yJ5_append_3fe6f cJ5_append_3fe6f 2 (some (FieldType.object "java/lang/AbstractStringBuilder")) :: LW) ({ frames := 5, cells := 1, slots := 100, locals := 260 }) [vR a, vI c9] h (fun r h' => r = some (vR a) ∧ SBA h a v0 N ml n t c9 h') := by
  refine ct_of rfl rfl ?_
  intro p e s m args below meth c F hr hnm
  have F : Fx p s m args meth c RJ5 cJ5_append_3fe6f 2 G N0 (cA h s.heap.size) := F
  show Z _ _ _ _ _ _ _ _ _ _ _ _ _ _ _ _ _ _ _ [(0, vR a), (1, vI c9)] []
  refine z_aload_n F dJ5_append_3fe6f_0 rfl 0 rfl ?_
  refine z_aload_n F dJ5_append_3fe6f_1 rfl 0 rfl ?_
  refine z_get (v := vI n) F ha fJ5_79 rfl dJ5_append_3fe6f_2 ?_
  refine z_iconst F dJ5_append_3fe6f_5 ?_
  refine z_iadd F dJ5_append_3fe6f_6 ?_
  refine z_callU (C := "java/lang/StringBuilder") (As := [vI (n + 1)]) (st := []) F (mJ5_ensureCapacityInternal_d00df l G N0 h a v0 N ml n t (n + 1) (ha) (hv) (by omega)) cuJ5_100 clJ5_100 ha (fun r9 h9 => by cases h9; rfl) rfl rfl ⟨Nat.le_of_ble_eq_true rfl, Nat.le_of_ble_eq_true rfl⟩ rfl ⟨Nat.le_of_ble_eq_true rfl, Nat.le_of_ble_eq_true rfl⟩ dJ5_append_3fe6f_7 ?_
  rintro _ h9 ⟨rfl, hh9⟩
  rw [hh9]
  clear hh9 h9
  show Z _ _ _ _ _ _ _ _ _ _ _ _ _ _ _ _ _ _ _ _ []
  refine z_aload_n F dJ5_append_3fe6f_10 rfl 0 rfl ?_
  refine z_callU (C := "java/lang/StringBuilder") (As := []) (st := []) F (mJ5_isLatin1_aae02 l G N0 h a v0 N ml n t (ha)) cuJ5_83 clJ5_83 ha (fun r9 h9 => by cases h9; rfl) rfl rfl ⟨Nat.le_of_ble_eq_true rfl, Nat.le_of_ble_eq_true rfl⟩ rfl ⟨Nat.le_of_ble_eq_true rfl, Nat.le_of_ble_eq_true rfl⟩ dJ5_append_3fe6f_11 ?_
  rintro _ h9 ⟨rfl, hh9⟩
  rw [hh9]
  clear hh9 h9
  show Z _ _ _ _ _ _ _ _ _ _ _ _ _ _ _ _ _ _ _ _ [vI 1]
  refine z_if_eq (tgt := 45) F dJ5_append_3fe6f_14 (by decide) (by decide) (fun c14 => ?_) (fun c14 => ?_)
  · exact absurd c14 (by decide)
  · refine z_iload_n F dJ5_append_3fe6f_17 rfl 1 rfl ?_
    refine z_callS (As := [vI c9]) (st := []) F (mJ1_canEncode_fc78d l G N0 h c9 (by omega)) csJ5_191 rfl rfl ⟨Nat.le_of_ble_eq_true rfl, Nat.le_of_ble_eq_true rfl⟩ rfl ⟨Nat.le_of_ble_eq_true rfl, Nat.le_of_ble_eq_true rfl⟩ dJ5_append_3fe6f_18 ?_
    rintro _ h9 ⟨rfl, hh9⟩
    rw [hh9]
    clear hh9 h9
    show Z _ _ _ _ _ _ _ _ _ _ _ _ _ _ _ _ _ _ _ _ [vI 1]
    refine z_if_eq (tgt := 45) F dJ5_append_3fe6f_21 (by decide) (by decide) (fun c21 => ?_) (fun c21 => ?_)
    · exact absurd c21 (by decide)
    · refine z_aload_n F dJ5_append_3fe6f_24 rfl 0 rfl ?_
      refine z_get (v := vR v0) F ha fJ5_15 rfl dJ5_append_3fe6f_25 ?_
      refine z_aload_n F dJ5_append_3fe6f_28 rfl 0 rfl ?_
      refine z_dup F dJ5_append_3fe6f_29 rfl ?_
      refine z_get (v := vI n) F ha fJ5_79 rfl dJ5_append_3fe6f_30 ?_
      refine z_dup_x1 F dJ5_append_3fe6f_33 rfl rfl ?_
      refine z_iconst F dJ5_append_3fe6f_34 ?_
      refine z_iadd F dJ5_append_3fe6f_35 ?_
      obtain ⟨h1, eh1⟩ : ∃ z : Hp, hu h a (eO 1 [vR v0, vI 0, vI ml, vI (n + 1)]) = z := ⟨_, rfl⟩
      refine z_put (fs := [vR v0, vI 0, vI ml, vI n]) (fs' := [vR v0, vI 0, vI ml, vI (n + 1)]) (h' := h1) F ha fJ5_79 ftJ4_3 (nf_i _) (Nat.le_of_ble_eq_true rfl) rfl dJ5_append_3fe6f_36 eh1 ?_
      have g2 : h1 a = some (eO 1 [vR v0, vI 0, vI ml, vI (n + 1)]) := by rw [← eh1]; exact hu_s _ _ _
      have g3 : h1 v0 = some (eA 4 N (fun j => vI (t j))) := s_hu eh1 (ne_tg (hv) (ha) rfl) (hv)
      refine z_iload_n F dJ5_append_3fe6f_39 rfl 1 rfl ?_
      refine z_i2b F dJ5_append_3fe6f_40 (i2b_id (by omega)) ?_
      obtain ⟨h4, eh4⟩ : ∃ z : Hp, hu h1 v0 (eA 4 N (fun j => vI (if j = n then c9 else t j))) = z := ⟨_, rfl⟩
      refine z_bastore (N := N) (f := t) (h' := h4) F g3 (nf_b (by omega)) (by omega) (by omega) (by omega) dJ5_append_3fe6f_41 eh4 ?_
      have g5 : h4 v0 = some (eA 4 N (fun j => vI (if j = n then c9 else t j))) := by rw [← eh4]; exact hu_s _ _ _
      have g6 : h4 a = some (eO 1 [vR v0, vI 0, vI ml, vI (n + 1)]) := s_hu eh4 (ne_tg (g2) (g3) rfl) (g2)
      refine z_goto (tgt := 75) F dJ5_append_3fe6f_42 (by decide) ?_
      refine z_aload_n F dJ5_append_3fe6f_75 rfl 0 rfl ?_
      exact z_aret (Or.inl ⟨_, rfl⟩) F hr (Nat.le_of_ble_eq_true rfl) (Nat.le_of_ble_eq_true rfl) dJ5_append_3fe6f_76 (⟨rfl, v0, N, fun j => if j = n then c9 else t j, g6, g5, fun j q1 q2 => if_neg (by omega), if_pos rfl, fun j q1 q2 => by
                show -128 ≤ (if j = n then c9 else t j) ∧ (if j = n then c9 else t j) < 128
                by_cases q3 : j = n
                · rw [if_pos q3]; omega
                · rw [if_neg q3]; exact ht j q1 q2, by omega, Or.inl rfl, fun x q1 q2 => by rw [← eh4, hu_n _ _ (q2), ← eh1, hu_n _ _ (q1)], by omega, Or.inl rfl⟩)
set_option maxRecDepth 100000 in
set_option maxHeartbeats 4000000 in
theorem mAppC2 (l : Launch) (G : GG) (N0 : Nat) (h : Hp) (a v0 N : Nat) (ml n : Int) (t : Int → Int) (c9 : Int) (ha : h a = some (eO 1 [vR v0, vI 0, vI ml, vI n])) (hv : h v0 = some (eA 4 N (fun j => vI (t j)))) (hN : n = N ∧ N ≤ 40) (hc : 0 ≤ c9 ∧ c9 < 128) (ht : ∀ i : Int, 0 ≤ i → i < N → -128 ≤ t i ∧ t i < 128) : Ct l G N0 yJ5_append_3fe6f (Cond.code yJ5_append_3fe6f cJ5_append_3fe6f 2 (some (FieldType.object "java/lang/AbstractStringBuilder")) :: LW) ({ frames := 5, cells := 1, slots := 100, locals := 260 }) [vR a, vI c9] h (fun r h' => r = some (vR a) ∧ SBA h a v0 N ml n t c9 h') := by
  refine ct_of rfl rfl ?_
  intro p e s m args below meth c F hr hnm
  have F : Fx p s m args meth c RJ5 cJ5_append_3fe6f 2 G N0 (cA h s.heap.size) := F
  show Z _ _ _ _ _ _ _ _ _ _ _ _ _ _ _ _ _ _ _ [(0, vR a), (1, vI c9)] []
  refine z_aload_n F dJ5_append_3fe6f_0 rfl 0 rfl ?_
  refine z_aload_n F dJ5_append_3fe6f_1 rfl 0 rfl ?_
  refine z_get (v := vI n) F ha fJ5_79 rfl dJ5_append_3fe6f_2 ?_
  refine z_iconst F dJ5_append_3fe6f_5 ?_
  refine z_iadd F dJ5_append_3fe6f_6 ?_
  refine z_callU (C := "java/lang/StringBuilder") (As := [vI (n + 1)]) (st := []) F (mEnsureG l G N0 h a v0 N ml n t (n + 1) ha hv (by omega) ht) cuJ5_100 clJ5_100 ha (fun r9 h9 => by cases h9; rfl) rfl rfl ⟨Nat.le_of_ble_eq_true rfl, Nat.le_of_ble_eq_true rfl⟩ rfl ⟨Nat.le_of_ble_eq_true rfl, Nat.le_of_ble_eq_true rfl⟩ dJ5_append_3fe6f_7 ?_
  rintro _ h7 ⟨rfl, q, fq, k7⟩
  have neqa : a ≠ q := fresh_ne fq ha
  have ga1 : h7 a = some (eO 1 [vR q, vI 0, vI ml, vI n]) := by rw [k7, hu_s]
  have gq1 : h7 q = some (eA 4 (2 * N + 2) (fun j => vI (cpI t (fun _ => 0) 0 0 (N : Int) j))) := by rw [k7, hu_n _ _ neqa.symm, hu_s]
  have gx1 : ∀ x, x ≠ a → x ≠ q → h7 x = h x := fun x q1 q2 => by rw [k7, hu_n _ _ q1, hu_n _ _ q2]
  have hcp : ∀ j : Int, 0 ≤ j → -128 ≤ cpI t (fun _ => 0) 0 0 (N : Int) j ∧ cpI t (fun _ => 0) 0 0 (N : Int) j < 128 := fun j q1 => by
    unfold cpI
    by_cases q2 : 0 ≤ j ∧ j < 0 + (N : Int)
    · rw [if_pos q2]; exact ht _ (by omega) (by omega)
    · rw [if_neg q2]; exact (by decide : (-128 : Int) ≤ 0 ∧ (0 : Int) < 128)
  have hcq : ∀ j : Int, 0 ≤ j → j < n → cpI t (fun _ => 0) 0 0 (N : Int) j = t j := fun j q1 q2 => by
    unfold cpI
    rw [if_pos (by omega), show (0 : Int) + (j - 0) = j by omega]
  show Z _ _ _ _ _ _ _ _ _ _ _ _ _ _ _ _ _ _ _ _ []
  refine z_aload_n F dJ5_append_3fe6f_10 rfl 0 rfl ?_
  refine z_callU (C := "java/lang/StringBuilder") (As := []) (st := []) F (mJ5_isLatin1_aae02 l G N0 h7 a q 0 ml n t (ga1)) cuJ5_83 clJ5_83 ga1 (fun r9 h9 => by cases h9; rfl) rfl rfl ⟨Nat.le_of_ble_eq_true rfl, Nat.le_of_ble_eq_true rfl⟩ rfl ⟨Nat.le_of_ble_eq_true rfl, Nat.le_of_ble_eq_true rfl⟩ dJ5_append_3fe6f_11 ?_
  rintro _ h9 ⟨rfl, hh9⟩
  rw [hh9]
  clear hh9 h9
  show Z _ _ _ _ _ _ _ _ _ _ _ _ _ _ _ _ _ _ _ _ [vI 1]
  refine z_if_eq (tgt := 45) F dJ5_append_3fe6f_14 (by decide) (by decide) (fun c14 => ?_) (fun c14 => ?_)
  · exact absurd c14 (by decide)
  · refine z_iload_n F dJ5_append_3fe6f_17 rfl 1 rfl ?_
    refine z_callS (As := [vI c9]) (st := []) F (mJ1_canEncode_fc78d l G N0 h7 c9 (by omega)) csJ5_191 rfl rfl ⟨Nat.le_of_ble_eq_true rfl, Nat.le_of_ble_eq_true rfl⟩ rfl ⟨Nat.le_of_ble_eq_true rfl, Nat.le_of_ble_eq_true rfl⟩ dJ5_append_3fe6f_18 ?_
    rintro _ h9 ⟨rfl, hh9⟩
    rw [hh9]
    clear hh9 h9
    show Z _ _ _ _ _ _ _ _ _ _ _ _ _ _ _ _ _ _ _ _ [vI 1]
    refine z_if_eq (tgt := 45) F dJ5_append_3fe6f_21 (by decide) (by decide) (fun c21 => ?_) (fun c21 => ?_)
    · exact absurd c21 (by decide)
    · refine z_aload_n F dJ5_append_3fe6f_24 rfl 0 rfl ?_
      refine z_get (v := vR q) F ga1 fJ5_15 rfl dJ5_append_3fe6f_25 ?_
      refine z_aload_n F dJ5_append_3fe6f_28 rfl 0 rfl ?_
      refine z_dup F dJ5_append_3fe6f_29 rfl ?_
      refine z_get (v := vI n) F ga1 fJ5_79 rfl dJ5_append_3fe6f_30 ?_
      refine z_dup_x1 F dJ5_append_3fe6f_33 rfl rfl ?_
      refine z_iconst F dJ5_append_3fe6f_34 ?_
      refine z_iadd F dJ5_append_3fe6f_35 ?_
      obtain ⟨h1, eh1⟩ : ∃ z : Hp, hu h7 a (eO 1 [vR q, vI 0, vI ml, vI (n + 1)]) = z := ⟨_, rfl⟩
      refine z_put (fs := [vR q, vI 0, vI ml, vI n]) (fs' := [vR q, vI 0, vI ml, vI (n + 1)]) (h' := h1) F ga1 fJ5_79 ftJ4_3 (nf_i _) (Nat.le_of_ble_eq_true rfl) rfl dJ5_append_3fe6f_36 eh1 ?_
      have g2 : h1 a = some (eO 1 [vR q, vI 0, vI ml, vI (n + 1)]) := by rw [← eh1]; exact hu_s _ _ _
      have g3 : h1 q = some (eA 4 (2 * N + 2) (fun j => vI (cpI t (fun _ => 0) 0 0 (N : Int) j))) := s_hu eh1 (ne_tg (gq1) (ga1) rfl) (gq1)
      refine z_iload_n F dJ5_append_3fe6f_39 rfl 1 rfl ?_
      refine z_i2b F dJ5_append_3fe6f_40 (i2b_id (by omega)) ?_
      obtain ⟨h4, eh4⟩ : ∃ z : Hp, hu h1 q (eA 4 (2 * N + 2) (fun j => vI (if j = n then c9 else cpI t (fun _ => 0) 0 0 (N : Int) j))) = z := ⟨_, rfl⟩
      refine z_bastore (N := (2 * N + 2)) (f := fun j => cpI t (fun _ => 0) 0 0 (N : Int) j) (h' := h4) F g3 (nf_b (by omega)) (by omega) (by omega) (by omega) dJ5_append_3fe6f_41 eh4 ?_
      have g5 : h4 q = some (eA 4 (2 * N + 2) (fun j => vI (if j = n then c9 else cpI t (fun _ => 0) 0 0 (N : Int) j))) := by rw [← eh4]; exact hu_s _ _ _
      have g6 : h4 a = some (eO 1 [vR q, vI 0, vI ml, vI (n + 1)]) := s_hu eh4 (ne_tg (g2) (g3) rfl) (g2)
      refine z_goto (tgt := 75) F dJ5_append_3fe6f_42 (by decide) ?_
      refine z_aload_n F dJ5_append_3fe6f_75 rfl 0 rfl ?_
      exact z_aret (Or.inl ⟨_, rfl⟩) F hr (Nat.le_of_ble_eq_true rfl) (Nat.le_of_ble_eq_true rfl) dJ5_append_3fe6f_76 (⟨rfl, q, (2 * N + 2), fun j => if j = n then c9 else cpI t (fun _ => 0) 0 0 (N : Int) j, g6, g5, fun j q1 q2 => (if_neg (by omega)).trans (hcq j q1 q2), if_pos rfl, fun j q1 q2 => by
                show -128 ≤ (if j = n then c9 else cpI t (fun _ => 0) 0 0 (N : Int) j) ∧ (if j = n then c9 else cpI t (fun _ => 0) 0 0 (N : Int) j) < 128
                by_cases q3 : j = n
                · rw [if_pos q3]; omega
                · rw [if_neg q3]; exact hcp j q1, by omega, Or.inr fq, fun x q1 q2 => by rw [← eh4, hu_n _ _ (q2), ← eh1, hu_n _ _ (q1), gx1 x q1 q2], by omega, Or.inr ⟨hN.1, rfl⟩⟩)
