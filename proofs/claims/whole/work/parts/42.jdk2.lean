theorem hu_hu (h : Hp) (a : Nat) (e e2 : AE) : hu (hu h a e) a e2 = hu h a e2 := by
  funext b
  unfold hu
  by_cases q : b = a
  · rw [if_pos q, if_pos q]
  · rw [if_neg q, if_neg q, if_neg q]
/-- what a list's array may hold -/
def OB5 (h : Hp) (f : Int → Option Nat) (n : Int) : Prop := ∀ i : Int, 0 ≤ i → i < n → ∀ y, f i = some y → ∃ ci fs, h y = some (eO ci fs) ∧ ∀ r : vw_C, kCl[ci]? = some r → (r.1, "java/lang/Object") ∈ castL
theorem OB5.new {h : Hp} {f : Int → Option Nat} {n : Int} {q : Nat} {e : AE} (H : OB5 h f n) (hq : h q = none) : OB5 (hu h q e) f n := fun i h0 h1 y hy => by
  obtain ⟨ci, fs, g1, g2⟩ := H i h0 h1 y hy
  exact ⟨ci, fs, by rw [hu_n _ _ (fresh_ne hq g1)]; exact g1, g2⟩
set_option maxRecDepth 100000 in
set_option maxHeartbeats 4000000 in
theorem mJ8_newLength_cabcc (l : Launch) (G : GG) (N0 : Nat) (h : Hp) (o9 mg pg : Int) (h0 : 0 ≤ o9 ∧ o9 ≤ 1000) (h1 : 0 < mg ∧ mg ≤ 1000) (h2 : 0 ≤ pg ∧ pg ≤ 1000) : Ct l G N0 yJ8_newLength_cabcc (Cond.code yJ8_newLength_cabcc cJ8_newLength_cabcc 4 (some FieldType.int) :: LW) ({ frames := 2, cells := 0, slots := 0, locals := 60 }) [vI o9, vI mg, vI pg] h (fun r h' => r = some (vI (o9 + (if mg < pg then pg else mg))) ∧ h' = h) := by
  refine ct_of rfl rfl ?_
  intro p e s m args below meth c F hr hnm
  have F : Fx p s m args meth c RJ8 cJ8_newLength_cabcc 4 G N0 (cA h s.heap.size) := F
  show Z _ _ _ _ _ _ _ _ _ _ _ _ _ _ _ _ _ _ _ [(0, vI o9), (1, vI mg), (2, vI pg)] []
  refine z_iload_n F dJ8_newLength_cabcc_0 rfl 0 rfl ?_
  refine z_iload_n F dJ8_newLength_cabcc_1 rfl 1 rfl ?_
  refine z_iload_n F dJ8_newLength_cabcc_2 rfl 2 rfl ?_
  refine z_mmax F mmJ8_194 ⟨Nat.le_of_ble_eq_true rfl, Nat.le_of_ble_eq_true rfl, (Nat.le_of_ble_eq_true rfl), (Nat.le_of_ble_eq_true rfl)⟩ (by omega) (by omega) dJ8_newLength_cabcc_3 ?_
  generalize ex1 : (if mg < pg then pg else mg) = x1
  have rx1 := ex1
  refine z_iadd F dJ8_newLength_cabcc_6 ?_
  refine z_istore_n (lv' := [(3, vI (o9 + x1)), (0, vI o9), (1, vI mg), (2, vI pg)]) F dJ8_newLength_cabcc_7 rfl (by decide) rfl ?_
  refine z_iconst F dJ8_newLength_cabcc_8 ?_
  refine z_iload_n F dJ8_newLength_cabcc_9 rfl 0 rfl ?_
  refine z_icmp_ge (tgt := 21) F dJ8_newLength_cabcc_10 (by decide) (by decide) (by omega) (fun c10 => ?_) (fun c10 => ?_)
  · exfalso; omega
  · refine z_iload_n F dJ8_newLength_cabcc_13 rfl 0 rfl ?_
    refine z_ldc F q350 dJ8_newLength_cabcc_14 ?_
    refine z_icmp_gt (tgt := 21) F dJ8_newLength_cabcc_16 (by decide) (by omega) (by decide) (fun c16 => ?_) (fun c16 => ?_)
    · exfalso; omega
    · refine z_iload_n F dJ8_newLength_cabcc_19 rfl 0 rfl ?_
      exact z_iret (nf_i _) F hr (Nat.le_of_ble_eq_true rfl) (Nat.le_of_ble_eq_true rfl) dJ8_newLength_cabcc_20 (⟨rI (by omega), rfl⟩)
set_option maxRecDepth 100000 in
set_option maxHeartbeats 4000000 in
theorem mJ7_copyOf_6403c (l : Launch) (G : GG) (N0 : Nat) (h : Hp) (b N N1 : Nat) (f : Int → Option Nat) (hb : h b = some (eA 5 N (fun j => vQ (f j)))) (hN : N ≤ N1 ∧ N1 ≤ 100) (hOB : OB5 h f N) : Ct l G N0 yJ7_copyOf_6403c (Cond.code yJ7_copyOf_6403c cJ7_copyOf_6403c 4 (some (FieldType.array (FieldType.object "java/lang/Object"))) :: LW) ({ frames := 1, cells := 1, slots := 100, locals := 80 }) [vR b, vI (N1 : Int), vR (G.2.2 3)] h (fun r h' => ∃ q, r = some (vR q) ∧ h q = none ∧ h' = hu h q (eA 5 N1 (fun j => vQ (cpI f (fun _ => none) 0 0 (N : Int) j)))) := by
  refine ct_of rfl rfl ?_
  intro p e s m args below meth c F hr hnm
  have F : Fx p s m args meth c RJ7 cJ7_copyOf_6403c 4 G N0 (cA h s.heap.size) := F
  show Z _ _ _ _ _ _ _ _ _ _ _ _ _ _ _ _ _ _ _ [(0, vR b), (1, vI (N1 : Int)), (2, vR (G.2.2 3))] []
  refine z_aload_n F dJ7_copyOf_6403c_0 rfl 2 rfl ?_
  refine z_ldcM F q616 dJ7_copyOf_6403c_1 ?_
  refine z_acmp_ne (rx := some (G.2.2 3)) (ry := some (G.2.2 3)) (tgt := 13) F dJ7_copyOf_6403c_3 (by decide) (fun c3 => ?_) (fun c3 => ?_)
  · exact absurd rfl c3
  · refine z_iload_n F dJ7_copyOf_6403c_6 rfl 1 rfl ?_
    refine z_anew (N := N1) F q618 rfl (by omega) (by omega) (by first | omega | (simp only []; omega)) (by first | omega | (simp only []; omega)) dJ7_copyOf_6403c_7 (fun ad1 fad1 => ?_)
    generalize eh2 : hu h ad1 (eA 5 N1 (fun _ => vN)) = h2
    have g3 : h2 ad1 = some (eA 5 N1 (fun _ => vN)) := by rw [← eh2]; exact hu_s _ _ _
    have g4 : h2 b = some (eA 5 N (fun j => vQ (f j))) := s_hu eh2 (fresh_ne fad1 (hb)) (hb)
    refine z_goto (tgt := 24) F dJ7_copyOf_6403c_10 (by decide) ?_
    refine z_astore_n (lv' := [(3, vR ad1), (0, vR b), (1, vI (N1 : Int)), (2, vR (G.2.2 3))]) F dJ7_copyOf_6403c_24 rfl (by decide) rfl ?_
    have hOB1 := hOB.new (e := eA 5 N1 (fun _ => vN)) fad1
    rw [eh2] at hOB1
    refine z_aload_n F dJ7_copyOf_6403c_25 rfl 1 rfl ?_
    refine z_iconst F dJ7_copyOf_6403c_26 ?_
    refine z_aload_n F dJ7_copyOf_6403c_27 rfl 0 rfl ?_
    refine z_iconst F dJ7_copyOf_6403c_28 ?_
    refine z_aload_n F dJ7_copyOf_6403c_29 rfl 1 rfl ?_
    refine z_alen F g4 (by decide) dJ7_copyOf_6403c_30 ?_
    refine z_iload_n F dJ7_copyOf_6403c_31 rfl 2 rfl ?_
    refine z_mmin F mmJ7_304 ⟨Nat.le_of_ble_eq_true rfl, Nat.le_of_ble_eq_true rfl, (by first | omega | (simp only []; omega)), (by first | omega | (simp only []; omega))⟩ (by omega) (by omega) dJ7_copyOf_6403c_32 ?_
    generalize ex5 : (if (N1 : Int) < (N : Int) then (N1 : Int) else (N : Int)) = x5
    have rx5 := ex5
    have mn9 : x5 = (N : Int) := by omega
    rw [mn9]
    refine z_acopy (f := f) (g := (fun _ => none)) (M0 := N) (M1 := N1) F (g4) (g3) (by omega) (fun i q1 q2 y hy => hOB1 i q1 q2 y (by rw [Int.zero_add] at hy; exact hy)) ⟨q368, q370, q369, q24⟩ ⟨Nat.le_of_ble_eq_true rfl, Nat.le_of_ble_eq_true rfl⟩ dJ7_copyOf_6403c_35 ?_
    obtain ⟨h6, eh6⟩ : ∃ z : Hp, hu h2 ad1 (eA 5 N1 (fun j => vQ (cpI f (fun _ => none) 0 0 (N : Int) j))) = z := ⟨_, rfl⟩
    rw [eh6]
    have hfin : h6 = hu h ad1 (eA 5 N1 (fun j => vQ (cpI f (fun _ => none) 0 0 (N : Int) j))) := by rw [← eh6, ← eh2, hu_hu]
    refine z_aload_n F dJ7_copyOf_6403c_38 rfl 0 rfl ?_
    exact z_aret (Or.inr ⟨_, rfl⟩) F hr (by first | exact Nat.le_of_ble_eq_true rfl | omega | (simp only []; omega)) (by first | exact Nat.le_of_ble_eq_true rfl | omega | (simp only []; omega)) dJ7_copyOf_6403c_39 (⟨_, rfl, fad1, hfin⟩)
set_option maxRecDepth 100000 in
set_option maxHeartbeats 4000000 in
theorem mJ7_copyOf_1904c (l : Launch) (G : GG) (N0 : Nat) (h : Hp) (b N N1 : Nat) (f : Int → Option Nat) (hb : h b = some (eA 5 N (fun j => vQ (f j)))) (hN : N ≤ N1 ∧ N1 ≤ 100) (hOB : OB5 h f N) : Ct l G N0 yJ7_copyOf_1904c (Cond.code yJ7_copyOf_1904c cJ7_copyOf_1904c 2 (some (FieldType.array (FieldType.object "java/lang/Object"))) :: LW) ({ frames := 2, cells := 1, slots := 100, locals := 140 }) [vR b, vI (N1 : Int)] h (fun r h' => ∃ q, r = some (vR q) ∧ h q = none ∧ h' = hu h q (eA 5 N1 (fun j => vQ (cpI f (fun _ => none) 0 0 (N : Int) j)))) := by
  refine ct_of rfl rfl ?_
  intro p e s m args below meth c F hr hnm
  have F : Fx p s m args meth c RJ7 cJ7_copyOf_1904c 2 G N0 (cA h s.heap.size) := F
  show Z _ _ _ _ _ _ _ _ _ _ _ _ _ _ _ _ _ _ _ [(0, vR b), (1, vI (N1 : Int))] []
  refine z_aload_n F dJ7_copyOf_1904c_0 rfl 0 rfl ?_
  refine z_iload_n F dJ7_copyOf_1904c_1 rfl 1 rfl ?_
  refine z_aload_n F dJ7_copyOf_1904c_2 rfl 0 rfl ?_
  refine z_getCl F (hb) ⟨q589, q1945, q590, q612⟩ ⟨Nat.le_of_ble_eq_true rfl, Nat.le_of_ble_eq_true rfl⟩ dJ7_copyOf_1904c_3 ?_
  refine z_callS (As := [vR b, vI (N1 : Int), vR (G.2.2 3)]) (st := []) F (mJ7_copyOf_6403c l G N0 h b N N1 f (hb) hN hOB) csJ7_300 rfl rfl ⟨Nat.le_of_ble_eq_true rfl, Nat.le_of_ble_eq_true rfl⟩ rfl ⟨Nat.le_of_ble_eq_true rfl, Nat.le_of_ble_eq_true rfl⟩ dJ7_copyOf_1904c_6 ?_
  rintro _ h1 ⟨ad2, rfl, fad2, hfin⟩
  show Z _ _ _ _ _ _ _ _ _ _ _ _ _ _ _ _ _ _ _ _ [vR ad2]
  exact z_aret (Or.inr ⟨_, rfl⟩) F hr (by first | exact Nat.le_of_ble_eq_true rfl | omega | (simp only []; omega)) (by first | exact Nat.le_of_ble_eq_true rfl | omega | (simp only []; omega)) dJ7_copyOf_1904c_9 (⟨_, rfl, fad2, hfin⟩)
