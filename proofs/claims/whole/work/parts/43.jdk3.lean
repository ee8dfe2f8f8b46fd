theorem shr1 : ∀ x : Fin 101, iI (x.val : Int) >>> (iI 1 &&& 31) = iI ((x.val : Int) / 2) := by decide +kernel
theorem shr1' {N : Nat} (h : N ≤ 100) : iI (N : Int) >>> (iI 1 &&& 31) = iI ((N : Int) / 2) := shr1 ⟨N, by omega⟩
theorem Ct.mono {l : Launch} {G : GG} {N0 : Nat} {y : MethodName} {ws : List Cond} {rm : Room} {as : List AV} {h : Hp} {P P2 : Option AV → Hp → Prop} (H : Ct l G N0 y ws rm as h P) (hp : ∀ r h', P r h' → P2 r h') : Ct l G N0 y ws rm as h P2 := fun sz => MetFree.mono (H sz) (fun _ _ z => z) (fun _ _ _ _ _ k => k) (fun _ _ _ _ _ hq => by
  obtain ⟨⟨r, h', ho, hP, hB⟩, hL⟩ := hq
  exact ⟨⟨r, h', ho, hp r h' hP, hB⟩, hL⟩)
set_option maxRecDepth 100000 in
set_option maxHeartbeats 4000000 in
theorem mGrow0 (l : Launch) (G : GG) (N0 : Nat) (h : Hp) (a : Nat) (mc mn : Int) (ha : h a = some (eO 4 [vI mc, vR (G.2.2 0), vI 0])) (hm : 0 ≤ mn ∧ mn ≤ 10) : Ct l G N0 yJx4a65c_grow_92f84 (Cond.code yJx4a65c_grow_92f84 cJx4a65c_grow_92f84 4 (some (FieldType.array (FieldType.object "java/lang/Object"))) :: LW) ({ frames := 1, cells := 1, slots := 100, locals := 80 }) [vR a, vI mn] h (fun r h' => ∃ q, r = some (vR q) ∧ h q = none ∧ h' = hu (hu h q (eA 5 10 (fun _ => vN))) a (eO 4 [vI mc, vR q, vI 0])) := by
  refine ct_of rfl rfl ?_
  intro p e s m args below meth c F hr hnm
  have F : Fx p s m args meth c RJx4a65c cJx4a65c_grow_92f84 4 G N0 (cA h s.heap.size) := F
  show Z _ _ _ _ _ _ _ _ _ _ _ _ _ _ _ _ _ _ _ [(0, vR a), (1, vI mn)] []
  refine z_aload_n F dJx4a65c_grow_92f84_0 rfl 0 rfl ?_
  refine z_get (v := vR (G.2.2 0)) F ha fJx4a65c_9 rfl dJx4a65c_grow_92f84_1 ?_
  refine z_alenE F dJx4a65c_grow_92f84_4 ?_
  refine z_istore_n (lv' := [(2, vI 0), (0, vR a), (1, vI mn)]) F dJx4a65c_grow_92f84_5 rfl (by decide) rfl ?_
  refine z_iload_n F dJx4a65c_grow_92f84_6 rfl 0 rfl ?_
  refine z_if_gt (tgt := 20) F dJx4a65c_grow_92f84_7 (by decide) (by decide) (fun c7 => ?_) (fun c7 => ?_)
  · exact absurd c7 (by decide)
  · refine z_aload_n F dJx4a65c_grow_92f84_10 rfl 1 rfl ?_
    refine z_get (v := vR (G.2.2 0)) F ha fJx4a65c_9 rfl dJx4a65c_grow_92f84_11 ?_
    refine z_getE F q65 dJx4a65c_grow_92f84_14 ?_
    refine z_acmp_eq (rx := some (G.2.2 0)) (ry := some (G.2.2 0)) (tgt := 45) F dJx4a65c_grow_92f84_17 (by decide) (fun c17 => ?_) (fun c17 => ?_)
    · refine z_aload_n F dJx4a65c_grow_92f84_45 rfl 1 rfl ?_
      refine z_bipush F dJx4a65c_grow_92f84_46 (by decide) ?_
      refine z_iload_n F dJx4a65c_grow_92f84_48 rfl 2 rfl ?_
      refine z_mmax F mmJx4a65c_79 ⟨Nat.le_of_ble_eq_true rfl, Nat.le_of_ble_eq_true rfl, (by first | omega | (simp only []; omega)), (by first | omega | (simp only []; omega))⟩ (by decide) (by omega) dJx4a65c_grow_92f84_49 ?_
      generalize ex1 : (if 10 < mn then mn else 10) = x1
      have rx1 := ex1
      rw [show x1 = (10 : Int) from by omega]
      refine z_anew (N := 10) F q620 (by omega) (by omega) (by omega) (by first | omega | (simp only []; omega)) (by first | omega | (simp only []; omega)) dJx4a65c_grow_92f84_52 (fun ad2 fad2 => ?_)
      generalize eh3 : hu h ad2 (eA 5 10 (fun _ => vN)) = h3
      have g4 : h3 ad2 = some (eA 5 10 (fun _ => vN)) := by rw [← eh3]; exact hu_s _ _ _
      have g5 : h3 a = some (eO 4 [vI mc, vR (G.2.2 0), vI 0]) := s_hu eh3 (fresh_ne fad2 (ha)) (ha)
      refine z_dup_x1 F dJx4a65c_grow_92f84_55 rfl rfl ?_
      obtain ⟨h6, eh6⟩ : ∃ z : Hp, hu h3 a (eO 4 [vI mc, vR ad2, vI 0]) = z := ⟨_, rfl⟩
      refine z_put (fs := [vI mc, vR (G.2.2 0), vI 0]) (fs' := [vI mc, vR ad2, vI 0]) (h' := h6) F g5 fJx4a65c_9 ftJx4a65c_1 (nf_a _ _) (Nat.le_of_ble_eq_true rfl) rfl dJx4a65c_grow_92f84_56 eh6 ?_
      have g7 : h6 a = some (eO 4 [vI mc, vR ad2, vI 0]) := by rw [← eh6]; exact hu_s _ _ _
      have g8 : h6 ad2 = some (eA 5 10 (fun _ => vN)) := s_hu eh6 (Ne.symm (fresh_ne fad2 (ha))) (g4)
      exact z_aret (Or.inr ⟨_, rfl⟩) F hr (by first | exact Nat.le_of_ble_eq_true rfl | omega | (simp only []; omega)) (by first | exact Nat.le_of_ble_eq_true rfl | omega | (simp only []; omega)) dJx4a65c_grow_92f84_59 (⟨_, rfl, fad2, by rw [← eh6, ← eh3]⟩)
    · exact absurd rfl c17
set_option maxRecDepth 100000 in
set_option maxHeartbeats 4000000 in
theorem mGrow1 (l : Launch) (G : GG) (N0 : Nat) (h : Hp) (a e0 N : Nat) (mc n mn : Int) (f : Int → Option Nat) (ha : h a = some (eO 4 [vI mc, vR e0, vI n])) (he : h e0 = some (eA 5 N (fun j => vQ (f j)))) (hN : 0 < N ∧ N ≤ 60) (hOB : OB5 h f N) (hm : mn = (N : Int) + 1) : Ct l G N0 yJx4a65c_grow_92f84 (Cond.code yJx4a65c_grow_92f84 cJx4a65c_grow_92f84 4 (some (FieldType.array (FieldType.object "java/lang/Object"))) :: LW) ({ frames := 3, cells := 1, slots := 100, locals := 220 }) [vR a, vI mn] h (fun r h' => ∃ q, r = some (vR q) ∧ h q = none ∧ h' = hu (hu h q (eA 5 (N + (if 1 < N / 2 then N / 2 else 1)) (fun j => vQ (cpI f (fun _ => none) 0 0 (N : Int) j)))) a (eO 4 [vI mc, vR q, vI n])) := by
  refine ct_of rfl rfl ?_
  intro p e s m args below meth c F hr hnm
  have F : Fx p s m args meth c RJx4a65c cJx4a65c_grow_92f84 4 G N0 (cA h s.heap.size) := F
  show Z _ _ _ _ _ _ _ _ _ _ _ _ _ _ _ _ _ _ _ [(0, vR a), (1, vI mn)] []
  refine z_aload_n F dJx4a65c_grow_92f84_0 rfl 0 rfl ?_
  refine z_get (v := vR e0) F ha fJx4a65c_9 rfl dJx4a65c_grow_92f84_1 ?_
  refine z_alen F he (by decide) dJx4a65c_grow_92f84_4 ?_
  refine z_istore_n (lv' := [(2, vI (N : Int)), (0, vR a), (1, vI mn)]) F dJx4a65c_grow_92f84_5 rfl (by decide) rfl ?_
  refine z_iload_n F dJx4a65c_grow_92f84_6 rfl 0 rfl ?_
  refine z_if_gt (tgt := 20) F dJx4a65c_grow_92f84_7 (by decide) (by omega) (fun c7 => ?_) (fun c7 => ?_)
  · refine z_iload_n F dJx4a65c_grow_92f84_20 rfl 0 rfl ?_
    refine z_iload_n F dJx4a65c_grow_92f84_21 rfl 2 rfl ?_
    refine z_iload_n F dJx4a65c_grow_92f84_22 rfl 0 rfl ?_
    refine z_isub F dJx4a65c_grow_92f84_23 ?_
    refine z_iload_n F dJx4a65c_grow_92f84_24 rfl 0 rfl ?_
    refine z_iconst F dJx4a65c_grow_92f84_25 ?_
    refine z_ishr (z := (N : Int) / 2) F dJx4a65c_grow_92f84_26 (shr1' (by omega)) ?_
    refine z_callS (As := [vI (N : Int), vI (mn - (N : Int)), vI ((N : Int) / 2)]) (st := []) F (mJ8_newLength_cabcc l G N0 h (N : Int) (mn - (N : Int)) ((N : Int) / 2) (by omega) (by omega) (by omega)) csJx4a65c_73 rfl rfl ⟨Nat.le_of_ble_eq_true rfl, Nat.le_of_ble_eq_true rfl⟩ rfl ⟨Nat.le_of_ble_eq_true rfl, Nat.le_of_ble_eq_true rfl⟩ dJx4a65c_grow_92f84_27 ?_
    rintro _ h9 ⟨rfl, hh9⟩
    rw [hh9]
    clear hh9 h9
    show Z _ _ _ _ _ _ _ _ _ _ _ _ _ _ _ _ _ _ _ _ [vI ((N : Int) + (if mn - (N : Int) < (N : Int) / 2 then (N : Int) / 2 else mn - (N : Int)))]
    obtain ⟨N1, hN1, hN2⟩ : ∃ N1 : Nat, (N1 : Int) = (N : Int) + (if mn - (N : Int) < (N : Int) / 2 then (N : Int) / 2 else mn - (N : Int)) ∧ N1 = (N + (if 1 < N / 2 then N / 2 else 1)) := ⟨(N + (if 1 < N / 2 then N / 2 else 1)), by split <;> split <;> omega, rfl⟩
    rw [← hN1]
    have hN3 : N ≤ N1 ∧ N1 ≤ 100 := by rw [hN2]; split <;> omega
    refine z_istore_n (lv' := [(3, vI (N1 : Int)), (2, vI (N : Int)), (0, vR a), (1, vI mn)]) F dJx4a65c_grow_92f84_30 rfl (by decide) rfl ?_
    refine z_aload_n F dJx4a65c_grow_92f84_31 rfl 2 rfl ?_
    refine z_aload_n F dJx4a65c_grow_92f84_32 rfl 2 rfl ?_
    refine z_get (v := vR e0) F ha fJx4a65c_9 rfl dJx4a65c_grow_92f84_33 ?_
    refine z_iload_n F dJx4a65c_grow_92f84_36 rfl 0 rfl ?_
    refine z_callS (As := [vR e0, vI (N1 : Int)]) (st := [vR a]) F (mJ7_copyOf_1904c l G N0 h e0 N N1 f he hN3 hOB) csJx4a65c_66 rfl rfl ⟨Nat.le_of_ble_eq_true rfl, Nat.le_of_ble_eq_true rfl⟩ rfl ⟨Nat.le_of_ble_eq_true rfl, Nat.le_of_ble_eq_true rfl⟩ dJx4a65c_grow_92f84_37 ?_
    rintro _ h1 ⟨ad2, rfl, fad2, kh1⟩
    have gah1 : h1 a = some (eO 4 [vI mc, vR e0, vI n]) := by rw [kh1, hu_n _ _ (fresh_ne fad2 ha)]; exact ha
    show Z _ _ _ _ _ _ _ _ _ _ _ _ _ _ _ _ _ _ _ _ [vR ad2, vR a]
    refine z_dup_x1 F dJx4a65c_grow_92f84_40 rfl rfl ?_
    obtain ⟨h3, eh3⟩ : ∃ z : Hp, hu h1 a (eO 4 [vI mc, vR ad2, vI n]) = z := ⟨_, rfl⟩
    refine z_put (fs := [vI mc, vR e0, vI n]) (fs' := [vI mc, vR ad2, vI n]) (h' := h3) F gah1 fJx4a65c_9 ftJx4a65c_1 (nf_a _ _) (Nat.le_of_ble_eq_true rfl) rfl dJx4a65c_grow_92f84_41 eh3 ?_
    have g4 : h3 a = some (eO 4 [vI mc, vR ad2, vI n]) := by rw [← eh3]; exact hu_s _ _ _
    exact z_aret (Or.inr ⟨_, rfl⟩) F hr (by first | exact Nat.le_of_ble_eq_true rfl | omega | (simp only []; omega)) (by first | exact Nat.le_of_ble_eq_true rfl | omega | (simp only []; omega)) dJx4a65c_grow_92f84_44 (⟨_, rfl, fad2, by rw [← eh3, kh1, hN2]⟩)
  · exfalso; omega
set_option maxRecDepth 100000 in
set_option maxHeartbeats 4000000 in
theorem mGrowN0 (l : Launch) (G : GG) (N0 : Nat) (h : Hp) (a : Nat) (mc : Int) (ha : h a = some (eO 4 [vI mc, vR (G.2.2 0), vI 0])) : Ct l G N0 yJx4a65c_grow_d5877 (Cond.code yJx4a65c_grow_d5877 cJx4a65c_grow_d5877 1 (some (FieldType.array (FieldType.object "java/lang/Object"))) :: LW) ({ frames := 4, cells := 1, slots := 100, locals := 260 }) [vR a] h (fun r h' => ∃ q, r = some (vR q) ∧ h q = none ∧ h' = hu (hu h q (eA 5 10 (fun _ => vN))) a (eO 4 [vI mc, vR q, vI 0])) := by
  refine ct_of rfl rfl ?_
  intro p e s m args below meth c F hr hnm
  have F : Fx p s m args meth c RJx4a65c cJx4a65c_grow_d5877 1 G N0 (cA h s.heap.size) := F
  show Z _ _ _ _ _ _ _ _ _ _ _ _ _ _ _ _ _ _ _ [(0, vR a)] []
  refine z_aload_n F dJx4a65c_grow_d5877_0 rfl 0 rfl ?_
  refine z_aload_n F dJx4a65c_grow_d5877_1 rfl 0 rfl ?_
  refine z_get (v := vI 0) F ha fJx4a65c_48 rfl dJx4a65c_grow_d5877_2 ?_
  refine z_iconst F dJx4a65c_grow_d5877_5 ?_
  refine z_iadd F dJx4a65c_grow_d5877_6 ?_
  refine z_callV (As := [vI (0 + 1)]) (st := []) F (mGrow0 l G N0 h a mc (0 + 1) ha (by omega)) cvJx4a65c_69 ha (fun r9 h9 => by cases h9; rfl) rfl rfl ⟨Nat.le_of_ble_eq_true rfl, Nat.le_of_ble_eq_true rfl⟩ rfl ⟨Nat.le_of_ble_eq_true rfl, Nat.le_of_ble_eq_true rfl⟩ dJx4a65c_grow_d5877_7 ?_
  rintro _ h1 ⟨q, rfl, fq, k1⟩
  exact z_aret (Or.inr ⟨_, rfl⟩) F hr (by first | exact Nat.le_of_ble_eq_true rfl | omega | (simp only []; omega)) (by first | exact Nat.le_of_ble_eq_true rfl | omega | (simp only []; omega)) dJx4a65c_grow_d5877_10 (⟨q, rfl, fq, k1⟩)
set_option maxRecDepth 100000 in
set_option maxHeartbeats 4000000 in
theorem mGrowN1 (l : Launch) (G : GG) (N0 : Nat) (h : Hp) (a e0 N : Nat) (mc n : Int) (f : Int → Option Nat) (ha : h a = some (eO 4 [vI mc, vR e0, vI n])) (he : h e0 = some (eA 5 N (fun j => vQ (f j)))) (hN : 0 < N ∧ N ≤ 60) (hOB : OB5 h f N) (hn : n = N) : Ct l G N0 yJx4a65c_grow_d5877 (Cond.code yJx4a65c_grow_d5877 cJx4a65c_grow_d5877 1 (some (FieldType.array (FieldType.object "java/lang/Object"))) :: LW) ({ frames := 4, cells := 1, slots := 100, locals := 260 }) [vR a] h (fun r h' => ∃ q, r = some (vR q) ∧ h q = none ∧ h' = hu (hu h q (eA 5 (N + (if 1 < N / 2 then N / 2 else 1)) (fun j => vQ (cpI f (fun _ => none) 0 0 (N : Int) j)))) a (eO 4 [vI mc, vR q, vI n])) := by
  refine ct_of rfl rfl ?_
  intro p e s m args below meth c F hr hnm
  have F : Fx p s m args meth c RJx4a65c cJx4a65c_grow_d5877 1 G N0 (cA h s.heap.size) := F
  show Z _ _ _ _ _ _ _ _ _ _ _ _ _ _ _ _ _ _ _ [(0, vR a)] []
  refine z_aload_n F dJx4a65c_grow_d5877_0 rfl 0 rfl ?_
  refine z_aload_n F dJx4a65c_grow_d5877_1 rfl 0 rfl ?_
  refine z_get (v := vI n) F ha fJx4a65c_48 rfl dJx4a65c_grow_d5877_2 ?_
  refine z_iconst F dJx4a65c_grow_d5877_5 ?_
  refine z_iadd F dJx4a65c_grow_d5877_6 ?_
  refine z_callV (As := [vI (n + 1)]) (st := []) F (mGrow1 l G N0 h a e0 N mc n (n + 1) f ha he hN hOB (by omega)) cvJx4a65c_69 ha (fun r9 h9 => by cases h9; rfl) rfl rfl ⟨Nat.le_of_ble_eq_true rfl, Nat.le_of_ble_eq_true rfl⟩ rfl ⟨Nat.le_of_ble_eq_true rfl, Nat.le_of_ble_eq_true rfl⟩ dJx4a65c_grow_d5877_7 ?_
  rintro _ h1 ⟨q, rfl, fq, k1⟩
  exact z_aret (Or.inr ⟨_, rfl⟩) F hr (by first | exact Nat.le_of_ble_eq_true rfl | omega | (simp only []; omega)) (by first | exact Nat.le_of_ble_eq_true rfl | omega | (simp only []; omega)) dJx4a65c_grow_d5877_10 (⟨q, rfl, fq, k1⟩)
