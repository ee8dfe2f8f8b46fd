theorem OB5.li {h : Hp} {a : Nat} {fs0 : List AV} {e : AE} {f : Int → Option Nat} {n : Int} (H : OB5 h f n) (ha : h a = some (eO 4 fs0)) : OB5 (hu h a e) f n := fun i h0 h1 y hy => by
  obtain ⟨ci, fs, g1, g2⟩ := H i h0 h1 y hy
  refine ⟨ci, fs, ?_, g2⟩
  rw [hu_n _ _ ?_]
  · exact g1
  · intro z
    rw [z, ha] at g1
    cases g1
    exact absurd (g2 (RJx4a65c, TJx4a65c, 3) rfl) (by decide)
theorem LI.put {G : GG} {h : Hp} {a e0 N : Nat} {mc mc1 n : Int} {f : Int → Option Nat} (H : LI G h a e0 N mc n f) : LI G (hu h a (eO 4 [vI mc1, vR e0, vI n])) a e0 N mc1 n f := by
  obtain ⟨ha, he, hN, hz, hO⟩ := H
  refine ⟨hu_s _ _ _, ?_, hN, hz, hO.li ha⟩
  rcases he with q | ⟨he, hp⟩
  · exact Or.inl q
  · exact Or.inr ⟨by rw [hu_n _ _ (ne_tg he ha rfl)]; exact he, hp⟩
theorem PA.of {G : GG} {h h' : Hp} {a e0 N b : Nat} {mc n : Int} {f : Int → Option Nat} {e : AE} {fs0 : List AV} (ha : h a = some (eO 4 fs0)) (H : PA G (hu h a e) a e0 N b mc n f h') : PA G h a e0 N b mc n f h' := by
  obtain ⟨e1, N1, f1, h1, h2, h3, h4, h5⟩ := H
  refine ⟨e1, N1, f1, h1, h2, h3.imp id (fun q => ?_), fun x q1 q2 => by rw [h4 x q1 q2, hu_n _ _ q1], h5⟩
  by_cases w : e1 = a
  · rw [w, hu_s] at q; cases q
  · rw [hu_n _ _ w] at q; exact q
set_option maxRecDepth 100000 in
set_option maxHeartbeats 4000000 in
theorem mJx4a65c_add_9ea2d (l : Launch) (G : GG) (N0 : Nat) (h : Hp) (a e0 N b cb : Nat) (fb : List AV) (mc n : Int) (f : Int → Option Nat) (H : LI G h a e0 N mc n f) (hn : n ≤ 40) (hb : h b = some (eO cb fb)) (hc : ∀ r : vw_C, kCl[cb]? = some r → (r.1, "java/lang/Object") ∈ castL) (hba : b ≠ a) : Ct l G N0 yJx4a65c_add_9ea2d (Cond.code yJx4a65c_add_9ea2d cJx4a65c_add_9ea2d 2 (some FieldType.boolean) :: LW) ({ frames := 6, cells := 1, slots := 100, locals := 360 }) [vR a, vR b] h (fun r h' => r = some (vI 1) ∧ PA G h a e0 N b (mc + 1) n f h') := by
  refine ct_of rfl rfl ?_
  intro p e s m args below meth c F hr hnm
  have F : Fx p s m args meth c RJx4a65c cJx4a65c_add_9ea2d 2 G N0 (cA h s.heap.size) := F
  obtain ⟨ha, he, hN, hz, hO⟩ := id H
  show Z _ _ _ _ _ _ _ _ _ _ _ _ _ _ _ _ _ _ _ [(0, vR a), (1, vR b)] []
  refine z_aload_n F dJx4a65c_add_9ea2d_0 rfl 0 rfl ?_
  refine z_dup F dJx4a65c_add_9ea2d_1 rfl ?_
  refine z_get (v := vI mc) F ha fJx4a65c_63 rfl dJx4a65c_add_9ea2d_2 ?_
  refine z_iconst F dJx4a65c_add_9ea2d_5 ?_
  refine z_iadd F dJx4a65c_add_9ea2d_6 ?_
  obtain ⟨h1, eh1⟩ : ∃ z : Hp, hu h a (eO 4 [vI (mc + 1), vR e0, vI n]) = z := ⟨_, rfl⟩
  refine z_put (fs := [vI mc, vR e0, vI n]) (fs' := [vI (mc + 1), vR e0, vI n]) (h' := h1) F ha fJx4a65c_63 ftJx4a65c_0 (nf_i _) (Nat.le_of_ble_eq_true rfl) rfl dJx4a65c_add_9ea2d_7 eh1 ?_
  have g2 : h1 a = some (eO 4 [vI (mc + 1), vR e0, vI n]) := by rw [← eh1]; exact hu_s _ _ _
  refine z_aload_n F dJx4a65c_add_9ea2d_10 rfl 0 rfl ?_
  refine z_aload_n F dJx4a65c_add_9ea2d_11 rfl 1 rfl ?_
  refine z_aload_n F dJx4a65c_add_9ea2d_12 rfl 0 rfl ?_
  refine z_get (v := vR e0) F g2 fJx4a65c_9 rfl dJx4a65c_add_9ea2d_13 ?_
  refine z_aload_n F dJx4a65c_add_9ea2d_16 rfl 0 rfl ?_
  refine z_get (v := vI n) F g2 fJx4a65c_48 rfl dJx4a65c_add_9ea2d_17 ?_
  have H1 : LI G h1 a e0 N (mc + 1) n f := by rw [← eh1]; exact H.put
  have hb1 : h1 b = some (eO cb fb) := by rw [← eh1, hu_n _ _ hba]; exact hb
  refine z_callV (As := [vR b, vR e0, vI n]) (st := []) F (mAddA l G N0 h1 a e0 N b cb fb (mc + 1) n f H1 hn hb1 hc hba) cvJx4a65c_131 g2 (fun r9 h9 => by cases h9; rfl) rfl rfl ⟨Nat.le_of_ble_eq_true rfl, Nat.le_of_ble_eq_true rfl⟩ rfl ⟨Nat.le_of_ble_eq_true rfl, Nat.le_of_ble_eq_true rfl⟩ dJx4a65c_add_9ea2d_20 ?_
  rintro _ h9 ⟨rfl, hp9⟩
  show Z _ _ _ _ _ _ _ _ _ _ _ _ _ _ _ _ _ _ _ _ []
  refine z_iconst F dJx4a65c_add_9ea2d_23 ?_
  exact z_iret (nf_z (by omega)) F hr (by first | exact Nat.le_of_ble_eq_true rfl | omega | (simp only []; omega)) (by first | exact Nat.le_of_ble_eq_true rfl | omega | (simp only []; omega)) dJx4a65c_add_9ea2d_24 (⟨rfl, PA.of ha (by rw [eh1]; exact hp9)⟩)
set_option maxRecDepth 100000 in
set_option maxHeartbeats 4000000 in
theorem mJxa1e45_init_da8c8 (l : Launch) (G : GG) (N0 : Nat) (h : Hp) (a : Nat)  : Ct l G N0 yJxa1e45_init_da8c8 (Cond.code yJxa1e45_init_da8c8 cJxa1e45_init_da8c8 1 none :: LW) ({ frames := 1, cells := 0, slots := 0, locals := 60 }) [vR a] h (fun r h' => r = none ∧ h' = h) := by
  refine ct_of rfl rfl ?_
  intro p e s m args below meth c F hr hnm
  have F : Fx p s m args meth c RJxa1e45 cJxa1e45_init_da8c8 1 G N0 (cA h s.heap.size) := F
  show Z _ _ _ _ _ _ _ _ _ _ _ _ _ _ _ _ _ _ _ [(0, vR a)] []
  refine z_aload_n F dJxa1e45_init_da8c8_0 rfl 0 rfl ?_
  refine z_objInit F oiJxa1e45_1 (Nat.le_of_ble_eq_true rfl) (Nat.le_of_ble_eq_true rfl) rfl dJxa1e45_init_da8c8_1 ?_
  exact z_vret F hr (Nat.le_of_ble_eq_true rfl) (Nat.le_of_ble_eq_true rfl) dJxa1e45_init_da8c8_4 (⟨rfl, rfl⟩)
set_option maxRecDepth 100000 in
set_option maxHeartbeats 4000000 in
theorem mJxc12de_init_da8c8 (l : Launch) (G : GG) (N0 : Nat) (h : Hp) (a : Nat) (e0 : AV) (mc n : Int) (ha : h a = some (eO 4 [vI mc, e0, vI n])) : Ct l G N0 yJxc12de_init_da8c8 (Cond.code yJxc12de_init_da8c8 cJxc12de_init_da8c8 1 none :: LW) ({ frames := 2, cells := 0, slots := 0, locals := 120 }) [vR a] h (fun r h' => r = none ∧ h' = hu h a (eO 4 [vI 0, e0, vI n])) := by
  refine ct_of rfl rfl ?_
  intro p e s m args below meth c F hr hnm
  have F : Fx p s m args meth c RJxc12de cJxc12de_init_da8c8 1 G N0 (cA h s.heap.size) := F
  show Z _ _ _ _ _ _ _ _ _ _ _ _ _ _ _ _ _ _ _ [(0, vR a)] []
  refine z_aload_n F dJxc12de_init_da8c8_0 rfl 0 rfl ?_
  refine z_callI (As := []) (st := []) F (mJxa1e45_init_da8c8 l G N0 h a) ciJxc12de_1 rfl rfl ⟨Nat.le_of_ble_eq_true rfl, Nat.le_of_ble_eq_true rfl⟩ rfl ⟨Nat.le_of_ble_eq_true rfl, Nat.le_of_ble_eq_true rfl⟩ dJxc12de_init_da8c8_1 ?_
  rintro _ h9 ⟨rfl, hh9⟩
  rw [hh9]
  clear hh9 h9
  show Z _ _ _ _ _ _ _ _ _ _ _ _ _ _ _ _ _ _ _ _ []
  refine z_aload_n F dJxc12de_init_da8c8_4 rfl 0 rfl ?_
  refine z_iconst F dJxc12de_init_da8c8_5 ?_
  obtain ⟨h1, eh1⟩ : ∃ z : Hp, hu h a (eO 4 [vI 0, e0, vI n]) = z := ⟨_, rfl⟩
  refine z_put (fs := [vI mc, e0, vI n]) (fs' := [vI 0, e0, vI n]) (h' := h1) F ha fJxc12de_7 ftJx4a65c_0 (nf_i _) (Nat.le_of_ble_eq_true rfl) rfl dJxc12de_init_da8c8_6 eh1 ?_
  have g2 : h1 a = some (eO 4 [vI 0, e0, vI n]) := by rw [← eh1]; exact hu_s _ _ _
  exact z_vret F hr (Nat.le_of_ble_eq_true rfl) (Nat.le_of_ble_eq_true rfl) dJxc12de_init_da8c8_9 (⟨rfl, by first | rfl | (rw [← eh1])⟩)
set_option maxRecDepth 100000 in
set_option maxHeartbeats 4000000 in
theorem mJx4a65c_init_da8c8 (l : Launch) (G : GG) (N0 : Nat) (h : Hp) (a : Nat) (ha : h a = some (eO 4 [vI 0, vN, vI 0])) : Ct l G N0 yJx4a65c_init_da8c8 (Cond.code yJx4a65c_init_da8c8 cJx4a65c_init_da8c8 1 none :: LW) ({ frames := 3, cells := 0, slots := 0, locals := 180 }) [vR a] h (fun r h' => r = none ∧ h' = hu h a (eO 4 [vI 0, vR (G.2.2 0), vI 0])) := by
  refine ct_of rfl rfl ?_
  intro p e s m args below meth c F hr hnm
  have F : Fx p s m args meth c RJx4a65c cJx4a65c_init_da8c8 1 G N0 (cA h s.heap.size) := F
  show Z _ _ _ _ _ _ _ _ _ _ _ _ _ _ _ _ _ _ _ [(0, vR a)] []
  refine z_aload_n F dJx4a65c_init_da8c8_0 rfl 0 rfl ?_
  refine z_callI (As := []) (st := []) F (mJxc12de_init_da8c8 l G N0 h a vN 0 0 ha) ciJx4a65c_1 rfl rfl ⟨Nat.le_of_ble_eq_true rfl, Nat.le_of_ble_eq_true rfl⟩ rfl ⟨Nat.le_of_ble_eq_true rfl, Nat.le_of_ble_eq_true rfl⟩ dJx4a65c_init_da8c8_1 ?_
  rintro _ h9 ⟨rfl, k9⟩
  have ga9 : h9 a = some (eO 4 [vI 0, vN, vI 0]) := by rw [k9, hu_s]
  show Z _ _ _ _ _ _ _ _ _ _ _ _ _ _ _ _ _ _ _ _ []
  refine z_aload_n F dJx4a65c_init_da8c8_4 rfl 0 rfl ?_
  refine z_getE F q65 dJx4a65c_init_da8c8_5 ?_
  obtain ⟨h1, eh1⟩ : ∃ z : Hp, hu h9 a (eO 4 [vI 0, vR (G.2.2 0), vI 0]) = z := ⟨_, rfl⟩
  refine z_put (fs := [vI 0, vN, vI 0]) (fs' := [vI 0, vR (G.2.2 0), vI 0]) (h' := h1) F ga9 fJx4a65c_9 ftJx4a65c_1 (nf_a _ _) (Nat.le_of_ble_eq_true rfl) rfl dJx4a65c_init_da8c8_8 eh1 ?_
  have g2 : h1 a = some (eO 4 [vI 0, vR (G.2.2 0), vI 0]) := by rw [← eh1]; exact hu_s _ _ _
  exact z_vret F hr (by first | exact Nat.le_of_ble_eq_true rfl | omega | (simp only []; omega)) (by first | exact Nat.le_of_ble_eq_true rfl | omega | (simp only []; omega)) dJx4a65c_init_da8c8_11 (⟨rfl, by rw [← eh1, k9, hu_hu]⟩)
set_option maxRecDepth 100000 in
set_option maxHeartbeats 4000000 in
theorem mJx4a65c_rangeCheckForAdd_d00df (l : Launch) (G : GG) (N0 : Nat) (h : Hp) (a : Nat) (e0 : Nat) (mc n i : Int) (ha : h a = some (eO 4 [vI mc, vR e0, vI n])) (hi : 0 ≤ i ∧ i ≤ n ∧ n ≤ 1000) : Ct l G N0 yJx4a65c_rangeCheckForAdd_d00df (Cond.code yJx4a65c_rangeCheckForAdd_d00df cJx4a65c_rangeCheckForAdd_d00df 2 none :: LW) ({ frames := 0, cells := 0, slots := 0, locals := 0 }) [vR a, vI i] h (fun r h' => r = none ∧ h' = h) := by
  refine ct_of rfl rfl ?_
  intro p e s m args below meth c F hr hnm
  have F : Fx p s m args meth c RJx4a65c cJx4a65c_rangeCheckForAdd_d00df 2 G N0 (cA h s.heap.size) := F
  show Z _ _ _ _ _ _ _ _ _ _ _ _ _ _ _ _ _ _ _ [(0, vR a), (1, vI i)] []
  refine z_iload_n F dJx4a65c_rangeCheckForAdd_d00df_0 rfl 1 rfl ?_
  refine z_aload_n F dJx4a65c_rangeCheckForAdd_d00df_1 rfl 0 rfl ?_
  refine z_get (v := vI n) F ha fJx4a65c_48 rfl dJx4a65c_rangeCheckForAdd_d00df_2 ?_
  refine z_icmp_gt (tgt := 12) F dJx4a65c_rangeCheckForAdd_d00df_5 (by decide) (by omega) (by omega) (fun c5 => ?_) (fun c5 => ?_)
  · exfalso; omega
  · refine z_iload_n F dJx4a65c_rangeCheckForAdd_d00df_8 rfl 1 rfl ?_
    refine z_if_ge (tgt := 25) F dJx4a65c_rangeCheckForAdd_d00df_9 (by decide) (by omega) (fun c9 => ?_) (fun c9 => ?_)
    · exact z_vret F hr (Nat.le_of_ble_eq_true rfl) (Nat.le_of_ble_eq_true rfl) dJx4a65c_rangeCheckForAdd_d00df_25 (⟨rfl, rfl⟩)
    · exfalso; omega
