set_option maxRecDepth 100000 in
set_option maxHeartbeats 4000000 in
theorem mX9_init (l : Launch) (G : GG) (N0 : Nat) (h : Hp) (o : Nat) (ho : h o = some (eO 14 [vI 0, vI 0, vI 0, vN, vN, vN, vN, vN, vI 0, vN, vN, vN, vN, vN, vN, vN, vI 0, vN, vN, vN, vN, vN, vN, vN, vI 0, vN, vN, vN, vN, vI 0, vI 0])) : Ct l G N0 yX9_init (Cond.code yX9_init cX9_init 1 none :: LW) ({ frames := 1, cells := 23, slots := 1701, locals := 60 }) [vR o] h (fun r h' => r = none ∧ ∃ g : Nat → Nat, g 0 = o ∧ MI g sig0 h') := by
  refine ct_of rfl rfl ?_
  intro p e s m args below meth c F hr hnm
  have F : Fx p s m args meth c RX9 cX9_init 1 G N0 (cA h s.heap.size) := F
  have nd0 : [o].Nodup ∧ ∀ a ∈ [o], h a ≠ none := ⟨by simp, fun a ha => by rw [List.mem_singleton.mp ha, ho]; exact fun w => by cases w⟩
  show Z _ _ _ _ _ _ _ _ _ _ _ _ _ _ _ _ _ _ _ [(0, vR o)] []
  refine z_aload_n F dX9_init_0 rfl 0 rfl ?_
  refine z_objInit F oiX9_1 (Nat.le_of_ble_eq_true rfl) (Nat.le_of_ble_eq_true rfl) rfl dX9_init_1 ?_
  refine z_aload_n F dX9_init_4 rfl 0 rfl ?_
  refine z_bipush F dX9_init_5 (by decide) ?_
  obtain ⟨h1, eh1⟩ : ∃ z : Hp, hu h o (eO 14 [vI 0, vI 102, vI 0, vN, vN, vN, vN, vN, vI 0, vN, vN, vN, vN, vN, vN, vN, vI 0, vN, vN, vN, vN, vN, vN, vN, vI 0, vN, vN, vN, vN, vI 0, vI 0]) = z := ⟨_, rfl⟩
  refine z_put (fs := [vI 0, vI 0, vI 0, vN, vN, vN, vN, vN, vI 0, vN, vN, vN, vN, vN, vN, vN, vI 0, vN, vN, vN, vN, vN, vN, vN, vI 0, vN, vN, vN, vN, vI 0, vI 0]) (fs' := [vI 0, vI 102, vI 0, vN, vN, vN, vN, vN, vI 0, vN, vN, vN, vN, vN, vN, vN, vI 0, vN, vN, vN, vN, vN, vN, vN, vI 0, vN, vN, vN, vN, vI 0, vI 0]) (h' := h1) F ho fX9_7 ftX9_1 (nf_c (by omega)) (Nat.le_of_ble_eq_true rfl) rfl dX9_init_7 eh1 ?_
  have g2 : h1 o = some (eO 14 [vI 0, vI 102, vI 0, vN, vN, vN, vN, vN, vI 0, vN, vN, vN, vN, vN, vN, vN, vI 0, vN, vN, vN, vN, vN, vN, vN, vI 0, vN, vN, vN, vN, vI 0, vI 0]) := by rw [← eh1]; exact hu_s _ _ _
  have ndh1 := nd_put nd0 eh1
  refine z_aload_n F dX9_init_10 rfl 0 rfl ?_
  refine z_iconst F dX9_init_11 ?_
  refine z_newarr (kk := 0) (N := 5) (v0 := vI 0) (ty := .int) F rfl q115 rfl (fun C9 h9 => by cases h9) rfl rfl (by decide) (by decide) (Nat.le_of_ble_eq_true rfl) (Nat.le_of_ble_eq_true rfl) dX9_init_12 (fun ad3 fad3 => ?_)
  generalize eh4 : hu h1 ad3 (eA 0 5 (fun _ => vI 0)) = h4
  have g5 : h4 ad3 = some (eA 0 5 (fun _ => vI 0)) := by rw [← eh4]; exact hu_s _ _ _
  have g6 : h4 o = some (eO 14 [vI 0, vI 102, vI 0, vN, vN, vN, vN, vN, vI 0, vN, vN, vN, vN, vN, vN, vN, vI 0, vN, vN, vN, vN, vN, vN, vN, vI 0, vN, vN, vN, vN, vI 0, vI 0]) := s_hu eh4 (fresh_ne fad3 (g2)) (g2)
  have ndh4 := nd_push ndh1 fad3 eh4
  obtain ⟨h7, eh7⟩ : ∃ z : Hp, hu h4 o (eO 14 [vI 0, vI 102, vI 0, vR ad3, vN, vN, vN, vN, vI 0, vN, vN, vN, vN, vN, vN, vN, vI 0, vN, vN, vN, vN, vN, vN, vN, vI 0, vN, vN, vN, vN, vI 0, vI 0]) = z := ⟨_, rfl⟩
  refine z_putF (fs := [vI 0, vI 102, vI 0, vN, vN, vN, vN, vN, vI 0, vN, vN, vN, vN, vN, vN, vN, vI 0, vN, vN, vN, vN, vN, vN, vN, vI 0, vN, vN, vN, vN, vI 0, vI 0]) (fs' := [vI 0, vI 102, vI 0, vR ad3, vN, vN, vN, vN, vI 0, vN, vN, vN, vN, vN, vN, vN, vI 0, vN, vN, vN, vN, vN, vN, vN, vI 0, vN, vN, vN, vN, vI 0, vI 0]) (h' := h7) F hnm g6 fX9_13 ftX9_3 (nf_a _ _) (Nat.le_of_ble_eq_true rfl) rfl (fun r9 h9 => by cases h9; rfl) dX9_init_14 eh7 ?_
  have g8 : h7 o = some (eO 14 [vI 0, vI 102, vI 0, vR ad3, vN, vN, vN, vN, vI 0, vN, vN, vN, vN, vN, vN, vN, vI 0, vN, vN, vN, vN, vN, vN, vN, vI 0, vN, vN, vN, vN, vI 0, vI 0]) := by rw [← eh7]; exact hu_s _ _ _
  have g9 : h7 ad3 = some (eA 0 5 (fun _ => vI 0)) := s_hu eh7 (Ne.symm (fresh_ne fad3 (g2))) (g5)
  have ndh7 := nd_put ndh4 eh7
  refine z_aload_n F dX9_init_17 rfl 0 rfl ?_
  refine z_iconst F dX9_init_18 ?_
  refine z_newarr (kk := 1) (N := 5) (v0 := vI 0) (ty := .char) F rfl q1569 rfl (fun C9 h9 => by cases h9) rfl rfl (by decide) (by decide) (Nat.le_of_ble_eq_true rfl) (Nat.le_of_ble_eq_true rfl) dX9_init_19 (fun ad10 fad10 => ?_)
  generalize eh11 : hu h7 ad10 (eA 1 5 (fun _ => vI 0)) = h11
  have g12 : h11 ad10 = some (eA 1 5 (fun _ => vI 0)) := by rw [← eh11]; exact hu_s _ _ _
  have g13 : h11 o = some (eO 14 [vI 0, vI 102, vI 0, vR ad3, vN, vN, vN, vN, vI 0, vN, vN, vN, vN, vN, vN, vN, vI 0, vN, vN, vN, vN, vN, vN, vN, vI 0, vN, vN, vN, vN, vI 0, vI 0]) := s_hu eh11 (fresh_ne fad10 (g8)) (g8)
  have g14 : h11 ad3 = some (eA 0 5 (fun _ => vI 0)) := s_hu eh11 (fresh_ne fad10 (g9)) (g9)
  have ndh11 := nd_push ndh7 fad10 eh11
  obtain ⟨h15, eh15⟩ : ∃ z : Hp, hu h11 o (eO 14 [vI 0, vI 102, vI 0, vR ad3, vR ad10, vN, vN, vN, vI 0, vN, vN, vN, vN, vN, vN, vN, vI 0, vN, vN, vN, vN, vN, vN, vN, vI 0, vN, vN, vN, vN, vI 0, vI 0]) = z := ⟨_, rfl⟩
  refine z_putF (fs := [vI 0, vI 102, vI 0, vR ad3, vN, vN, vN, vN, vI 0, vN, vN, vN, vN, vN, vN, vN, vI 0, vN, vN, vN, vN, vN, vN, vN, vI 0, vN, vN, vN, vN, vI 0, vI 0]) (fs' := [vI 0, vI 102, vI 0, vR ad3, vR ad10, vN, vN, vN, vI 0, vN, vN, vN, vN, vN, vN, vN, vI 0, vN, vN, vN, vN, vN, vN, vN, vI 0, vN, vN, vN, vN, vI 0, vI 0]) (h' := h15) F hnm g13 fX9_17 ftX9_4 (nf_a _ _) (Nat.le_of_ble_eq_true rfl) rfl (fun r9 h9 => by cases h9; rfl) dX9_init_21 eh15 ?_
  have g16 : h15 o = some (eO 14 [vI 0, vI 102, vI 0, vR ad3, vR ad10, vN, vN, vN, vI 0, vN, vN, vN, vN, vN, vN, vN, vI 0, vN, vN, vN, vN, vN, vN, vN, vI 0, vN, vN, vN, vN, vI 0, vI 0]) := by rw [← eh15]; exact hu_s _ _ _
  have g17 : h15 ad10 = some (eA 1 5 (fun _ => vI 0)) := s_hu eh15 (Ne.symm (fresh_ne fad10 (g8))) (g12)
  have g18 : h15 ad3 = some (eA 0 5 (fun _ => vI 0)) := s_hu eh15 (Ne.symm (fresh_ne fad3 (g2))) (g14)
  have ndh15 := nd_put ndh11 eh15
  refine z_aload_n F dX9_init_24 rfl 0 rfl ?_
  refine z_iconst F dX9_init_25 ?_
  refine z_newarr (kk := 1) (N := 5) (v0 := vI 0) (ty := .char) F rfl q1569 rfl (fun C9 h9 => by cases h9) rfl rfl (by decide) (by decide) (Nat.le_of_ble_eq_true rfl) (Nat.le_of_ble_eq_true rfl) dX9_init_26 (fun ad19 fad19 => ?_)
  generalize eh20 : hu h15 ad19 (eA 1 5 (fun _ => vI 0)) = h20
  have g21 : h20 ad19 = some (eA 1 5 (fun _ => vI 0)) := by rw [← eh20]; exact hu_s _ _ _
  have g22 : h20 o = some (eO 14 [vI 0, vI 102, vI 0, vR ad3, vR ad10, vN, vN, vN, vI 0, vN, vN, vN, vN, vN, vN, vN, vI 0, vN, vN, vN, vN, vN, vN, vN, vI 0, vN, vN, vN, vN, vI 0, vI 0]) := s_hu eh20 (fresh_ne fad19 (g16)) (g16)
  have g23 : h20 ad10 = some (eA 1 5 (fun _ => vI 0)) := s_hu eh20 (fresh_ne fad19 (g17)) (g17)
  have g24 : h20 ad3 = some (eA 0 5 (fun _ => vI 0)) := s_hu eh20 (fresh_ne fad19 (g18)) (g18)
  have ndh20 := nd_push ndh15 fad19 eh20
  obtain ⟨h25, eh25⟩ : ∃ z : Hp, hu h20 o (eO 14 [vI 0, vI 102, vI 0, vR ad3, vR ad10, vR ad19, vN, vN, vI 0, vN, vN, vN, vN, vN, vN, vN, vI 0, vN, vN, vN, vN, vN, vN, vN, vI 0, vN, vN, vN, vN, vI 0, vI 0]) = z := ⟨_, rfl⟩
  refine z_putF (fs := [vI 0, vI 102, vI 0, vR ad3, vR ad10, vN, vN, vN, vI 0, vN, vN, vN, vN, vN, vN, vN, vI 0, vN, vN, vN, vN, vN, vN, vN, vI 0, vN, vN, vN, vN, vI 0, vI 0]) (fs' := [vI 0, vI 102, vI 0, vR ad3, vR ad10, vR ad19, vN, vN, vI 0, vN, vN, vN, vN, vN, vN, vN, vI 0, vN, vN, vN, vN, vN, vN, vN, vI 0, vN, vN, vN, vN, vI 0, vI 0]) (h' := h25) F hnm g22 fX9_21 ftX9_5 (nf_a _ _) (Nat.le_of_ble_eq_true rfl) rfl (fun r9 h9 => by cases h9; rfl) dX9_init_28 eh25 ?_
  have g26 : h25 o = some (eO 14 [vI 0, vI 102, vI 0, vR ad3, vR ad10, vR ad19, vN, vN, vI 0, vN, vN, vN, vN, vN, vN, vN, vI 0, vN, vN, vN, vN, vN, vN, vN, vI 0, vN, vN, vN, vN, vI 0, vI 0]) := by rw [← eh25]; exact hu_s _ _ _
  have g27 : h25 ad19 = some (eA 1 5 (fun _ => vI 0)) := s_hu eh25 (Ne.symm (fresh_ne fad19 (g16))) (g21)
  have g28 : h25 ad10 = some (eA 1 5 (fun _ => vI 0)) := s_hu eh25 (Ne.symm (fresh_ne fad10 (g8))) (g23)
  have g29 : h25 ad3 = some (eA 0 5 (fun _ => vI 0)) := s_hu eh25 (Ne.symm (fresh_ne fad3 (g2))) (g24)
  have ndh25 := nd_put ndh20 eh25
  refine z_aload_n F dX9_init_31 rfl 0 rfl ?_
  refine z_iconst F dX9_init_32 ?_
  refine z_newarr (kk := 0) (N := 5) (v0 := vI 0) (ty := .int) F rfl q115 rfl (fun C9 h9 => by cases h9) rfl rfl (by decide) (by decide) (Nat.le_of_ble_eq_true rfl) (Nat.le_of_ble_eq_true rfl) dX9_init_33 (fun ad30 fad30 => ?_)
  generalize eh31 : hu h25 ad30 (eA 0 5 (fun _ => vI 0)) = h31
  have g32 : h31 ad30 = some (eA 0 5 (fun _ => vI 0)) := by rw [← eh31]; exact hu_s _ _ _
  have g33 : h31 o = some (eO 14 [vI 0, vI 102, vI 0, vR ad3, vR ad10, vR ad19, vN, vN, vI 0, vN, vN, vN, vN, vN, vN, vN, vI 0, vN, vN, vN, vN, vN, vN, vN, vI 0, vN, vN, vN, vN, vI 0, vI 0]) := s_hu eh31 (fresh_ne fad30 (g26)) (g26)
  have g34 : h31 ad19 = some (eA 1 5 (fun _ => vI 0)) := s_hu eh31 (fresh_ne fad30 (g27)) (g27)
  have g35 : h31 ad10 = some (eA 1 5 (fun _ => vI 0)) := s_hu eh31 (fresh_ne fad30 (g28)) (g28)
  have g36 : h31 ad3 = some (eA 0 5 (fun _ => vI 0)) := s_hu eh31 (fresh_ne fad30 (g29)) (g29)
  have ndh31 := nd_push ndh25 fad30 eh31
  obtain ⟨h37, eh37⟩ : ∃ z : Hp, hu h31 o (eO 14 [vI 0, vI 102, vI 0, vR ad3, vR ad10, vR ad19, vR ad30, vN, vI 0, vN, vN, vN, vN, vN, vN, vN, vI 0, vN, vN, vN, vN, vN, vN, vN, vI 0, vN, vN, vN, vN, vI 0, vI 0]) = z := ⟨_, rfl⟩
  refine z_putF (fs := [vI 0, vI 102, vI 0, vR ad3, vR ad10, vR ad19, vN, vN, vI 0, vN, vN, vN, vN, vN, vN, vN, vI 0, vN, vN, vN, vN, vN, vN, vN, vI 0, vN, vN, vN, vN, vI 0, vI 0]) (fs' := [vI 0, vI 102, vI 0, vR ad3, vR ad10, vR ad19, vR ad30, vN, vI 0, vN, vN, vN, vN, vN, vN, vN, vI 0, vN, vN, vN, vN, vN, vN, vN, vI 0, vN, vN, vN, vN, vI 0, vI 0]) (h' := h37) F hnm g33 fX9_24 ftX9_6 (nf_a _ _) (Nat.le_of_ble_eq_true rfl) rfl (fun r9 h9 => by cases h9; rfl) dX9_init_35 eh37 ?_
  have g38 : h37 o = some (eO 14 [vI 0, vI 102, vI 0, vR ad3, vR ad10, vR ad19, vR ad30, vN, vI 0, vN, vN, vN, vN, vN, vN, vN, vI 0, vN, vN, vN, vN, vN, vN, vN, vI 0, vN, vN, vN, vN, vI 0, vI 0]) := by rw [← eh37]; exact hu_s _ _ _
  have g39 : h37 ad30 = some (eA 0 5 (fun _ => vI 0)) := s_hu eh37 (Ne.symm (fresh_ne fad30 (g26))) (g32)
  have g40 : h37 ad19 = some (eA 1 5 (fun _ => vI 0)) := s_hu eh37 (Ne.symm (fresh_ne fad19 (g16))) (g34)
  have g41 : h37 ad10 = some (eA 1 5 (fun _ => vI 0)) := s_hu eh37 (Ne.symm (fresh_ne fad10 (g8))) (g35)
  have g42 : h37 ad3 = some (eA 0 5 (fun _ => vI 0)) := s_hu eh37 (Ne.symm (fresh_ne fad3 (g2))) (g36)
  have ndh37 := nd_put ndh31 eh37
  refine z_aload_n F dX9_init_38 rfl 0 rfl ?_
  refine z_iconst F dX9_init_39 ?_
  refine z_newarr (kk := 0) (N := 5) (v0 := vI 0) (ty := .int) F rfl q115 rfl (fun C9 h9 => by cases h9) rfl rfl (by decide) (by decide) (Nat.le_of_ble_eq_true rfl) (Nat.le_of_ble_eq_true rfl) dX9_init_40 (fun ad43 fad43 => ?_)
  generalize eh44 : hu h37 ad43 (eA 0 5 (fun _ => vI 0)) = h44
  have g45 : h44 ad43 = some (eA 0 5 (fun _ => vI 0)) := by rw [← eh44]; exact hu_s _ _ _
  have g46 : h44 o = some (eO 14 [vI 0, vI 102, vI 0, vR ad3, vR ad10, vR ad19, vR ad30, vN, vI 0, vN, vN, vN, vN, vN, vN, vN, vI 0, vN, vN, vN, vN, vN, vN, vN, vI 0, vN, vN, vN, vN, vI 0, vI 0]) := s_hu eh44 (fresh_ne fad43 (g38)) (g38)
  have g47 : h44 ad30 = some (eA 0 5 (fun _ => vI 0)) := s_hu eh44 (fresh_ne fad43 (g39)) (g39)
  have g48 : h44 ad19 = some (eA 1 5 (fun _ => vI 0)) := s_hu eh44 (fresh_ne fad43 (g40)) (g40)
  have g49 : h44 ad10 = some (eA 1 5 (fun _ => vI 0)) := s_hu eh44 (fresh_ne fad43 (g41)) (g41)
  have g50 : h44 ad3 = some (eA 0 5 (fun _ => vI 0)) := s_hu eh44 (fresh_ne fad43 (g42)) (g42)
  have ndh44 := nd_push ndh37 fad43 eh44
  obtain ⟨h51, eh51⟩ : ∃ z : Hp, hu h44 o (eO 14 [vI 0, vI 102, vI 0, vR ad3, vR ad10, vR ad19, vR ad30, vR ad43, vI 0, vN, vN, vN, vN, vN, vN, vN, vI 0, vN, vN, vN, vN, vN, vN, vN, vI 0, vN, vN, vN, vN, vI 0, vI 0]) = z := ⟨_, rfl⟩
  refine z_putF (fs := [vI 0, vI 102, vI 0, vR ad3, vR ad10, vR ad19, vR ad30, vN, vI 0, vN, vN, vN, vN, vN, vN, vN, vI 0, vN, vN, vN, vN, vN, vN, vN, vI 0, vN, vN, vN, vN, vI 0, vI 0]) (fs' := [vI 0, vI 102, vI 0, vR ad3, vR ad10, vR ad19, vR ad30, vR ad43, vI 0, vN, vN, vN, vN, vN, vN, vN, vI 0, vN, vN, vN, vN, vN, vN, vN, vI 0, vN, vN, vN, vN, vI 0, vI 0]) (h' := h51) F hnm g46 fX9_27 ftX9_7 (nf_a _ _) (Nat.le_of_ble_eq_true rfl) rfl (fun r9 h9 => by cases h9; rfl) dX9_init_42 eh51 ?_
  have g52 : h51 o = some (eO 14 [vI 0, vI 102, vI 0, vR ad3, vR ad10, vR ad19, vR ad30, vR ad43, vI 0, vN, vN, vN, vN, vN, vN, vN, vI 0, vN, vN, vN, vN, vN, vN, vN, vI 0, vN, vN, vN, vN, vI 0, vI 0]) := by rw [← eh51]; exact hu_s _ _ _
  have g53 : h51 ad43 = some (eA 0 5 (fun _ => vI 0)) := s_hu eh51 (Ne.symm (fresh_ne fad43 (g38))) (g45)
  have g54 : h51 ad30 = some (eA 0 5 (fun _ => vI 0)) := s_hu eh51 (Ne.symm (fresh_ne fad30 (g26))) (g47)
  have g55 : h51 ad19 = some (eA 1 5 (fun _ => vI 0)) := s_hu eh51 (Ne.symm (fresh_ne fad19 (g16))) (g48)
  have g56 : h51 ad10 = some (eA 1 5 (fun _ => vI 0)) := s_hu eh51 (Ne.symm (fresh_ne fad10 (g8))) (g49)
  have g57 : h51 ad3 = some (eA 0 5 (fun _ => vI 0)) := s_hu eh51 (Ne.symm (fresh_ne fad3 (g2))) (g50)
  have ndh51 := nd_put ndh44 eh51
  refine z_aload_n F dX9_init_45 rfl 0 rfl ?_
  refine z_bipush F dX9_init_46 (by decide) ?_
  refine z_newarr (kk := 0) (N := 24) (v0 := vI 0) (ty := .int) F rfl q115 rfl (fun C9 h9 => by cases h9) rfl rfl (by decide) (by decide) (Nat.le_of_ble_eq_true rfl) (Nat.le_of_ble_eq_true rfl) dX9_init_48 (fun ad58 fad58 => ?_)
  generalize eh59 : hu h51 ad58 (eA 0 24 (fun _ => vI 0)) = h59
  have g60 : h59 ad58 = some (eA 0 24 (fun _ => vI 0)) := by rw [← eh59]; exact hu_s _ _ _
  have g61 : h59 o = some (eO 14 [vI 0, vI 102, vI 0, vR ad3, vR ad10, vR ad19, vR ad30, vR ad43, vI 0, vN, vN, vN, vN, vN, vN, vN, vI 0, vN, vN, vN, vN, vN, vN, vN, vI 0, vN, vN, vN, vN, vI 0, vI 0]) := s_hu eh59 (fresh_ne fad58 (g52)) (g52)
  have g62 : h59 ad43 = some (eA 0 5 (fun _ => vI 0)) := s_hu eh59 (fresh_ne fad58 (g53)) (g53)
  have g63 : h59 ad30 = some (eA 0 5 (fun _ => vI 0)) := s_hu eh59 (fresh_ne fad58 (g54)) (g54)
  have g64 : h59 ad19 = some (eA 1 5 (fun _ => vI 0)) := s_hu eh59 (fresh_ne fad58 (g55)) (g55)
  have g65 : h59 ad10 = some (eA 1 5 (fun _ => vI 0)) := s_hu eh59 (fresh_ne fad58 (g56)) (g56)
  have g66 : h59 ad3 = some (eA 0 5 (fun _ => vI 0)) := s_hu eh59 (fresh_ne fad58 (g57)) (g57)
  have ndh59 := nd_push ndh51 fad58 eh59
  obtain ⟨h67, eh67⟩ : ∃ z : Hp, hu h59 o (eO 14 [vI 0, vI 102, vI 0, vR ad3, vR ad10, vR ad19, vR ad30, vR ad43, vI 0, vR ad58, vN, vN, vN, vN, vN, vN, vI 0, vN, vN, vN, vN, vN, vN, vN, vI 0, vN, vN, vN, vN, vI 0, vI 0]) = z := ⟨_, rfl⟩
  refine z_putF (fs := [vI 0, vI 102, vI 0, vR ad3, vR ad10, vR ad19, vR ad30, vR ad43, vI 0, vN, vN, vN, vN, vN, vN, vN, vI 0, vN, vN, vN, vN, vN, vN, vN, vI 0, vN, vN, vN, vN, vI 0, vI 0]) (fs' := [vI 0, vI 102, vI 0, vR ad3, vR ad10, vR ad19, vR ad30, vR ad43, vI 0, vR ad58, vN, vN, vN, vN, vN, vN, vI 0, vN, vN, vN, vN, vN, vN, vN, vI 0, vN, vN, vN, vN, vI 0, vI 0]) (h' := h67) F hnm g61 fX9_30 ftX9_9 (nf_a _ _) (Nat.le_of_ble_eq_true rfl) rfl (fun r9 h9 => by cases h9; rfl) dX9_init_50 eh67 ?_
  have g68 : h67 o = some (eO 14 [vI 0, vI 102, vI 0, vR ad3, vR ad10, vR ad19, vR ad30, vR ad43, vI 0, vR ad58, vN, vN, vN, vN, vN, vN, vI 0, vN, vN, vN, vN, vN, vN, vN, vI 0, vN, vN, vN, vN, vI 0, vI 0]) := by rw [← eh67]; exact hu_s _ _ _
  have g69 : h67 ad58 = some (eA 0 24 (fun _ => vI 0)) := s_hu eh67 (Ne.symm (fresh_ne fad58 (g52))) (g60)
  have g70 : h67 ad43 = some (eA 0 5 (fun _ => vI 0)) := s_hu eh67 (Ne.symm (fresh_ne fad43 (g38))) (g62)
  have g71 : h67 ad30 = some (eA 0 5 (fun _ => vI 0)) := s_hu eh67 (Ne.symm (fresh_ne fad30 (g26))) (g63)
  have g72 : h67 ad19 = some (eA 1 5 (fun _ => vI 0)) := s_hu eh67 (Ne.symm (fresh_ne fad19 (g16))) (g64)
  have g73 : h67 ad10 = some (eA 1 5 (fun _ => vI 0)) := s_hu eh67 (Ne.symm (fresh_ne fad10 (g8))) (g65)
  have g74 : h67 ad3 = some (eA 0 5 (fun _ => vI 0)) := s_hu eh67 (Ne.symm (fresh_ne fad3 (g2))) (g66)
  have ndh67 := nd_put ndh59 eh67
  refine z_aload_n F dX9_init_53 rfl 0 rfl ?_
  refine z_bipush F dX9_init_54 (by decide) ?_
  refine z_newarr (kk := 0) (N := 24) (v0 := vI 0) (ty := .int) F rfl q115 rfl (fun C9 h9 => by cases h9) rfl rfl (by decide) (by decide) (Nat.le_of_ble_eq_true rfl) (Nat.le_of_ble_eq_true rfl) dX9_init_56 (fun ad75 fad75 => ?_)
  generalize eh76 : hu h67 ad75 (eA 0 24 (fun _ => vI 0)) = h76
  have g77 : h76 ad75 = some (eA 0 24 (fun _ => vI 0)) := by rw [← eh76]; exact hu_s _ _ _
  have g78 : h76 o = some (eO 14 [vI 0, vI 102, vI 0, vR ad3, vR ad10, vR ad19, vR ad30, vR ad43, vI 0, vR ad58, vN, vN, vN, vN, vN, vN, vI 0, vN, vN, vN, vN, vN, vN, vN, vI 0, vN, vN, vN, vN, vI 0, vI 0]) := s_hu eh76 (fresh_ne fad75 (g68)) (g68)
  have g79 : h76 ad58 = some (eA 0 24 (fun _ => vI 0)) := s_hu eh76 (fresh_ne fad75 (g69)) (g69)
  have g80 : h76 ad43 = some (eA 0 5 (fun _ => vI 0)) := s_hu eh76 (fresh_ne fad75 (g70)) (g70)
  have g81 : h76 ad30 = some (eA 0 5 (fun _ => vI 0)) := s_hu eh76 (fresh_ne fad75 (g71)) (g71)
  have g82 : h76 ad19 = some (eA 1 5 (fun _ => vI 0)) := s_hu eh76 (fresh_ne fad75 (g72)) (g72)
  have g83 : h76 ad10 = some (eA 1 5 (fun _ => vI 0)) := s_hu eh76 (fresh_ne fad75 (g73)) (g73)
  have g84 : h76 ad3 = some (eA 0 5 (fun _ => vI 0)) := s_hu eh76 (fresh_ne fad75 (g74)) (g74)
  have ndh76 := nd_push ndh67 fad75 eh76
  obtain ⟨h85, eh85⟩ : ∃ z : Hp, hu h76 o (eO 14 [vI 0, vI 102, vI 0, vR ad3, vR ad10, vR ad19, vR ad30, vR ad43, vI 0, vR ad58, vR ad75, vN, vN, vN, vN, vN, vI 0, vN, vN, vN, vN, vN, vN, vN, vI 0, vN, vN, vN, vN, vI 0, vI 0]) = z := ⟨_, rfl⟩
  refine z_putF (fs := [vI 0, vI 102, vI 0, vR ad3, vR ad10, vR ad19, vR ad30, vR ad43, vI 0, vR ad58, vN, vN, vN, vN, vN, vN, vI 0, vN, vN, vN, vN, vN, vN, vN, vI 0, vN, vN, vN, vN, vI 0, vI 0]) (fs' := [vI 0, vI 102, vI 0, vR ad3, vR ad10, vR ad19, vR ad30, vR ad43, vI 0, vR ad58, vR ad75, vN, vN, vN, vN, vN, vI 0, vN, vN, vN, vN, vN, vN, vN, vI 0, vN, vN, vN, vN, vI 0, vI 0]) (h' := h85) F hnm g78 fX9_33 ftX9_10 (nf_a _ _) (Nat.le_of_ble_eq_true rfl) rfl (fun r9 h9 => by cases h9; rfl) dX9_init_58 eh85 ?_
  have g86 : h85 o = some (eO 14 [vI 0, vI 102, vI 0, vR ad3, vR ad10, vR ad19, vR ad30, vR ad43, vI 0, vR ad58, vR ad75, vN, vN, vN, vN, vN, vI 0, vN, vN, vN, vN, vN, vN, vN, vI 0, vN, vN, vN, vN, vI 0, vI 0]) := by rw [← eh85]; exact hu_s _ _ _
  have g87 : h85 ad75 = some (eA 0 24 (fun _ => vI 0)) := s_hu eh85 (Ne.symm (fresh_ne fad75 (g68))) (g77)
  have g88 : h85 ad58 = some (eA 0 24 (fun _ => vI 0)) := s_hu eh85 (Ne.symm (fresh_ne fad58 (g52))) (g79)
  have g89 : h85 ad43 = some (eA 0 5 (fun _ => vI 0)) := s_hu eh85 (Ne.symm (fresh_ne fad43 (g38))) (g80)
  have g90 : h85 ad30 = some (eA 0 5 (fun _ => vI 0)) := s_hu eh85 (Ne.symm (fresh_ne fad30 (g26))) (g81)
  have g91 : h85 ad19 = some (eA 1 5 (fun _ => vI 0)) := s_hu eh85 (Ne.symm (fresh_ne fad19 (g16))) (g82)
  have g92 : h85 ad10 = some (eA 1 5 (fun _ => vI 0)) := s_hu eh85 (Ne.symm (fresh_ne fad10 (g8))) (g83)
  have g93 : h85 ad3 = some (eA 0 5 (fun _ => vI 0)) := s_hu eh85 (Ne.symm (fresh_ne fad3 (g2))) (g84)
  have ndh85 := nd_put ndh76 eh85
  refine z_aload_n F dX9_init_61 rfl 0 rfl ?_
  refine z_bipush F dX9_init_62 (by decide) ?_
  refine z_newarr (kk := 0) (N := 24) (v0 := vI 0) (ty := .int) F rfl q115 rfl (fun C9 h9 => by cases h9) rfl rfl (by decide) (by decide) (Nat.le_of_ble_eq_true rfl) (Nat.le_of_ble_eq_true rfl) dX9_init_64 (fun ad94 fad94 => ?_)
  generalize eh95 : hu h85 ad94 (eA 0 24 (fun _ => vI 0)) = h95
  have g96 : h95 ad94 = some (eA 0 24 (fun _ => vI 0)) := by rw [← eh95]; exact hu_s _ _ _
  have g97 : h95 o = some (eO 14 [vI 0, vI 102, vI 0, vR ad3, vR ad10, vR ad19, vR ad30, vR ad43, vI 0, vR ad58, vR ad75, vN, vN, vN, vN, vN, vI 0, vN, vN, vN, vN, vN, vN, vN, vI 0, vN, vN, vN, vN, vI 0, vI 0]) := s_hu eh95 (fresh_ne fad94 (g86)) (g86)
  have g98 : h95 ad75 = some (eA 0 24 (fun _ => vI 0)) := s_hu eh95 (fresh_ne fad94 (g87)) (g87)
  have g99 : h95 ad58 = some (eA 0 24 (fun _ => vI 0)) := s_hu eh95 (fresh_ne fad94 (g88)) (g88)
  have g100 : h95 ad43 = some (eA 0 5 (fun _ => vI 0)) := s_hu eh95 (fresh_ne fad94 (g89)) (g89)
  have g101 : h95 ad30 = some (eA 0 5 (fun _ => vI 0)) := s_hu eh95 (fresh_ne fad94 (g90)) (g90)
  have g102 : h95 ad19 = some (eA 1 5 (fun _ => vI 0)) := s_hu eh95 (fresh_ne fad94 (g91)) (g91)
  have g103 : h95 ad10 = some (eA 1 5 (fun _ => vI 0)) := s_hu eh95 (fresh_ne fad94 (g92)) (g92)
  have g104 : h95 ad3 = some (eA 0 5 (fun _ => vI 0)) := s_hu eh95 (fresh_ne fad94 (g93)) (g93)
  have ndh95 := nd_push ndh85 fad94 eh95
  obtain ⟨h105, eh105⟩ : ∃ z : Hp, hu h95 o (eO 14 [vI 0, vI 102, vI 0, vR ad3, vR ad10, vR ad19, vR ad30, vR ad43, vI 0, vR ad58, vR ad75, vR ad94, vN, vN, vN, vN, vI 0, vN, vN, vN, vN, vN, vN, vN, vI 0, vN, vN, vN, vN, vI 0, vI 0]) = z := ⟨_, rfl⟩
  refine z_putF (fs := [vI 0, vI 102, vI 0, vR ad3, vR ad10, vR ad19, vR ad30, vR ad43, vI 0, vR ad58, vR ad75, vN, vN, vN, vN, vN, vI 0, vN, vN, vN, vN, vN, vN, vN, vI 0, vN, vN, vN, vN, vI 0, vI 0]) (fs' := [vI 0, vI 102, vI 0, vR ad3, vR ad10, vR ad19, vR ad30, vR ad43, vI 0, vR ad58, vR ad75, vR ad94, vN, vN, vN, vN, vI 0, vN, vN, vN, vN, vN, vN, vN, vI 0, vN, vN, vN, vN, vI 0, vI 0]) (h' := h105) F hnm g97 fX9_36 ftX9_11 (nf_a _ _) (Nat.le_of_ble_eq_true rfl) rfl (fun r9 h9 => by cases h9; rfl) dX9_init_66 eh105 ?_
  have g106 : h105 o = some (eO 14 [vI 0, vI 102, vI 0, vR ad3, vR ad10, vR ad19, vR ad30, vR ad43, vI 0, vR ad58, vR ad75, vR ad94, vN, vN, vN, vN, vI 0, vN, vN, vN, vN, vN, vN, vN, vI 0, vN, vN, vN, vN, vI 0, vI 0]) := by rw [← eh105]; exact hu_s _ _ _
  have g107 : h105 ad94 = some (eA 0 24 (fun _ => vI 0)) := s_hu eh105 (Ne.symm (fresh_ne fad94 (g86))) (g96)
  have g108 : h105 ad75 = some (eA 0 24 (fun _ => vI 0)) := s_hu eh105 (Ne.symm (fresh_ne fad75 (g68))) (g98)
  have g109 : h105 ad58 = some (eA 0 24 (fun _ => vI 0)) := s_hu eh105 (Ne.symm (fresh_ne fad58 (g52))) (g99)
  have g110 : h105 ad43 = some (eA 0 5 (fun _ => vI 0)) := s_hu eh105 (Ne.symm (fresh_ne fad43 (g38))) (g100)
  have g111 : h105 ad30 = some (eA 0 5 (fun _ => vI 0)) := s_hu eh105 (Ne.symm (fresh_ne fad30 (g26))) (g101)
  have g112 : h105 ad19 = some (eA 1 5 (fun _ => vI 0)) := s_hu eh105 (Ne.symm (fresh_ne fad19 (g16))) (g102)
  have g113 : h105 ad10 = some (eA 1 5 (fun _ => vI 0)) := s_hu eh105 (Ne.symm (fresh_ne fad10 (g8))) (g103)
  have g114 : h105 ad3 = some (eA 0 5 (fun _ => vI 0)) := s_hu eh105 (Ne.symm (fresh_ne fad3 (g2))) (g104)
  have ndh105 := nd_put ndh95 eh105
  refine z_aload_n F dX9_init_69 rfl 0 rfl ?_
  refine z_bipush F dX9_init_70 (by decide) ?_
  refine z_newarr (kk := 1) (N := 24) (v0 := vI 0) (ty := .char) F rfl q1569 rfl (fun C9 h9 => by cases h9) rfl rfl (by decide) (by decide) (Nat.le_of_ble_eq_true rfl) (Nat.le_of_ble_eq_true rfl) dX9_init_72 (fun ad115 fad115 => ?_)
  generalize eh116 : hu h105 ad115 (eA 1 24 (fun _ => vI 0)) = h116
  have g117 : h116 ad115 = some (eA 1 24 (fun _ => vI 0)) := by rw [← eh116]; exact hu_s _ _ _
  have g118 : h116 o = some (eO 14 [vI 0, vI 102, vI 0, vR ad3, vR ad10, vR ad19, vR ad30, vR ad43, vI 0, vR ad58, vR ad75, vR ad94, vN, vN, vN, vN, vI 0, vN, vN, vN, vN, vN, vN, vN, vI 0, vN, vN, vN, vN, vI 0, vI 0]) := s_hu eh116 (fresh_ne fad115 (g106)) (g106)
  have g119 : h116 ad94 = some (eA 0 24 (fun _ => vI 0)) := s_hu eh116 (fresh_ne fad115 (g107)) (g107)
  have g120 : h116 ad75 = some (eA 0 24 (fun _ => vI 0)) := s_hu eh116 (fresh_ne fad115 (g108)) (g108)
  have g121 : h116 ad58 = some (eA 0 24 (fun _ => vI 0)) := s_hu eh116 (fresh_ne fad115 (g109)) (g109)
  have g122 : h116 ad43 = some (eA 0 5 (fun _ => vI 0)) := s_hu eh116 (fresh_ne fad115 (g110)) (g110)
  have g123 : h116 ad30 = some (eA 0 5 (fun _ => vI 0)) := s_hu eh116 (fresh_ne fad115 (g111)) (g111)
  have g124 : h116 ad19 = some (eA 1 5 (fun _ => vI 0)) := s_hu eh116 (fresh_ne fad115 (g112)) (g112)
  have g125 : h116 ad10 = some (eA 1 5 (fun _ => vI 0)) := s_hu eh116 (fresh_ne fad115 (g113)) (g113)
  have g126 : h116 ad3 = some (eA 0 5 (fun _ => vI 0)) := s_hu eh116 (fresh_ne fad115 (g114)) (g114)
  have ndh116 := nd_push ndh105 fad115 eh116
  obtain ⟨h127, eh127⟩ : ∃ z : Hp, hu h116 o (eO 14 [vI 0, vI 102, vI 0, vR ad3, vR ad10, vR ad19, vR ad30, vR ad43, vI 0, vR ad58, vR ad75, vR ad94, vR ad115, vN, vN, vN, vI 0, vN, vN, vN, vN, vN, vN, vN, vI 0, vN, vN, vN, vN, vI 0, vI 0]) = z := ⟨_, rfl⟩
  refine z_putF (fs := [vI 0, vI 102, vI 0, vR ad3, vR ad10, vR ad19, vR ad30, vR ad43, vI 0, vR ad58, vR ad75, vR ad94, vN, vN, vN, vN, vI 0, vN, vN, vN, vN, vN, vN, vN, vI 0, vN, vN, vN, vN, vI 0, vI 0]) (fs' := [vI 0, vI 102, vI 0, vR ad3, vR ad10, vR ad19, vR ad30, vR ad43, vI 0, vR ad58, vR ad75, vR ad94, vR ad115, vN, vN, vN, vI 0, vN, vN, vN, vN, vN, vN, vN, vI 0, vN, vN, vN, vN, vI 0, vI 0]) (h' := h127) F hnm g118 fX9_39 ftX9_12 (nf_a _ _) (Nat.le_of_ble_eq_true rfl) rfl (fun r9 h9 => by cases h9; rfl) dX9_init_74 eh127 ?_
  have g128 : h127 o = some (eO 14 [vI 0, vI 102, vI 0, vR ad3, vR ad10, vR ad19, vR ad30, vR ad43, vI 0, vR ad58, vR ad75, vR ad94, vR ad115, vN, vN, vN, vI 0, vN, vN, vN, vN, vN, vN, vN, vI 0, vN, vN, vN, vN, vI 0, vI 0]) := by rw [← eh127]; exact hu_s _ _ _
  have g129 : h127 ad115 = some (eA 1 24 (fun _ => vI 0)) := s_hu eh127 (Ne.symm (fresh_ne fad115 (g106))) (g117)
  have g130 : h127 ad94 = some (eA 0 24 (fun _ => vI 0)) := s_hu eh127 (Ne.symm (fresh_ne fad94 (g86))) (g119)
  have g131 : h127 ad75 = some (eA 0 24 (fun _ => vI 0)) := s_hu eh127 (Ne.symm (fresh_ne fad75 (g68))) (g120)
  have g132 : h127 ad58 = some (eA 0 24 (fun _ => vI 0)) := s_hu eh127 (Ne.symm (fresh_ne fad58 (g52))) (g121)
  have g133 : h127 ad43 = some (eA 0 5 (fun _ => vI 0)) := s_hu eh127 (Ne.symm (fresh_ne fad43 (g38))) (g122)
  have g134 : h127 ad30 = some (eA 0 5 (fun _ => vI 0)) := s_hu eh127 (Ne.symm (fresh_ne fad30 (g26))) (g123)
  have g135 : h127 ad19 = some (eA 1 5 (fun _ => vI 0)) := s_hu eh127 (Ne.symm (fresh_ne fad19 (g16))) (g124)
  have g136 : h127 ad10 = some (eA 1 5 (fun _ => vI 0)) := s_hu eh127 (Ne.symm (fresh_ne fad10 (g8))) (g125)
  have g137 : h127 ad3 = some (eA 0 5 (fun _ => vI 0)) := s_hu eh127 (Ne.symm (fresh_ne fad3 (g2))) (g126)
  have ndh127 := nd_put ndh116 eh127
  refine z_aload_n F dX9_init_77 rfl 0 rfl ?_
  refine z_bipush F dX9_init_78 (by decide) ?_
  refine z_newarr (kk := 0) (N := 24) (v0 := vI 0) (ty := .int) F rfl q115 rfl (fun C9 h9 => by cases h9) rfl rfl (by decide) (by decide) (Nat.le_of_ble_eq_true rfl) (Nat.le_of_ble_eq_true rfl) dX9_init_80 (fun ad138 fad138 => ?_)
  generalize eh139 : hu h127 ad138 (eA 0 24 (fun _ => vI 0)) = h139
  have g140 : h139 ad138 = some (eA 0 24 (fun _ => vI 0)) := by rw [← eh139]; exact hu_s _ _ _
  have g141 : h139 o = some (eO 14 [vI 0, vI 102, vI 0, vR ad3, vR ad10, vR ad19, vR ad30, vR ad43, vI 0, vR ad58, vR ad75, vR ad94, vR ad115, vN, vN, vN, vI 0, vN, vN, vN, vN, vN, vN, vN, vI 0, vN, vN, vN, vN, vI 0, vI 0]) := s_hu eh139 (fresh_ne fad138 (g128)) (g128)
  have g142 : h139 ad115 = some (eA 1 24 (fun _ => vI 0)) := s_hu eh139 (fresh_ne fad138 (g129)) (g129)
  have g143 : h139 ad94 = some (eA 0 24 (fun _ => vI 0)) := s_hu eh139 (fresh_ne fad138 (g130)) (g130)
  have g144 : h139 ad75 = some (eA 0 24 (fun _ => vI 0)) := s_hu eh139 (fresh_ne fad138 (g131)) (g131)
  have g145 : h139 ad58 = some (eA 0 24 (fun _ => vI 0)) := s_hu eh139 (fresh_ne fad138 (g132)) (g132)
  have g146 : h139 ad43 = some (eA 0 5 (fun _ => vI 0)) := s_hu eh139 (fresh_ne fad138 (g133)) (g133)
  have g147 : h139 ad30 = some (eA 0 5 (fun _ => vI 0)) := s_hu eh139 (fresh_ne fad138 (g134)) (g134)
  have g148 : h139 ad19 = some (eA 1 5 (fun _ => vI 0)) := s_hu eh139 (fresh_ne fad138 (g135)) (g135)
  have g149 : h139 ad10 = some (eA 1 5 (fun _ => vI 0)) := s_hu eh139 (fresh_ne fad138 (g136)) (g136)
  have g150 : h139 ad3 = some (eA 0 5 (fun _ => vI 0)) := s_hu eh139 (fresh_ne fad138 (g137)) (g137)
  have ndh139 := nd_push ndh127 fad138 eh139
  obtain ⟨h151, eh151⟩ : ∃ z : Hp, hu h139 o (eO 14 [vI 0, vI 102, vI 0, vR ad3, vR ad10, vR ad19, vR ad30, vR ad43, vI 0, vR ad58, vR ad75, vR ad94, vR ad115, vR ad138, vN, vN, vI 0, vN, vN, vN, vN, vN, vN, vN, vI 0, vN, vN, vN, vN, vI 0, vI 0]) = z := ⟨_, rfl⟩
  refine z_putF (fs := [vI 0, vI 102, vI 0, vR ad3, vR ad10, vR ad19, vR ad30, vR ad43, vI 0, vR ad58, vR ad75, vR ad94, vR ad115, vN, vN, vN, vI 0, vN, vN, vN, vN, vN, vN, vN, vI 0, vN, vN, vN, vN, vI 0, vI 0]) (fs' := [vI 0, vI 102, vI 0, vR ad3, vR ad10, vR ad19, vR ad30, vR ad43, vI 0, vR ad58, vR ad75, vR ad94, vR ad115, vR ad138, vN, vN, vI 0, vN, vN, vN, vN, vN, vN, vN, vI 0, vN, vN, vN, vN, vI 0, vI 0]) (h' := h151) F hnm g141 fX9_42 ftX9_13 (nf_a _ _) (Nat.le_of_ble_eq_true rfl) rfl (fun r9 h9 => by cases h9; rfl) dX9_init_82 eh151 ?_
  have g152 : h151 o = some (eO 14 [vI 0, vI 102, vI 0, vR ad3, vR ad10, vR ad19, vR ad30, vR ad43, vI 0, vR ad58, vR ad75, vR ad94, vR ad115, vR ad138, vN, vN, vI 0, vN, vN, vN, vN, vN, vN, vN, vI 0, vN, vN, vN, vN, vI 0, vI 0]) := by rw [← eh151]; exact hu_s _ _ _
  have g153 : h151 ad138 = some (eA 0 24 (fun _ => vI 0)) := s_hu eh151 (Ne.symm (fresh_ne fad138 (g128))) (g140)
  have g154 : h151 ad115 = some (eA 1 24 (fun _ => vI 0)) := s_hu eh151 (Ne.symm (fresh_ne fad115 (g106))) (g142)
  have g155 : h151 ad94 = some (eA 0 24 (fun _ => vI 0)) := s_hu eh151 (Ne.symm (fresh_ne fad94 (g86))) (g143)
  have g156 : h151 ad75 = some (eA 0 24 (fun _ => vI 0)) := s_hu eh151 (Ne.symm (fresh_ne fad75 (g68))) (g144)
  have g157 : h151 ad58 = some (eA 0 24 (fun _ => vI 0)) := s_hu eh151 (Ne.symm (fresh_ne fad58 (g52))) (g145)
  have g158 : h151 ad43 = some (eA 0 5 (fun _ => vI 0)) := s_hu eh151 (Ne.symm (fresh_ne fad43 (g38))) (g146)
  have g159 : h151 ad30 = some (eA 0 5 (fun _ => vI 0)) := s_hu eh151 (Ne.symm (fresh_ne fad30 (g26))) (g147)
  have g160 : h151 ad19 = some (eA 1 5 (fun _ => vI 0)) := s_hu eh151 (Ne.symm (fresh_ne fad19 (g16))) (g148)
  have g161 : h151 ad10 = some (eA 1 5 (fun _ => vI 0)) := s_hu eh151 (Ne.symm (fresh_ne fad10 (g8))) (g149)
  have g162 : h151 ad3 = some (eA 0 5 (fun _ => vI 0)) := s_hu eh151 (Ne.symm (fresh_ne fad3 (g2))) (g150)
  have ndh151 := nd_put ndh139 eh151
  refine z_aload_n F dX9_init_85 rfl 0 rfl ?_
  refine z_bipush F dX9_init_86 (by decide) ?_
  refine z_newarr (kk := 0) (N := 24) (v0 := vI 0) (ty := .int) F rfl q115 rfl (fun C9 h9 => by cases h9) rfl rfl (by decide) (by decide) (Nat.le_of_ble_eq_true rfl) (Nat.le_of_ble_eq_true rfl) dX9_init_88 (fun ad163 fad163 => ?_)
  generalize eh164 : hu h151 ad163 (eA 0 24 (fun _ => vI 0)) = h164
  have g165 : h164 ad163 = some (eA 0 24 (fun _ => vI 0)) := by rw [← eh164]; exact hu_s _ _ _
  have g166 : h164 o = some (eO 14 [vI 0, vI 102, vI 0, vR ad3, vR ad10, vR ad19, vR ad30, vR ad43, vI 0, vR ad58, vR ad75, vR ad94, vR ad115, vR ad138, vN, vN, vI 0, vN, vN, vN, vN, vN, vN, vN, vI 0, vN, vN, vN, vN, vI 0, vI 0]) := s_hu eh164 (fresh_ne fad163 (g152)) (g152)
  have g167 : h164 ad138 = some (eA 0 24 (fun _ => vI 0)) := s_hu eh164 (fresh_ne fad163 (g153)) (g153)
  have g168 : h164 ad115 = some (eA 1 24 (fun _ => vI 0)) := s_hu eh164 (fresh_ne fad163 (g154)) (g154)
  have g169 : h164 ad94 = some (eA 0 24 (fun _ => vI 0)) := s_hu eh164 (fresh_ne fad163 (g155)) (g155)
  have g170 : h164 ad75 = some (eA 0 24 (fun _ => vI 0)) := s_hu eh164 (fresh_ne fad163 (g156)) (g156)
  have g171 : h164 ad58 = some (eA 0 24 (fun _ => vI 0)) := s_hu eh164 (fresh_ne fad163 (g157)) (g157)
  have g172 : h164 ad43 = some (eA 0 5 (fun _ => vI 0)) := s_hu eh164 (fresh_ne fad163 (g158)) (g158)
  have g173 : h164 ad30 = some (eA 0 5 (fun _ => vI 0)) := s_hu eh164 (fresh_ne fad163 (g159)) (g159)
  have g174 : h164 ad19 = some (eA 1 5 (fun _ => vI 0)) := s_hu eh164 (fresh_ne fad163 (g160)) (g160)
  have g175 : h164 ad10 = some (eA 1 5 (fun _ => vI 0)) := s_hu eh164 (fresh_ne fad163 (g161)) (g161)
  have g176 : h164 ad3 = some (eA 0 5 (fun _ => vI 0)) := s_hu eh164 (fresh_ne fad163 (g162)) (g162)
  have ndh164 := nd_push ndh151 fad163 eh164
  obtain ⟨h177, eh177⟩ : ∃ z : Hp, hu h164 o (eO 14 [vI 0, vI 102, vI 0, vR ad3, vR ad10, vR ad19, vR ad30, vR ad43, vI 0, vR ad58, vR ad75, vR ad94, vR ad115, vR ad138, vR ad163, vN, vI 0, vN, vN, vN, vN, vN, vN, vN, vI 0, vN, vN, vN, vN, vI 0, vI 0]) = z := ⟨_, rfl⟩
  refine z_putF (fs := [vI 0, vI 102, vI 0, vR ad3, vR ad10, vR ad19, vR ad30, vR ad43, vI 0, vR ad58, vR ad75, vR ad94, vR ad115, vR ad138, vN, vN, vI 0, vN, vN, vN, vN, vN, vN, vN, vI 0, vN, vN, vN, vN, vI 0, vI 0]) (fs' := [vI 0, vI 102, vI 0, vR ad3, vR ad10, vR ad19, vR ad30, vR ad43, vI 0, vR ad58, vR ad75, vR ad94, vR ad115, vR ad138, vR ad163, vN, vI 0, vN, vN, vN, vN, vN, vN, vN, vI 0, vN, vN, vN, vN, vI 0, vI 0]) (h' := h177) F hnm g166 fX9_45 ftX9_14 (nf_a _ _) (Nat.le_of_ble_eq_true rfl) rfl (fun r9 h9 => by cases h9; rfl) dX9_init_90 eh177 ?_
  have g178 : h177 o = some (eO 14 [vI 0, vI 102, vI 0, vR ad3, vR ad10, vR ad19, vR ad30, vR ad43, vI 0, vR ad58, vR ad75, vR ad94, vR ad115, vR ad138, vR ad163, vN, vI 0, vN, vN, vN, vN, vN, vN, vN, vI 0, vN, vN, vN, vN, vI 0, vI 0]) := by rw [← eh177]; exact hu_s _ _ _
  have g179 : h177 ad163 = some (eA 0 24 (fun _ => vI 0)) := s_hu eh177 (Ne.symm (fresh_ne fad163 (g152))) (g165)
  have g180 : h177 ad138 = some (eA 0 24 (fun _ => vI 0)) := s_hu eh177 (Ne.symm (fresh_ne fad138 (g128))) (g167)
  have g181 : h177 ad115 = some (eA 1 24 (fun _ => vI 0)) := s_hu eh177 (Ne.symm (fresh_ne fad115 (g106))) (g168)
  have g182 : h177 ad94 = some (eA 0 24 (fun _ => vI 0)) := s_hu eh177 (Ne.symm (fresh_ne fad94 (g86))) (g169)
  have g183 : h177 ad75 = some (eA 0 24 (fun _ => vI 0)) := s_hu eh177 (Ne.symm (fresh_ne fad75 (g68))) (g170)
  have g184 : h177 ad58 = some (eA 0 24 (fun _ => vI 0)) := s_hu eh177 (Ne.symm (fresh_ne fad58 (g52))) (g171)
  have g185 : h177 ad43 = some (eA 0 5 (fun _ => vI 0)) := s_hu eh177 (Ne.symm (fresh_ne fad43 (g38))) (g172)
  have g186 : h177 ad30 = some (eA 0 5 (fun _ => vI 0)) := s_hu eh177 (Ne.symm (fresh_ne fad30 (g26))) (g173)
  have g187 : h177 ad19 = some (eA 1 5 (fun _ => vI 0)) := s_hu eh177 (Ne.symm (fresh_ne fad19 (g16))) (g174)
  have g188 : h177 ad10 = some (eA 1 5 (fun _ => vI 0)) := s_hu eh177 (Ne.symm (fresh_ne fad10 (g8))) (g175)
  have g189 : h177 ad3 = some (eA 0 5 (fun _ => vI 0)) := s_hu eh177 (Ne.symm (fresh_ne fad3 (g2))) (g176)
  have ndh177 := nd_put ndh164 eh177
  refine z_aload_n F dX9_init_93 rfl 0 rfl ?_
  refine z_bipush F dX9_init_94 (by decide) ?_
  refine z_newarr (kk := 0) (N := 120) (v0 := vI 0) (ty := .int) F rfl q115 rfl (fun C9 h9 => by cases h9) rfl rfl (by decide) (by decide) (Nat.le_of_ble_eq_true rfl) (Nat.le_of_ble_eq_true rfl) dX9_init_96 (fun ad190 fad190 => ?_)
  generalize eh191 : hu h177 ad190 (eA 0 120 (fun _ => vI 0)) = h191
  have g192 : h191 ad190 = some (eA 0 120 (fun _ => vI 0)) := by rw [← eh191]; exact hu_s _ _ _
  have g193 : h191 o = some (eO 14 [vI 0, vI 102, vI 0, vR ad3, vR ad10, vR ad19, vR ad30, vR ad43, vI 0, vR ad58, vR ad75, vR ad94, vR ad115, vR ad138, vR ad163, vN, vI 0, vN, vN, vN, vN, vN, vN, vN, vI 0, vN, vN, vN, vN, vI 0, vI 0]) := s_hu eh191 (fresh_ne fad190 (g178)) (g178)
  have g194 : h191 ad163 = some (eA 0 24 (fun _ => vI 0)) := s_hu eh191 (fresh_ne fad190 (g179)) (g179)
  have g195 : h191 ad138 = some (eA 0 24 (fun _ => vI 0)) := s_hu eh191 (fresh_ne fad190 (g180)) (g180)
  have g196 : h191 ad115 = some (eA 1 24 (fun _ => vI 0)) := s_hu eh191 (fresh_ne fad190 (g181)) (g181)
  have g197 : h191 ad94 = some (eA 0 24 (fun _ => vI 0)) := s_hu eh191 (fresh_ne fad190 (g182)) (g182)
  have g198 : h191 ad75 = some (eA 0 24 (fun _ => vI 0)) := s_hu eh191 (fresh_ne fad190 (g183)) (g183)
  have g199 : h191 ad58 = some (eA 0 24 (fun _ => vI 0)) := s_hu eh191 (fresh_ne fad190 (g184)) (g184)
  have g200 : h191 ad43 = some (eA 0 5 (fun _ => vI 0)) := s_hu eh191 (fresh_ne fad190 (g185)) (g185)
  have g201 : h191 ad30 = some (eA 0 5 (fun _ => vI 0)) := s_hu eh191 (fresh_ne fad190 (g186)) (g186)
  have g202 : h191 ad19 = some (eA 1 5 (fun _ => vI 0)) := s_hu eh191 (fresh_ne fad190 (g187)) (g187)
  have g203 : h191 ad10 = some (eA 1 5 (fun _ => vI 0)) := s_hu eh191 (fresh_ne fad190 (g188)) (g188)
  have g204 : h191 ad3 = some (eA 0 5 (fun _ => vI 0)) := s_hu eh191 (fresh_ne fad190 (g189)) (g189)
  have ndh191 := nd_push ndh177 fad190 eh191
  obtain ⟨h205, eh205⟩ : ∃ z : Hp, hu h191 o (eO 14 [vI 0, vI 102, vI 0, vR ad3, vR ad10, vR ad19, vR ad30, vR ad43, vI 0, vR ad58, vR ad75, vR ad94, vR ad115, vR ad138, vR ad163, vR ad190, vI 0, vN, vN, vN, vN, vN, vN, vN, vI 0, vN, vN, vN, vN, vI 0, vI 0]) = z := ⟨_, rfl⟩
  refine z_putF (fs := [vI 0, vI 102, vI 0, vR ad3, vR ad10, vR ad19, vR ad30, vR ad43, vI 0, vR ad58, vR ad75, vR ad94, vR ad115, vR ad138, vR ad163, vN, vI 0, vN, vN, vN, vN, vN, vN, vN, vI 0, vN, vN, vN, vN, vI 0, vI 0]) (fs' := [vI 0, vI 102, vI 0, vR ad3, vR ad10, vR ad19, vR ad30, vR ad43, vI 0, vR ad58, vR ad75, vR ad94, vR ad115, vR ad138, vR ad163, vR ad190, vI 0, vN, vN, vN, vN, vN, vN, vN, vI 0, vN, vN, vN, vN, vI 0, vI 0]) (h' := h205) F hnm g193 fX9_48 ftX9_15 (nf_a _ _) (Nat.le_of_ble_eq_true rfl) rfl (fun r9 h9 => by cases h9; rfl) dX9_init_98 eh205 ?_
  have g206 : h205 o = some (eO 14 [vI 0, vI 102, vI 0, vR ad3, vR ad10, vR ad19, vR ad30, vR ad43, vI 0, vR ad58, vR ad75, vR ad94, vR ad115, vR ad138, vR ad163, vR ad190, vI 0, vN, vN, vN, vN, vN, vN, vN, vI 0, vN, vN, vN, vN, vI 0, vI 0]) := by rw [← eh205]; exact hu_s _ _ _
  have g207 : h205 ad190 = some (eA 0 120 (fun _ => vI 0)) := s_hu eh205 (Ne.symm (fresh_ne fad190 (g178))) (g192)
  have g208 : h205 ad163 = some (eA 0 24 (fun _ => vI 0)) := s_hu eh205 (Ne.symm (fresh_ne fad163 (g152))) (g194)
  have g209 : h205 ad138 = some (eA 0 24 (fun _ => vI 0)) := s_hu eh205 (Ne.symm (fresh_ne fad138 (g128))) (g195)
  have g210 : h205 ad115 = some (eA 1 24 (fun _ => vI 0)) := s_hu eh205 (Ne.symm (fresh_ne fad115 (g106))) (g196)
  have g211 : h205 ad94 = some (eA 0 24 (fun _ => vI 0)) := s_hu eh205 (Ne.symm (fresh_ne fad94 (g86))) (g197)
  have g212 : h205 ad75 = some (eA 0 24 (fun _ => vI 0)) := s_hu eh205 (Ne.symm (fresh_ne fad75 (g68))) (g198)
  have g213 : h205 ad58 = some (eA 0 24 (fun _ => vI 0)) := s_hu eh205 (Ne.symm (fresh_ne fad58 (g52))) (g199)
  have g214 : h205 ad43 = some (eA 0 5 (fun _ => vI 0)) := s_hu eh205 (Ne.symm (fresh_ne fad43 (g38))) (g200)
  have g215 : h205 ad30 = some (eA 0 5 (fun _ => vI 0)) := s_hu eh205 (Ne.symm (fresh_ne fad30 (g26))) (g201)
  have g216 : h205 ad19 = some (eA 1 5 (fun _ => vI 0)) := s_hu eh205 (Ne.symm (fresh_ne fad19 (g16))) (g202)
  have g217 : h205 ad10 = some (eA 1 5 (fun _ => vI 0)) := s_hu eh205 (Ne.symm (fresh_ne fad10 (g8))) (g203)
  have g218 : h205 ad3 = some (eA 0 5 (fun _ => vI 0)) := s_hu eh205 (Ne.symm (fresh_ne fad3 (g2))) (g204)
  have ndh205 := nd_put ndh191 eh205
  refine z_aload_n F dX9_init_101 rfl 0 rfl ?_
  refine z_bipush F dX9_init_102 (by decide) ?_
  refine z_newarr (kk := 0) (N := 8) (v0 := vI 0) (ty := .int) F rfl q115 rfl (fun C9 h9 => by cases h9) rfl rfl (by decide) (by decide) (Nat.le_of_ble_eq_true rfl) (Nat.le_of_ble_eq_true rfl) dX9_init_104 (fun ad219 fad219 => ?_)
  generalize eh220 : hu h205 ad219 (eA 0 8 (fun _ => vI 0)) = h220
  have g221 : h220 ad219 = some (eA 0 8 (fun _ => vI 0)) := by rw [← eh220]; exact hu_s _ _ _
  have g222 : h220 o = some (eO 14 [vI 0, vI 102, vI 0, vR ad3, vR ad10, vR ad19, vR ad30, vR ad43, vI 0, vR ad58, vR ad75, vR ad94, vR ad115, vR ad138, vR ad163, vR ad190, vI 0, vN, vN, vN, vN, vN, vN, vN, vI 0, vN, vN, vN, vN, vI 0, vI 0]) := s_hu eh220 (fresh_ne fad219 (g206)) (g206)
  have g223 : h220 ad190 = some (eA 0 120 (fun _ => vI 0)) := s_hu eh220 (fresh_ne fad219 (g207)) (g207)
  have g224 : h220 ad163 = some (eA 0 24 (fun _ => vI 0)) := s_hu eh220 (fresh_ne fad219 (g208)) (g208)
  have g225 : h220 ad138 = some (eA 0 24 (fun _ => vI 0)) := s_hu eh220 (fresh_ne fad219 (g209)) (g209)
  have g226 : h220 ad115 = some (eA 1 24 (fun _ => vI 0)) := s_hu eh220 (fresh_ne fad219 (g210)) (g210)
  have g227 : h220 ad94 = some (eA 0 24 (fun _ => vI 0)) := s_hu eh220 (fresh_ne fad219 (g211)) (g211)
  have g228 : h220 ad75 = some (eA 0 24 (fun _ => vI 0)) := s_hu eh220 (fresh_ne fad219 (g212)) (g212)
  have g229 : h220 ad58 = some (eA 0 24 (fun _ => vI 0)) := s_hu eh220 (fresh_ne fad219 (g213)) (g213)
  have g230 : h220 ad43 = some (eA 0 5 (fun _ => vI 0)) := s_hu eh220 (fresh_ne fad219 (g214)) (g214)
  have g231 : h220 ad30 = some (eA 0 5 (fun _ => vI 0)) := s_hu eh220 (fresh_ne fad219 (g215)) (g215)
  have g232 : h220 ad19 = some (eA 1 5 (fun _ => vI 0)) := s_hu eh220 (fresh_ne fad219 (g216)) (g216)
  have g233 : h220 ad10 = some (eA 1 5 (fun _ => vI 0)) := s_hu eh220 (fresh_ne fad219 (g217)) (g217)
  have g234 : h220 ad3 = some (eA 0 5 (fun _ => vI 0)) := s_hu eh220 (fresh_ne fad219 (g218)) (g218)
  have ndh220 := nd_push ndh205 fad219 eh220
  obtain ⟨h235, eh235⟩ : ∃ z : Hp, hu h220 o (eO 14 [vI 0, vI 102, vI 0, vR ad3, vR ad10, vR ad19, vR ad30, vR ad43, vI 0, vR ad58, vR ad75, vR ad94, vR ad115, vR ad138, vR ad163, vR ad190, vI 0, vR ad219, vN, vN, vN, vN, vN, vN, vI 0, vN, vN, vN, vN, vI 0, vI 0]) = z := ⟨_, rfl⟩
  refine z_putF (fs := [vI 0, vI 102, vI 0, vR ad3, vR ad10, vR ad19, vR ad30, vR ad43, vI 0, vR ad58, vR ad75, vR ad94, vR ad115, vR ad138, vR ad163, vR ad190, vI 0, vN, vN, vN, vN, vN, vN, vN, vI 0, vN, vN, vN, vN, vI 0, vI 0]) (fs' := [vI 0, vI 102, vI 0, vR ad3, vR ad10, vR ad19, vR ad30, vR ad43, vI 0, vR ad58, vR ad75, vR ad94, vR ad115, vR ad138, vR ad163, vR ad190, vI 0, vR ad219, vN, vN, vN, vN, vN, vN, vI 0, vN, vN, vN, vN, vI 0, vI 0]) (h' := h235) F hnm g222 fX9_51 ftX9_17 (nf_a _ _) (Nat.le_of_ble_eq_true rfl) rfl (fun r9 h9 => by cases h9; rfl) dX9_init_106 eh235 ?_
  have g236 : h235 o = some (eO 14 [vI 0, vI 102, vI 0, vR ad3, vR ad10, vR ad19, vR ad30, vR ad43, vI 0, vR ad58, vR ad75, vR ad94, vR ad115, vR ad138, vR ad163, vR ad190, vI 0, vR ad219, vN, vN, vN, vN, vN, vN, vI 0, vN, vN, vN, vN, vI 0, vI 0]) := by rw [← eh235]; exact hu_s _ _ _
  have g237 : h235 ad219 = some (eA 0 8 (fun _ => vI 0)) := s_hu eh235 (Ne.symm (fresh_ne fad219 (g206))) (g221)
  have g238 : h235 ad190 = some (eA 0 120 (fun _ => vI 0)) := s_hu eh235 (Ne.symm (fresh_ne fad190 (g178))) (g223)
  have g239 : h235 ad163 = some (eA 0 24 (fun _ => vI 0)) := s_hu eh235 (Ne.symm (fresh_ne fad163 (g152))) (g224)
  have g240 : h235 ad138 = some (eA 0 24 (fun _ => vI 0)) := s_hu eh235 (Ne.symm (fresh_ne fad138 (g128))) (g225)
  have g241 : h235 ad115 = some (eA 1 24 (fun _ => vI 0)) := s_hu eh235 (Ne.symm (fresh_ne fad115 (g106))) (g226)
  have g242 : h235 ad94 = some (eA 0 24 (fun _ => vI 0)) := s_hu eh235 (Ne.symm (fresh_ne fad94 (g86))) (g227)
  have g243 : h235 ad75 = some (eA 0 24 (fun _ => vI 0)) := s_hu eh235 (Ne.symm (fresh_ne fad75 (g68))) (g228)
  have g244 : h235 ad58 = some (eA 0 24 (fun _ => vI 0)) := s_hu eh235 (Ne.symm (fresh_ne fad58 (g52))) (g229)
  have g245 : h235 ad43 = some (eA 0 5 (fun _ => vI 0)) := s_hu eh235 (Ne.symm (fresh_ne fad43 (g38))) (g230)
  have g246 : h235 ad30 = some (eA 0 5 (fun _ => vI 0)) := s_hu eh235 (Ne.symm (fresh_ne fad30 (g26))) (g231)
  have g247 : h235 ad19 = some (eA 1 5 (fun _ => vI 0)) := s_hu eh235 (Ne.symm (fresh_ne fad19 (g16))) (g232)
  have g248 : h235 ad10 = some (eA 1 5 (fun _ => vI 0)) := s_hu eh235 (Ne.symm (fresh_ne fad10 (g8))) (g233)
  have g249 : h235 ad3 = some (eA 0 5 (fun _ => vI 0)) := s_hu eh235 (Ne.symm (fresh_ne fad3 (g2))) (g234)
  have ndh235 := nd_put ndh220 eh235
  refine z_aload_n F dX9_init_109 rfl 0 rfl ?_
  refine z_bipush F dX9_init_110 (by decide) ?_
  refine z_newarr (kk := 0) (N := 8) (v0 := vI 0) (ty := .int) F rfl q115 rfl (fun C9 h9 => by cases h9) rfl rfl (by decide) (by decide) (Nat.le_of_ble_eq_true rfl) (Nat.le_of_ble_eq_true rfl) dX9_init_112 (fun ad250 fad250 => ?_)
  generalize eh251 : hu h235 ad250 (eA 0 8 (fun _ => vI 0)) = h251
  have g252 : h251 ad250 = some (eA 0 8 (fun _ => vI 0)) := by rw [← eh251]; exact hu_s _ _ _
  have g253 : h251 o = some (eO 14 [vI 0, vI 102, vI 0, vR ad3, vR ad10, vR ad19, vR ad30, vR ad43, vI 0, vR ad58, vR ad75, vR ad94, vR ad115, vR ad138, vR ad163, vR ad190, vI 0, vR ad219, vN, vN, vN, vN, vN, vN, vI 0, vN, vN, vN, vN, vI 0, vI 0]) := s_hu eh251 (fresh_ne fad250 (g236)) (g236)
  have g254 : h251 ad219 = some (eA 0 8 (fun _ => vI 0)) := s_hu eh251 (fresh_ne fad250 (g237)) (g237)
  have g255 : h251 ad190 = some (eA 0 120 (fun _ => vI 0)) := s_hu eh251 (fresh_ne fad250 (g238)) (g238)
  have g256 : h251 ad163 = some (eA 0 24 (fun _ => vI 0)) := s_hu eh251 (fresh_ne fad250 (g239)) (g239)
  have g257 : h251 ad138 = some (eA 0 24 (fun _ => vI 0)) := s_hu eh251 (fresh_ne fad250 (g240)) (g240)
  have g258 : h251 ad115 = some (eA 1 24 (fun _ => vI 0)) := s_hu eh251 (fresh_ne fad250 (g241)) (g241)
  have g259 : h251 ad94 = some (eA 0 24 (fun _ => vI 0)) := s_hu eh251 (fresh_ne fad250 (g242)) (g242)
  have g260 : h251 ad75 = some (eA 0 24 (fun _ => vI 0)) := s_hu eh251 (fresh_ne fad250 (g243)) (g243)
  have g261 : h251 ad58 = some (eA 0 24 (fun _ => vI 0)) := s_hu eh251 (fresh_ne fad250 (g244)) (g244)
  have g262 : h251 ad43 = some (eA 0 5 (fun _ => vI 0)) := s_hu eh251 (fresh_ne fad250 (g245)) (g245)
  have g263 : h251 ad30 = some (eA 0 5 (fun _ => vI 0)) := s_hu eh251 (fresh_ne fad250 (g246)) (g246)
  have g264 : h251 ad19 = some (eA 1 5 (fun _ => vI 0)) := s_hu eh251 (fresh_ne fad250 (g247)) (g247)
  have g265 : h251 ad10 = some (eA 1 5 (fun _ => vI 0)) := s_hu eh251 (fresh_ne fad250 (g248)) (g248)
  have g266 : h251 ad3 = some (eA 0 5 (fun _ => vI 0)) := s_hu eh251 (fresh_ne fad250 (g249)) (g249)
  have ndh251 := nd_push ndh235 fad250 eh251
  obtain ⟨h267, eh267⟩ : ∃ z : Hp, hu h251 o (eO 14 [vI 0, vI 102, vI 0, vR ad3, vR ad10, vR ad19, vR ad30, vR ad43, vI 0, vR ad58, vR ad75, vR ad94, vR ad115, vR ad138, vR ad163, vR ad190, vI 0, vR ad219, vR ad250, vN, vN, vN, vN, vN, vI 0, vN, vN, vN, vN, vI 0, vI 0]) = z := ⟨_, rfl⟩
  refine z_putF (fs := [vI 0, vI 102, vI 0, vR ad3, vR ad10, vR ad19, vR ad30, vR ad43, vI 0, vR ad58, vR ad75, vR ad94, vR ad115, vR ad138, vR ad163, vR ad190, vI 0, vR ad219, vN, vN, vN, vN, vN, vN, vI 0, vN, vN, vN, vN, vI 0, vI 0]) (fs' := [vI 0, vI 102, vI 0, vR ad3, vR ad10, vR ad19, vR ad30, vR ad43, vI 0, vR ad58, vR ad75, vR ad94, vR ad115, vR ad138, vR ad163, vR ad190, vI 0, vR ad219, vR ad250, vN, vN, vN, vN, vN, vI 0, vN, vN, vN, vN, vI 0, vI 0]) (h' := h267) F hnm g253 fX9_54 ftX9_18 (nf_a _ _) (Nat.le_of_ble_eq_true rfl) rfl (fun r9 h9 => by cases h9; rfl) dX9_init_114 eh267 ?_
  have g268 : h267 o = some (eO 14 [vI 0, vI 102, vI 0, vR ad3, vR ad10, vR ad19, vR ad30, vR ad43, vI 0, vR ad58, vR ad75, vR ad94, vR ad115, vR ad138, vR ad163, vR ad190, vI 0, vR ad219, vR ad250, vN, vN, vN, vN, vN, vI 0, vN, vN, vN, vN, vI 0, vI 0]) := by rw [← eh267]; exact hu_s _ _ _
  have g269 : h267 ad250 = some (eA 0 8 (fun _ => vI 0)) := s_hu eh267 (Ne.symm (fresh_ne fad250 (g236))) (g252)
  have g270 : h267 ad219 = some (eA 0 8 (fun _ => vI 0)) := s_hu eh267 (Ne.symm (fresh_ne fad219 (g206))) (g254)
  have g271 : h267 ad190 = some (eA 0 120 (fun _ => vI 0)) := s_hu eh267 (Ne.symm (fresh_ne fad190 (g178))) (g255)
  have g272 : h267 ad163 = some (eA 0 24 (fun _ => vI 0)) := s_hu eh267 (Ne.symm (fresh_ne fad163 (g152))) (g256)
  have g273 : h267 ad138 = some (eA 0 24 (fun _ => vI 0)) := s_hu eh267 (Ne.symm (fresh_ne fad138 (g128))) (g257)
  have g274 : h267 ad115 = some (eA 1 24 (fun _ => vI 0)) := s_hu eh267 (Ne.symm (fresh_ne fad115 (g106))) (g258)
  have g275 : h267 ad94 = some (eA 0 24 (fun _ => vI 0)) := s_hu eh267 (Ne.symm (fresh_ne fad94 (g86))) (g259)
  have g276 : h267 ad75 = some (eA 0 24 (fun _ => vI 0)) := s_hu eh267 (Ne.symm (fresh_ne fad75 (g68))) (g260)
  have g277 : h267 ad58 = some (eA 0 24 (fun _ => vI 0)) := s_hu eh267 (Ne.symm (fresh_ne fad58 (g52))) (g261)
  have g278 : h267 ad43 = some (eA 0 5 (fun _ => vI 0)) := s_hu eh267 (Ne.symm (fresh_ne fad43 (g38))) (g262)
  have g279 : h267 ad30 = some (eA 0 5 (fun _ => vI 0)) := s_hu eh267 (Ne.symm (fresh_ne fad30 (g26))) (g263)
  have g280 : h267 ad19 = some (eA 1 5 (fun _ => vI 0)) := s_hu eh267 (Ne.symm (fresh_ne fad19 (g16))) (g264)
  have g281 : h267 ad10 = some (eA 1 5 (fun _ => vI 0)) := s_hu eh267 (Ne.symm (fresh_ne fad10 (g8))) (g265)
  have g282 : h267 ad3 = some (eA 0 5 (fun _ => vI 0)) := s_hu eh267 (Ne.symm (fresh_ne fad3 (g2))) (g266)
  have ndh267 := nd_put ndh251 eh267
  refine z_aload_n F dX9_init_117 rfl 0 rfl ?_
  refine z_sipush F dX9_init_118 (by decide) ?_
  refine z_newarr (kk := 1) (N := 320) (v0 := vI 0) (ty := .char) F rfl q1569 rfl (fun C9 h9 => by cases h9) rfl rfl (by decide) (by decide) (Nat.le_of_ble_eq_true rfl) (Nat.le_of_ble_eq_true rfl) dX9_init_121 (fun ad283 fad283 => ?_)
  generalize eh284 : hu h267 ad283 (eA 1 320 (fun _ => vI 0)) = h284
  have g285 : h284 ad283 = some (eA 1 320 (fun _ => vI 0)) := by rw [← eh284]; exact hu_s _ _ _
  have g286 : h284 o = some (eO 14 [vI 0, vI 102, vI 0, vR ad3, vR ad10, vR ad19, vR ad30, vR ad43, vI 0, vR ad58, vR ad75, vR ad94, vR ad115, vR ad138, vR ad163, vR ad190, vI 0, vR ad219, vR ad250, vN, vN, vN, vN, vN, vI 0, vN, vN, vN, vN, vI 0, vI 0]) := s_hu eh284 (fresh_ne fad283 (g268)) (g268)
  have g287 : h284 ad250 = some (eA 0 8 (fun _ => vI 0)) := s_hu eh284 (fresh_ne fad283 (g269)) (g269)
  have g288 : h284 ad219 = some (eA 0 8 (fun _ => vI 0)) := s_hu eh284 (fresh_ne fad283 (g270)) (g270)
  have g289 : h284 ad190 = some (eA 0 120 (fun _ => vI 0)) := s_hu eh284 (fresh_ne fad283 (g271)) (g271)
  have g290 : h284 ad163 = some (eA 0 24 (fun _ => vI 0)) := s_hu eh284 (fresh_ne fad283 (g272)) (g272)
  have g291 : h284 ad138 = some (eA 0 24 (fun _ => vI 0)) := s_hu eh284 (fresh_ne fad283 (g273)) (g273)
  have g292 : h284 ad115 = some (eA 1 24 (fun _ => vI 0)) := s_hu eh284 (fresh_ne fad283 (g274)) (g274)
  have g293 : h284 ad94 = some (eA 0 24 (fun _ => vI 0)) := s_hu eh284 (fresh_ne fad283 (g275)) (g275)
  have g294 : h284 ad75 = some (eA 0 24 (fun _ => vI 0)) := s_hu eh284 (fresh_ne fad283 (g276)) (g276)
  have g295 : h284 ad58 = some (eA 0 24 (fun _ => vI 0)) := s_hu eh284 (fresh_ne fad283 (g277)) (g277)
  have g296 : h284 ad43 = some (eA 0 5 (fun _ => vI 0)) := s_hu eh284 (fresh_ne fad283 (g278)) (g278)
  have g297 : h284 ad30 = some (eA 0 5 (fun _ => vI 0)) := s_hu eh284 (fresh_ne fad283 (g279)) (g279)
  have g298 : h284 ad19 = some (eA 1 5 (fun _ => vI 0)) := s_hu eh284 (fresh_ne fad283 (g280)) (g280)
  have g299 : h284 ad10 = some (eA 1 5 (fun _ => vI 0)) := s_hu eh284 (fresh_ne fad283 (g281)) (g281)
  have g300 : h284 ad3 = some (eA 0 5 (fun _ => vI 0)) := s_hu eh284 (fresh_ne fad283 (g282)) (g282)
  have ndh284 := nd_push ndh267 fad283 eh284
  obtain ⟨h301, eh301⟩ : ∃ z : Hp, hu h284 o (eO 14 [vI 0, vI 102, vI 0, vR ad3, vR ad10, vR ad19, vR ad30, vR ad43, vI 0, vR ad58, vR ad75, vR ad94, vR ad115, vR ad138, vR ad163, vR ad190, vI 0, vR ad219, vR ad250, vR ad283, vN, vN, vN, vN, vI 0, vN, vN, vN, vN, vI 0, vI 0]) = z := ⟨_, rfl⟩
  refine z_putF (fs := [vI 0, vI 102, vI 0, vR ad3, vR ad10, vR ad19, vR ad30, vR ad43, vI 0, vR ad58, vR ad75, vR ad94, vR ad115, vR ad138, vR ad163, vR ad190, vI 0, vR ad219, vR ad250, vN, vN, vN, vN, vN, vI 0, vN, vN, vN, vN, vI 0, vI 0]) (fs' := [vI 0, vI 102, vI 0, vR ad3, vR ad10, vR ad19, vR ad30, vR ad43, vI 0, vR ad58, vR ad75, vR ad94, vR ad115, vR ad138, vR ad163, vR ad190, vI 0, vR ad219, vR ad250, vR ad283, vN, vN, vN, vN, vI 0, vN, vN, vN, vN, vI 0, vI 0]) (h' := h301) F hnm g286 fX9_57 ftX9_19 (nf_a _ _) (Nat.le_of_ble_eq_true rfl) rfl (fun r9 h9 => by cases h9; rfl) dX9_init_123 eh301 ?_
  have g302 : h301 o = some (eO 14 [vI 0, vI 102, vI 0, vR ad3, vR ad10, vR ad19, vR ad30, vR ad43, vI 0, vR ad58, vR ad75, vR ad94, vR ad115, vR ad138, vR ad163, vR ad190, vI 0, vR ad219, vR ad250, vR ad283, vN, vN, vN, vN, vI 0, vN, vN, vN, vN, vI 0, vI 0]) := by rw [← eh301]; exact hu_s _ _ _
  have g303 : h301 ad283 = some (eA 1 320 (fun _ => vI 0)) := s_hu eh301 (Ne.symm (fresh_ne fad283 (g268))) (g285)
  have g304 : h301 ad250 = some (eA 0 8 (fun _ => vI 0)) := s_hu eh301 (Ne.symm (fresh_ne fad250 (g236))) (g287)
  have g305 : h301 ad219 = some (eA 0 8 (fun _ => vI 0)) := s_hu eh301 (Ne.symm (fresh_ne fad219 (g206))) (g288)
  have g306 : h301 ad190 = some (eA 0 120 (fun _ => vI 0)) := s_hu eh301 (Ne.symm (fresh_ne fad190 (g178))) (g289)
  have g307 : h301 ad163 = some (eA 0 24 (fun _ => vI 0)) := s_hu eh301 (Ne.symm (fresh_ne fad163 (g152))) (g290)
  have g308 : h301 ad138 = some (eA 0 24 (fun _ => vI 0)) := s_hu eh301 (Ne.symm (fresh_ne fad138 (g128))) (g291)
  have g309 : h301 ad115 = some (eA 1 24 (fun _ => vI 0)) := s_hu eh301 (Ne.symm (fresh_ne fad115 (g106))) (g292)
  have g310 : h301 ad94 = some (eA 0 24 (fun _ => vI 0)) := s_hu eh301 (Ne.symm (fresh_ne fad94 (g86))) (g293)
  have g311 : h301 ad75 = some (eA 0 24 (fun _ => vI 0)) := s_hu eh301 (Ne.symm (fresh_ne fad75 (g68))) (g294)
  have g312 : h301 ad58 = some (eA 0 24 (fun _ => vI 0)) := s_hu eh301 (Ne.symm (fresh_ne fad58 (g52))) (g295)
  have g313 : h301 ad43 = some (eA 0 5 (fun _ => vI 0)) := s_hu eh301 (Ne.symm (fresh_ne fad43 (g38))) (g296)
  have g314 : h301 ad30 = some (eA 0 5 (fun _ => vI 0)) := s_hu eh301 (Ne.symm (fresh_ne fad30 (g26))) (g297)
  have g315 : h301 ad19 = some (eA 1 5 (fun _ => vI 0)) := s_hu eh301 (Ne.symm (fresh_ne fad19 (g16))) (g298)
  have g316 : h301 ad10 = some (eA 1 5 (fun _ => vI 0)) := s_hu eh301 (Ne.symm (fresh_ne fad10 (g8))) (g299)
  have g317 : h301 ad3 = some (eA 0 5 (fun _ => vI 0)) := s_hu eh301 (Ne.symm (fresh_ne fad3 (g2))) (g300)
  have ndh301 := nd_put ndh284 eh301
  refine z_aload_n F dX9_init_126 rfl 0 rfl ?_
  refine z_sipush F dX9_init_127 (by decide) ?_
  refine z_newarr (kk := 0) (N := 320) (v0 := vI 0) (ty := .int) F rfl q115 rfl (fun C9 h9 => by cases h9) rfl rfl (by decide) (by decide) (Nat.le_of_ble_eq_true rfl) (Nat.le_of_ble_eq_true rfl) dX9_init_130 (fun ad318 fad318 => ?_)
  generalize eh319 : hu h301 ad318 (eA 0 320 (fun _ => vI 0)) = h319
  have g320 : h319 ad318 = some (eA 0 320 (fun _ => vI 0)) := by rw [← eh319]; exact hu_s _ _ _
  have g321 : h319 o = some (eO 14 [vI 0, vI 102, vI 0, vR ad3, vR ad10, vR ad19, vR ad30, vR ad43, vI 0, vR ad58, vR ad75, vR ad94, vR ad115, vR ad138, vR ad163, vR ad190, vI 0, vR ad219, vR ad250, vR ad283, vN, vN, vN, vN, vI 0, vN, vN, vN, vN, vI 0, vI 0]) := s_hu eh319 (fresh_ne fad318 (g302)) (g302)
  have g322 : h319 ad283 = some (eA 1 320 (fun _ => vI 0)) := s_hu eh319 (fresh_ne fad318 (g303)) (g303)
  have g323 : h319 ad250 = some (eA 0 8 (fun _ => vI 0)) := s_hu eh319 (fresh_ne fad318 (g304)) (g304)
  have g324 : h319 ad219 = some (eA 0 8 (fun _ => vI 0)) := s_hu eh319 (fresh_ne fad318 (g305)) (g305)
  have g325 : h319 ad190 = some (eA 0 120 (fun _ => vI 0)) := s_hu eh319 (fresh_ne fad318 (g306)) (g306)
  have g326 : h319 ad163 = some (eA 0 24 (fun _ => vI 0)) := s_hu eh319 (fresh_ne fad318 (g307)) (g307)
  have g327 : h319 ad138 = some (eA 0 24 (fun _ => vI 0)) := s_hu eh319 (fresh_ne fad318 (g308)) (g308)
  have g328 : h319 ad115 = some (eA 1 24 (fun _ => vI 0)) := s_hu eh319 (fresh_ne fad318 (g309)) (g309)
  have g329 : h319 ad94 = some (eA 0 24 (fun _ => vI 0)) := s_hu eh319 (fresh_ne fad318 (g310)) (g310)
  have g330 : h319 ad75 = some (eA 0 24 (fun _ => vI 0)) := s_hu eh319 (fresh_ne fad318 (g311)) (g311)
  have g331 : h319 ad58 = some (eA 0 24 (fun _ => vI 0)) := s_hu eh319 (fresh_ne fad318 (g312)) (g312)
  have g332 : h319 ad43 = some (eA 0 5 (fun _ => vI 0)) := s_hu eh319 (fresh_ne fad318 (g313)) (g313)
  have g333 : h319 ad30 = some (eA 0 5 (fun _ => vI 0)) := s_hu eh319 (fresh_ne fad318 (g314)) (g314)
  have g334 : h319 ad19 = some (eA 1 5 (fun _ => vI 0)) := s_hu eh319 (fresh_ne fad318 (g315)) (g315)
  have g335 : h319 ad10 = some (eA 1 5 (fun _ => vI 0)) := s_hu eh319 (fresh_ne fad318 (g316)) (g316)
  have g336 : h319 ad3 = some (eA 0 5 (fun _ => vI 0)) := s_hu eh319 (fresh_ne fad318 (g317)) (g317)
  have ndh319 := nd_push ndh301 fad318 eh319
  obtain ⟨h337, eh337⟩ : ∃ z : Hp, hu h319 o (eO 14 [vI 0, vI 102, vI 0, vR ad3, vR ad10, vR ad19, vR ad30, vR ad43, vI 0, vR ad58, vR ad75, vR ad94, vR ad115, vR ad138, vR ad163, vR ad190, vI 0, vR ad219, vR ad250, vR ad283, vR ad318, vN, vN, vN, vI 0, vN, vN, vN, vN, vI 0, vI 0]) = z := ⟨_, rfl⟩
  refine z_putF (fs := [vI 0, vI 102, vI 0, vR ad3, vR ad10, vR ad19, vR ad30, vR ad43, vI 0, vR ad58, vR ad75, vR ad94, vR ad115, vR ad138, vR ad163, vR ad190, vI 0, vR ad219, vR ad250, vR ad283, vN, vN, vN, vN, vI 0, vN, vN, vN, vN, vI 0, vI 0]) (fs' := [vI 0, vI 102, vI 0, vR ad3, vR ad10, vR ad19, vR ad30, vR ad43, vI 0, vR ad58, vR ad75, vR ad94, vR ad115, vR ad138, vR ad163, vR ad190, vI 0, vR ad219, vR ad250, vR ad283, vR ad318, vN, vN, vN, vI 0, vN, vN, vN, vN, vI 0, vI 0]) (h' := h337) F hnm g321 fX9_60 ftX9_20 (nf_a _ _) (Nat.le_of_ble_eq_true rfl) rfl (fun r9 h9 => by cases h9; rfl) dX9_init_132 eh337 ?_
  have g338 : h337 o = some (eO 14 [vI 0, vI 102, vI 0, vR ad3, vR ad10, vR ad19, vR ad30, vR ad43, vI 0, vR ad58, vR ad75, vR ad94, vR ad115, vR ad138, vR ad163, vR ad190, vI 0, vR ad219, vR ad250, vR ad283, vR ad318, vN, vN, vN, vI 0, vN, vN, vN, vN, vI 0, vI 0]) := by rw [← eh337]; exact hu_s _ _ _
  have g339 : h337 ad318 = some (eA 0 320 (fun _ => vI 0)) := s_hu eh337 (Ne.symm (fresh_ne fad318 (g302))) (g320)
  have g340 : h337 ad283 = some (eA 1 320 (fun _ => vI 0)) := s_hu eh337 (Ne.symm (fresh_ne fad283 (g268))) (g322)
  have g341 : h337 ad250 = some (eA 0 8 (fun _ => vI 0)) := s_hu eh337 (Ne.symm (fresh_ne fad250 (g236))) (g323)
  have g342 : h337 ad219 = some (eA 0 8 (fun _ => vI 0)) := s_hu eh337 (Ne.symm (fresh_ne fad219 (g206))) (g324)
  have g343 : h337 ad190 = some (eA 0 120 (fun _ => vI 0)) := s_hu eh337 (Ne.symm (fresh_ne fad190 (g178))) (g325)
  have g344 : h337 ad163 = some (eA 0 24 (fun _ => vI 0)) := s_hu eh337 (Ne.symm (fresh_ne fad163 (g152))) (g326)
  have g345 : h337 ad138 = some (eA 0 24 (fun _ => vI 0)) := s_hu eh337 (Ne.symm (fresh_ne fad138 (g128))) (g327)
  have g346 : h337 ad115 = some (eA 1 24 (fun _ => vI 0)) := s_hu eh337 (Ne.symm (fresh_ne fad115 (g106))) (g328)
  have g347 : h337 ad94 = some (eA 0 24 (fun _ => vI 0)) := s_hu eh337 (Ne.symm (fresh_ne fad94 (g86))) (g329)
  have g348 : h337 ad75 = some (eA 0 24 (fun _ => vI 0)) := s_hu eh337 (Ne.symm (fresh_ne fad75 (g68))) (g330)
  have g349 : h337 ad58 = some (eA 0 24 (fun _ => vI 0)) := s_hu eh337 (Ne.symm (fresh_ne fad58 (g52))) (g331)
  have g350 : h337 ad43 = some (eA 0 5 (fun _ => vI 0)) := s_hu eh337 (Ne.symm (fresh_ne fad43 (g38))) (g332)
  have g351 : h337 ad30 = some (eA 0 5 (fun _ => vI 0)) := s_hu eh337 (Ne.symm (fresh_ne fad30 (g26))) (g333)
  have g352 : h337 ad19 = some (eA 1 5 (fun _ => vI 0)) := s_hu eh337 (Ne.symm (fresh_ne fad19 (g16))) (g334)
  have g353 : h337 ad10 = some (eA 1 5 (fun _ => vI 0)) := s_hu eh337 (Ne.symm (fresh_ne fad10 (g8))) (g335)
  have g354 : h337 ad3 = some (eA 0 5 (fun _ => vI 0)) := s_hu eh337 (Ne.symm (fresh_ne fad3 (g2))) (g336)
  have ndh337 := nd_put ndh319 eh337
  refine z_aload_n F dX9_init_135 rfl 0 rfl ?_
  refine z_sipush F dX9_init_136 (by decide) ?_
  refine z_newarr (kk := 0) (N := 320) (v0 := vI 0) (ty := .int) F rfl q115 rfl (fun C9 h9 => by cases h9) rfl rfl (by decide) (by decide) (Nat.le_of_ble_eq_true rfl) (Nat.le_of_ble_eq_true rfl) dX9_init_139 (fun ad355 fad355 => ?_)
  generalize eh356 : hu h337 ad355 (eA 0 320 (fun _ => vI 0)) = h356
  have g357 : h356 ad355 = some (eA 0 320 (fun _ => vI 0)) := by rw [← eh356]; exact hu_s _ _ _
  have g358 : h356 o = some (eO 14 [vI 0, vI 102, vI 0, vR ad3, vR ad10, vR ad19, vR ad30, vR ad43, vI 0, vR ad58, vR ad75, vR ad94, vR ad115, vR ad138, vR ad163, vR ad190, vI 0, vR ad219, vR ad250, vR ad283, vR ad318, vN, vN, vN, vI 0, vN, vN, vN, vN, vI 0, vI 0]) := s_hu eh356 (fresh_ne fad355 (g338)) (g338)
  have g359 : h356 ad318 = some (eA 0 320 (fun _ => vI 0)) := s_hu eh356 (fresh_ne fad355 (g339)) (g339)
  have g360 : h356 ad283 = some (eA 1 320 (fun _ => vI 0)) := s_hu eh356 (fresh_ne fad355 (g340)) (g340)
  have g361 : h356 ad250 = some (eA 0 8 (fun _ => vI 0)) := s_hu eh356 (fresh_ne fad355 (g341)) (g341)
  have g362 : h356 ad219 = some (eA 0 8 (fun _ => vI 0)) := s_hu eh356 (fresh_ne fad355 (g342)) (g342)
  have g363 : h356 ad190 = some (eA 0 120 (fun _ => vI 0)) := s_hu eh356 (fresh_ne fad355 (g343)) (g343)
  have g364 : h356 ad163 = some (eA 0 24 (fun _ => vI 0)) := s_hu eh356 (fresh_ne fad355 (g344)) (g344)
  have g365 : h356 ad138 = some (eA 0 24 (fun _ => vI 0)) := s_hu eh356 (fresh_ne fad355 (g345)) (g345)
  have g366 : h356 ad115 = some (eA 1 24 (fun _ => vI 0)) := s_hu eh356 (fresh_ne fad355 (g346)) (g346)
  have g367 : h356 ad94 = some (eA 0 24 (fun _ => vI 0)) := s_hu eh356 (fresh_ne fad355 (g347)) (g347)
  have g368 : h356 ad75 = some (eA 0 24 (fun _ => vI 0)) := s_hu eh356 (fresh_ne fad355 (g348)) (g348)
  have g369 : h356 ad58 = some (eA 0 24 (fun _ => vI 0)) := s_hu eh356 (fresh_ne fad355 (g349)) (g349)
  have g370 : h356 ad43 = some (eA 0 5 (fun _ => vI 0)) := s_hu eh356 (fresh_ne fad355 (g350)) (g350)
  have g371 : h356 ad30 = some (eA 0 5 (fun _ => vI 0)) := s_hu eh356 (fresh_ne fad355 (g351)) (g351)
  have g372 : h356 ad19 = some (eA 1 5 (fun _ => vI 0)) := s_hu eh356 (fresh_ne fad355 (g352)) (g352)
  have g373 : h356 ad10 = some (eA 1 5 (fun _ => vI 0)) := s_hu eh356 (fresh_ne fad355 (g353)) (g353)
  have g374 : h356 ad3 = some (eA 0 5 (fun _ => vI 0)) := s_hu eh356 (fresh_ne fad355 (g354)) (g354)
  have ndh356 := nd_push ndh337 fad355 eh356
  obtain ⟨h375, eh375⟩ : ∃ z : Hp, hu h356 o (eO 14 [vI 0, vI 102, vI 0, vR ad3, vR ad10, vR ad19, vR ad30, vR ad43, vI 0, vR ad58, vR ad75, vR ad94, vR ad115, vR ad138, vR ad163, vR ad190, vI 0, vR ad219, vR ad250, vR ad283, vR ad318, vR ad355, vN, vN, vI 0, vN, vN, vN, vN, vI 0, vI 0]) = z := ⟨_, rfl⟩
  refine z_putF (fs := [vI 0, vI 102, vI 0, vR ad3, vR ad10, vR ad19, vR ad30, vR ad43, vI 0, vR ad58, vR ad75, vR ad94, vR ad115, vR ad138, vR ad163, vR ad190, vI 0, vR ad219, vR ad250, vR ad283, vR ad318, vN, vN, vN, vI 0, vN, vN, vN, vN, vI 0, vI 0]) (fs' := [vI 0, vI 102, vI 0, vR ad3, vR ad10, vR ad19, vR ad30, vR ad43, vI 0, vR ad58, vR ad75, vR ad94, vR ad115, vR ad138, vR ad163, vR ad190, vI 0, vR ad219, vR ad250, vR ad283, vR ad318, vR ad355, vN, vN, vI 0, vN, vN, vN, vN, vI 0, vI 0]) (h' := h375) F hnm g358 fX9_63 ftX9_21 (nf_a _ _) (Nat.le_of_ble_eq_true rfl) rfl (fun r9 h9 => by cases h9; rfl) dX9_init_141 eh375 ?_
  have g376 : h375 o = some (eO 14 [vI 0, vI 102, vI 0, vR ad3, vR ad10, vR ad19, vR ad30, vR ad43, vI 0, vR ad58, vR ad75, vR ad94, vR ad115, vR ad138, vR ad163, vR ad190, vI 0, vR ad219, vR ad250, vR ad283, vR ad318, vR ad355, vN, vN, vI 0, vN, vN, vN, vN, vI 0, vI 0]) := by rw [← eh375]; exact hu_s _ _ _
  have g377 : h375 ad355 = some (eA 0 320 (fun _ => vI 0)) := s_hu eh375 (Ne.symm (fresh_ne fad355 (g338))) (g357)
  have g378 : h375 ad318 = some (eA 0 320 (fun _ => vI 0)) := s_hu eh375 (Ne.symm (fresh_ne fad318 (g302))) (g359)
  have g379 : h375 ad283 = some (eA 1 320 (fun _ => vI 0)) := s_hu eh375 (Ne.symm (fresh_ne fad283 (g268))) (g360)
  have g380 : h375 ad250 = some (eA 0 8 (fun _ => vI 0)) := s_hu eh375 (Ne.symm (fresh_ne fad250 (g236))) (g361)
  have g381 : h375 ad219 = some (eA 0 8 (fun _ => vI 0)) := s_hu eh375 (Ne.symm (fresh_ne fad219 (g206))) (g362)
  have g382 : h375 ad190 = some (eA 0 120 (fun _ => vI 0)) := s_hu eh375 (Ne.symm (fresh_ne fad190 (g178))) (g363)
  have g383 : h375 ad163 = some (eA 0 24 (fun _ => vI 0)) := s_hu eh375 (Ne.symm (fresh_ne fad163 (g152))) (g364)
  have g384 : h375 ad138 = some (eA 0 24 (fun _ => vI 0)) := s_hu eh375 (Ne.symm (fresh_ne fad138 (g128))) (g365)
  have g385 : h375 ad115 = some (eA 1 24 (fun _ => vI 0)) := s_hu eh375 (Ne.symm (fresh_ne fad115 (g106))) (g366)
  have g386 : h375 ad94 = some (eA 0 24 (fun _ => vI 0)) := s_hu eh375 (Ne.symm (fresh_ne fad94 (g86))) (g367)
  have g387 : h375 ad75 = some (eA 0 24 (fun _ => vI 0)) := s_hu eh375 (Ne.symm (fresh_ne fad75 (g68))) (g368)
  have g388 : h375 ad58 = some (eA 0 24 (fun _ => vI 0)) := s_hu eh375 (Ne.symm (fresh_ne fad58 (g52))) (g369)
  have g389 : h375 ad43 = some (eA 0 5 (fun _ => vI 0)) := s_hu eh375 (Ne.symm (fresh_ne fad43 (g38))) (g370)
  have g390 : h375 ad30 = some (eA 0 5 (fun _ => vI 0)) := s_hu eh375 (Ne.symm (fresh_ne fad30 (g26))) (g371)
  have g391 : h375 ad19 = some (eA 1 5 (fun _ => vI 0)) := s_hu eh375 (Ne.symm (fresh_ne fad19 (g16))) (g372)
  have g392 : h375 ad10 = some (eA 1 5 (fun _ => vI 0)) := s_hu eh375 (Ne.symm (fresh_ne fad10 (g8))) (g373)
  have g393 : h375 ad3 = some (eA 0 5 (fun _ => vI 0)) := s_hu eh375 (Ne.symm (fresh_ne fad3 (g2))) (g374)
  have ndh375 := nd_put ndh356 eh375
  refine z_aload_n F dX9_init_144 rfl 0 rfl ?_
  refine z_sipush F dX9_init_145 (by decide) ?_
  refine z_newarr (kk := 2) (N := 320) (v0 := vF 0) (ty := .float) F rfl q1570 rfl (fun C9 h9 => by cases h9) rfl rfl (by decide) (by decide) (Nat.le_of_ble_eq_true rfl) (Nat.le_of_ble_eq_true rfl) dX9_init_148 (fun ad394 fad394 => ?_)
  generalize eh395 : hu h375 ad394 (eA 2 320 (fun _ => vF 0)) = h395
  have g396 : h395 ad394 = some (eA 2 320 (fun _ => vF 0)) := by rw [← eh395]; exact hu_s _ _ _
  have g397 : h395 o = some (eO 14 [vI 0, vI 102, vI 0, vR ad3, vR ad10, vR ad19, vR ad30, vR ad43, vI 0, vR ad58, vR ad75, vR ad94, vR ad115, vR ad138, vR ad163, vR ad190, vI 0, vR ad219, vR ad250, vR ad283, vR ad318, vR ad355, vN, vN, vI 0, vN, vN, vN, vN, vI 0, vI 0]) := s_hu eh395 (fresh_ne fad394 (g376)) (g376)
  have g398 : h395 ad355 = some (eA 0 320 (fun _ => vI 0)) := s_hu eh395 (fresh_ne fad394 (g377)) (g377)
  have g399 : h395 ad318 = some (eA 0 320 (fun _ => vI 0)) := s_hu eh395 (fresh_ne fad394 (g378)) (g378)
  have g400 : h395 ad283 = some (eA 1 320 (fun _ => vI 0)) := s_hu eh395 (fresh_ne fad394 (g379)) (g379)
  have g401 : h395 ad250 = some (eA 0 8 (fun _ => vI 0)) := s_hu eh395 (fresh_ne fad394 (g380)) (g380)
  have g402 : h395 ad219 = some (eA 0 8 (fun _ => vI 0)) := s_hu eh395 (fresh_ne fad394 (g381)) (g381)
  have g403 : h395 ad190 = some (eA 0 120 (fun _ => vI 0)) := s_hu eh395 (fresh_ne fad394 (g382)) (g382)
  have g404 : h395 ad163 = some (eA 0 24 (fun _ => vI 0)) := s_hu eh395 (fresh_ne fad394 (g383)) (g383)
  have g405 : h395 ad138 = some (eA 0 24 (fun _ => vI 0)) := s_hu eh395 (fresh_ne fad394 (g384)) (g384)
  have g406 : h395 ad115 = some (eA 1 24 (fun _ => vI 0)) := s_hu eh395 (fresh_ne fad394 (g385)) (g385)
  have g407 : h395 ad94 = some (eA 0 24 (fun _ => vI 0)) := s_hu eh395 (fresh_ne fad394 (g386)) (g386)
  have g408 : h395 ad75 = some (eA 0 24 (fun _ => vI 0)) := s_hu eh395 (fresh_ne fad394 (g387)) (g387)
  have g409 : h395 ad58 = some (eA 0 24 (fun _ => vI 0)) := s_hu eh395 (fresh_ne fad394 (g388)) (g388)
  have g410 : h395 ad43 = some (eA 0 5 (fun _ => vI 0)) := s_hu eh395 (fresh_ne fad394 (g389)) (g389)
  have g411 : h395 ad30 = some (eA 0 5 (fun _ => vI 0)) := s_hu eh395 (fresh_ne fad394 (g390)) (g390)
  have g412 : h395 ad19 = some (eA 1 5 (fun _ => vI 0)) := s_hu eh395 (fresh_ne fad394 (g391)) (g391)
  have g413 : h395 ad10 = some (eA 1 5 (fun _ => vI 0)) := s_hu eh395 (fresh_ne fad394 (g392)) (g392)
  have g414 : h395 ad3 = some (eA 0 5 (fun _ => vI 0)) := s_hu eh395 (fresh_ne fad394 (g393)) (g393)
  have ndh395 := nd_push ndh375 fad394 eh395
  obtain ⟨h415, eh415⟩ : ∃ z : Hp, hu h395 o (eO 14 [vI 0, vI 102, vI 0, vR ad3, vR ad10, vR ad19, vR ad30, vR ad43, vI 0, vR ad58, vR ad75, vR ad94, vR ad115, vR ad138, vR ad163, vR ad190, vI 0, vR ad219, vR ad250, vR ad283, vR ad318, vR ad355, vR ad394, vN, vI 0, vN, vN, vN, vN, vI 0, vI 0]) = z := ⟨_, rfl⟩
  refine z_putF (fs := [vI 0, vI 102, vI 0, vR ad3, vR ad10, vR ad19, vR ad30, vR ad43, vI 0, vR ad58, vR ad75, vR ad94, vR ad115, vR ad138, vR ad163, vR ad190, vI 0, vR ad219, vR ad250, vR ad283, vR ad318, vR ad355, vN, vN, vI 0, vN, vN, vN, vN, vI 0, vI 0]) (fs' := [vI 0, vI 102, vI 0, vR ad3, vR ad10, vR ad19, vR ad30, vR ad43, vI 0, vR ad58, vR ad75, vR ad94, vR ad115, vR ad138, vR ad163, vR ad190, vI 0, vR ad219, vR ad250, vR ad283, vR ad318, vR ad355, vR ad394, vN, vI 0, vN, vN, vN, vN, vI 0, vI 0]) (h' := h415) F hnm g397 fX9_66 ftX9_22 (nf_a _ _) (Nat.le_of_ble_eq_true rfl) rfl (fun r9 h9 => by cases h9; rfl) dX9_init_150 eh415 ?_
  have g416 : h415 o = some (eO 14 [vI 0, vI 102, vI 0, vR ad3, vR ad10, vR ad19, vR ad30, vR ad43, vI 0, vR ad58, vR ad75, vR ad94, vR ad115, vR ad138, vR ad163, vR ad190, vI 0, vR ad219, vR ad250, vR ad283, vR ad318, vR ad355, vR ad394, vN, vI 0, vN, vN, vN, vN, vI 0, vI 0]) := by rw [← eh415]; exact hu_s _ _ _
  have g417 : h415 ad394 = some (eA 2 320 (fun _ => vF 0)) := s_hu eh415 (Ne.symm (fresh_ne fad394 (g376))) (g396)
  have g418 : h415 ad355 = some (eA 0 320 (fun _ => vI 0)) := s_hu eh415 (Ne.symm (fresh_ne fad355 (g338))) (g398)
  have g419 : h415 ad318 = some (eA 0 320 (fun _ => vI 0)) := s_hu eh415 (Ne.symm (fresh_ne fad318 (g302))) (g399)
  have g420 : h415 ad283 = some (eA 1 320 (fun _ => vI 0)) := s_hu eh415 (Ne.symm (fresh_ne fad283 (g268))) (g400)
  have g421 : h415 ad250 = some (eA 0 8 (fun _ => vI 0)) := s_hu eh415 (Ne.symm (fresh_ne fad250 (g236))) (g401)
  have g422 : h415 ad219 = some (eA 0 8 (fun _ => vI 0)) := s_hu eh415 (Ne.symm (fresh_ne fad219 (g206))) (g402)
  have g423 : h415 ad190 = some (eA 0 120 (fun _ => vI 0)) := s_hu eh415 (Ne.symm (fresh_ne fad190 (g178))) (g403)
  have g424 : h415 ad163 = some (eA 0 24 (fun _ => vI 0)) := s_hu eh415 (Ne.symm (fresh_ne fad163 (g152))) (g404)
  have g425 : h415 ad138 = some (eA 0 24 (fun _ => vI 0)) := s_hu eh415 (Ne.symm (fresh_ne fad138 (g128))) (g405)
  have g426 : h415 ad115 = some (eA 1 24 (fun _ => vI 0)) := s_hu eh415 (Ne.symm (fresh_ne fad115 (g106))) (g406)
  have g427 : h415 ad94 = some (eA 0 24 (fun _ => vI 0)) := s_hu eh415 (Ne.symm (fresh_ne fad94 (g86))) (g407)
  have g428 : h415 ad75 = some (eA 0 24 (fun _ => vI 0)) := s_hu eh415 (Ne.symm (fresh_ne fad75 (g68))) (g408)
  have g429 : h415 ad58 = some (eA 0 24 (fun _ => vI 0)) := s_hu eh415 (Ne.symm (fresh_ne fad58 (g52))) (g409)
  have g430 : h415 ad43 = some (eA 0 5 (fun _ => vI 0)) := s_hu eh415 (Ne.symm (fresh_ne fad43 (g38))) (g410)
  have g431 : h415 ad30 = some (eA 0 5 (fun _ => vI 0)) := s_hu eh415 (Ne.symm (fresh_ne fad30 (g26))) (g411)
  have g432 : h415 ad19 = some (eA 1 5 (fun _ => vI 0)) := s_hu eh415 (Ne.symm (fresh_ne fad19 (g16))) (g412)
  have g433 : h415 ad10 = some (eA 1 5 (fun _ => vI 0)) := s_hu eh415 (Ne.symm (fresh_ne fad10 (g8))) (g413)
  have g434 : h415 ad3 = some (eA 0 5 (fun _ => vI 0)) := s_hu eh415 (Ne.symm (fresh_ne fad3 (g2))) (g414)
  have ndh415 := nd_put ndh395 eh415
  refine z_aload_n F dX9_init_153 rfl 0 rfl ?_
  refine z_bipush F dX9_init_154 (by decide) ?_
  refine z_newarr (kk := 2) (N := 8) (v0 := vF 0) (ty := .float) F rfl q1570 rfl (fun C9 h9 => by cases h9) rfl rfl (by decide) (by decide) (Nat.le_of_ble_eq_true rfl) (Nat.le_of_ble_eq_true rfl) dX9_init_156 (fun ad435 fad435 => ?_)
  generalize eh436 : hu h415 ad435 (eA 2 8 (fun _ => vF 0)) = h436
  have g437 : h436 ad435 = some (eA 2 8 (fun _ => vF 0)) := by rw [← eh436]; exact hu_s _ _ _
  have g438 : h436 o = some (eO 14 [vI 0, vI 102, vI 0, vR ad3, vR ad10, vR ad19, vR ad30, vR ad43, vI 0, vR ad58, vR ad75, vR ad94, vR ad115, vR ad138, vR ad163, vR ad190, vI 0, vR ad219, vR ad250, vR ad283, vR ad318, vR ad355, vR ad394, vN, vI 0, vN, vN, vN, vN, vI 0, vI 0]) := s_hu eh436 (fresh_ne fad435 (g416)) (g416)
  have g439 : h436 ad394 = some (eA 2 320 (fun _ => vF 0)) := s_hu eh436 (fresh_ne fad435 (g417)) (g417)
  have g440 : h436 ad355 = some (eA 0 320 (fun _ => vI 0)) := s_hu eh436 (fresh_ne fad435 (g418)) (g418)
  have g441 : h436 ad318 = some (eA 0 320 (fun _ => vI 0)) := s_hu eh436 (fresh_ne fad435 (g419)) (g419)
  have g442 : h436 ad283 = some (eA 1 320 (fun _ => vI 0)) := s_hu eh436 (fresh_ne fad435 (g420)) (g420)
  have g443 : h436 ad250 = some (eA 0 8 (fun _ => vI 0)) := s_hu eh436 (fresh_ne fad435 (g421)) (g421)
  have g444 : h436 ad219 = some (eA 0 8 (fun _ => vI 0)) := s_hu eh436 (fresh_ne fad435 (g422)) (g422)
  have g445 : h436 ad190 = some (eA 0 120 (fun _ => vI 0)) := s_hu eh436 (fresh_ne fad435 (g423)) (g423)
  have g446 : h436 ad163 = some (eA 0 24 (fun _ => vI 0)) := s_hu eh436 (fresh_ne fad435 (g424)) (g424)
  have g447 : h436 ad138 = some (eA 0 24 (fun _ => vI 0)) := s_hu eh436 (fresh_ne fad435 (g425)) (g425)
  have g448 : h436 ad115 = some (eA 1 24 (fun _ => vI 0)) := s_hu eh436 (fresh_ne fad435 (g426)) (g426)
  have g449 : h436 ad94 = some (eA 0 24 (fun _ => vI 0)) := s_hu eh436 (fresh_ne fad435 (g427)) (g427)
  have g450 : h436 ad75 = some (eA 0 24 (fun _ => vI 0)) := s_hu eh436 (fresh_ne fad435 (g428)) (g428)
  have g451 : h436 ad58 = some (eA 0 24 (fun _ => vI 0)) := s_hu eh436 (fresh_ne fad435 (g429)) (g429)
  have g452 : h436 ad43 = some (eA 0 5 (fun _ => vI 0)) := s_hu eh436 (fresh_ne fad435 (g430)) (g430)
  have g453 : h436 ad30 = some (eA 0 5 (fun _ => vI 0)) := s_hu eh436 (fresh_ne fad435 (g431)) (g431)
  have g454 : h436 ad19 = some (eA 1 5 (fun _ => vI 0)) := s_hu eh436 (fresh_ne fad435 (g432)) (g432)
  have g455 : h436 ad10 = some (eA 1 5 (fun _ => vI 0)) := s_hu eh436 (fresh_ne fad435 (g433)) (g433)
  have g456 : h436 ad3 = some (eA 0 5 (fun _ => vI 0)) := s_hu eh436 (fresh_ne fad435 (g434)) (g434)
  have ndh436 := nd_push ndh415 fad435 eh436
  obtain ⟨h457, eh457⟩ : ∃ z : Hp, hu h436 o (eO 14 [vI 0, vI 102, vI 0, vR ad3, vR ad10, vR ad19, vR ad30, vR ad43, vI 0, vR ad58, vR ad75, vR ad94, vR ad115, vR ad138, vR ad163, vR ad190, vI 0, vR ad219, vR ad250, vR ad283, vR ad318, vR ad355, vR ad394, vR ad435, vI 0, vN, vN, vN, vN, vI 0, vI 0]) = z := ⟨_, rfl⟩
  refine z_putF (fs := [vI 0, vI 102, vI 0, vR ad3, vR ad10, vR ad19, vR ad30, vR ad43, vI 0, vR ad58, vR ad75, vR ad94, vR ad115, vR ad138, vR ad163, vR ad190, vI 0, vR ad219, vR ad250, vR ad283, vR ad318, vR ad355, vR ad394, vN, vI 0, vN, vN, vN, vN, vI 0, vI 0]) (fs' := [vI 0, vI 102, vI 0, vR ad3, vR ad10, vR ad19, vR ad30, vR ad43, vI 0, vR ad58, vR ad75, vR ad94, vR ad115, vR ad138, vR ad163, vR ad190, vI 0, vR ad219, vR ad250, vR ad283, vR ad318, vR ad355, vR ad394, vR ad435, vI 0, vN, vN, vN, vN, vI 0, vI 0]) (h' := h457) F hnm g438 fX9_70 ftX9_23 (nf_a _ _) (Nat.le_of_ble_eq_true rfl) rfl (fun r9 h9 => by cases h9; rfl) dX9_init_158 eh457 ?_
  have g458 : h457 o = some (eO 14 [vI 0, vI 102, vI 0, vR ad3, vR ad10, vR ad19, vR ad30, vR ad43, vI 0, vR ad58, vR ad75, vR ad94, vR ad115, vR ad138, vR ad163, vR ad190, vI 0, vR ad219, vR ad250, vR ad283, vR ad318, vR ad355, vR ad394, vR ad435, vI 0, vN, vN, vN, vN, vI 0, vI 0]) := by rw [← eh457]; exact hu_s _ _ _
  have g459 : h457 ad435 = some (eA 2 8 (fun _ => vF 0)) := s_hu eh457 (Ne.symm (fresh_ne fad435 (g416))) (g437)
  have g460 : h457 ad394 = some (eA 2 320 (fun _ => vF 0)) := s_hu eh457 (Ne.symm (fresh_ne fad394 (g376))) (g439)
  have g461 : h457 ad355 = some (eA 0 320 (fun _ => vI 0)) := s_hu eh457 (Ne.symm (fresh_ne fad355 (g338))) (g440)
  have g462 : h457 ad318 = some (eA 0 320 (fun _ => vI 0)) := s_hu eh457 (Ne.symm (fresh_ne fad318 (g302))) (g441)
  have g463 : h457 ad283 = some (eA 1 320 (fun _ => vI 0)) := s_hu eh457 (Ne.symm (fresh_ne fad283 (g268))) (g442)
  have g464 : h457 ad250 = some (eA 0 8 (fun _ => vI 0)) := s_hu eh457 (Ne.symm (fresh_ne fad250 (g236))) (g443)
  have g465 : h457 ad219 = some (eA 0 8 (fun _ => vI 0)) := s_hu eh457 (Ne.symm (fresh_ne fad219 (g206))) (g444)
  have g466 : h457 ad190 = some (eA 0 120 (fun _ => vI 0)) := s_hu eh457 (Ne.symm (fresh_ne fad190 (g178))) (g445)
  have g467 : h457 ad163 = some (eA 0 24 (fun _ => vI 0)) := s_hu eh457 (Ne.symm (fresh_ne fad163 (g152))) (g446)
  have g468 : h457 ad138 = some (eA 0 24 (fun _ => vI 0)) := s_hu eh457 (Ne.symm (fresh_ne fad138 (g128))) (g447)
  have g469 : h457 ad115 = some (eA 1 24 (fun _ => vI 0)) := s_hu eh457 (Ne.symm (fresh_ne fad115 (g106))) (g448)
  have g470 : h457 ad94 = some (eA 0 24 (fun _ => vI 0)) := s_hu eh457 (Ne.symm (fresh_ne fad94 (g86))) (g449)
  have g471 : h457 ad75 = some (eA 0 24 (fun _ => vI 0)) := s_hu eh457 (Ne.symm (fresh_ne fad75 (g68))) (g450)
  have g472 : h457 ad58 = some (eA 0 24 (fun _ => vI 0)) := s_hu eh457 (Ne.symm (fresh_ne fad58 (g52))) (g451)
  have g473 : h457 ad43 = some (eA 0 5 (fun _ => vI 0)) := s_hu eh457 (Ne.symm (fresh_ne fad43 (g38))) (g452)
  have g474 : h457 ad30 = some (eA 0 5 (fun _ => vI 0)) := s_hu eh457 (Ne.symm (fresh_ne fad30 (g26))) (g453)
  have g475 : h457 ad19 = some (eA 1 5 (fun _ => vI 0)) := s_hu eh457 (Ne.symm (fresh_ne fad19 (g16))) (g454)
  have g476 : h457 ad10 = some (eA 1 5 (fun _ => vI 0)) := s_hu eh457 (Ne.symm (fresh_ne fad10 (g8))) (g455)
  have g477 : h457 ad3 = some (eA 0 5 (fun _ => vI 0)) := s_hu eh457 (Ne.symm (fresh_ne fad3 (g2))) (g456)
  have ndh457 := nd_put ndh436 eh457
  refine z_aload_n F dX9_init_161 rfl 0 rfl ?_
  refine z_bipush F dX9_init_162 (by decide) ?_
  refine z_newarr (kk := 0) (N := 16) (v0 := vI 0) (ty := .int) F rfl q115 rfl (fun C9 h9 => by cases h9) rfl rfl (by decide) (by decide) (Nat.le_of_ble_eq_true rfl) (Nat.le_of_ble_eq_true rfl) dX9_init_164 (fun ad478 fad478 => ?_)
  generalize eh479 : hu h457 ad478 (eA 0 16 (fun _ => vI 0)) = h479
  have g480 : h479 ad478 = some (eA 0 16 (fun _ => vI 0)) := by rw [← eh479]; exact hu_s _ _ _
  have g481 : h479 o = some (eO 14 [vI 0, vI 102, vI 0, vR ad3, vR ad10, vR ad19, vR ad30, vR ad43, vI 0, vR ad58, vR ad75, vR ad94, vR ad115, vR ad138, vR ad163, vR ad190, vI 0, vR ad219, vR ad250, vR ad283, vR ad318, vR ad355, vR ad394, vR ad435, vI 0, vN, vN, vN, vN, vI 0, vI 0]) := s_hu eh479 (fresh_ne fad478 (g458)) (g458)
  have g482 : h479 ad435 = some (eA 2 8 (fun _ => vF 0)) := s_hu eh479 (fresh_ne fad478 (g459)) (g459)
  have g483 : h479 ad394 = some (eA 2 320 (fun _ => vF 0)) := s_hu eh479 (fresh_ne fad478 (g460)) (g460)
  have g484 : h479 ad355 = some (eA 0 320 (fun _ => vI 0)) := s_hu eh479 (fresh_ne fad478 (g461)) (g461)
  have g485 : h479 ad318 = some (eA 0 320 (fun _ => vI 0)) := s_hu eh479 (fresh_ne fad478 (g462)) (g462)
  have g486 : h479 ad283 = some (eA 1 320 (fun _ => vI 0)) := s_hu eh479 (fresh_ne fad478 (g463)) (g463)
  have g487 : h479 ad250 = some (eA 0 8 (fun _ => vI 0)) := s_hu eh479 (fresh_ne fad478 (g464)) (g464)
  have g488 : h479 ad219 = some (eA 0 8 (fun _ => vI 0)) := s_hu eh479 (fresh_ne fad478 (g465)) (g465)
  have g489 : h479 ad190 = some (eA 0 120 (fun _ => vI 0)) := s_hu eh479 (fresh_ne fad478 (g466)) (g466)
  have g490 : h479 ad163 = some (eA 0 24 (fun _ => vI 0)) := s_hu eh479 (fresh_ne fad478 (g467)) (g467)
  have g491 : h479 ad138 = some (eA 0 24 (fun _ => vI 0)) := s_hu eh479 (fresh_ne fad478 (g468)) (g468)
  have g492 : h479 ad115 = some (eA 1 24 (fun _ => vI 0)) := s_hu eh479 (fresh_ne fad478 (g469)) (g469)
  have g493 : h479 ad94 = some (eA 0 24 (fun _ => vI 0)) := s_hu eh479 (fresh_ne fad478 (g470)) (g470)
  have g494 : h479 ad75 = some (eA 0 24 (fun _ => vI 0)) := s_hu eh479 (fresh_ne fad478 (g471)) (g471)
  have g495 : h479 ad58 = some (eA 0 24 (fun _ => vI 0)) := s_hu eh479 (fresh_ne fad478 (g472)) (g472)
  have g496 : h479 ad43 = some (eA 0 5 (fun _ => vI 0)) := s_hu eh479 (fresh_ne fad478 (g473)) (g473)
  have g497 : h479 ad30 = some (eA 0 5 (fun _ => vI 0)) := s_hu eh479 (fresh_ne fad478 (g474)) (g474)
  have g498 : h479 ad19 = some (eA 1 5 (fun _ => vI 0)) := s_hu eh479 (fresh_ne fad478 (g475)) (g475)
  have g499 : h479 ad10 = some (eA 1 5 (fun _ => vI 0)) := s_hu eh479 (fresh_ne fad478 (g476)) (g476)
  have g500 : h479 ad3 = some (eA 0 5 (fun _ => vI 0)) := s_hu eh479 (fresh_ne fad478 (g477)) (g477)
  have ndh479 := nd_push ndh457 fad478 eh479
  obtain ⟨h501, eh501⟩ : ∃ z : Hp, hu h479 o (eO 14 [vI 0, vI 102, vI 0, vR ad3, vR ad10, vR ad19, vR ad30, vR ad43, vI 0, vR ad58, vR ad75, vR ad94, vR ad115, vR ad138, vR ad163, vR ad190, vI 0, vR ad219, vR ad250, vR ad283, vR ad318, vR ad355, vR ad394, vR ad435, vI 0, vR ad478, vN, vN, vN, vI 0, vI 0]) = z := ⟨_, rfl⟩
  refine z_putF (fs := [vI 0, vI 102, vI 0, vR ad3, vR ad10, vR ad19, vR ad30, vR ad43, vI 0, vR ad58, vR ad75, vR ad94, vR ad115, vR ad138, vR ad163, vR ad190, vI 0, vR ad219, vR ad250, vR ad283, vR ad318, vR ad355, vR ad394, vR ad435, vI 0, vN, vN, vN, vN, vI 0, vI 0]) (fs' := [vI 0, vI 102, vI 0, vR ad3, vR ad10, vR ad19, vR ad30, vR ad43, vI 0, vR ad58, vR ad75, vR ad94, vR ad115, vR ad138, vR ad163, vR ad190, vI 0, vR ad219, vR ad250, vR ad283, vR ad318, vR ad355, vR ad394, vR ad435, vI 0, vR ad478, vN, vN, vN, vI 0, vI 0]) (h' := h501) F hnm g481 fX9_73 ftX9_25 (nf_a _ _) (Nat.le_of_ble_eq_true rfl) rfl (fun r9 h9 => by cases h9; rfl) dX9_init_166 eh501 ?_
  have g502 : h501 o = some (eO 14 [vI 0, vI 102, vI 0, vR ad3, vR ad10, vR ad19, vR ad30, vR ad43, vI 0, vR ad58, vR ad75, vR ad94, vR ad115, vR ad138, vR ad163, vR ad190, vI 0, vR ad219, vR ad250, vR ad283, vR ad318, vR ad355, vR ad394, vR ad435, vI 0, vR ad478, vN, vN, vN, vI 0, vI 0]) := by rw [← eh501]; exact hu_s _ _ _
  have g503 : h501 ad478 = some (eA 0 16 (fun _ => vI 0)) := s_hu eh501 (Ne.symm (fresh_ne fad478 (g458))) (g480)
  have g504 : h501 ad435 = some (eA 2 8 (fun _ => vF 0)) := s_hu eh501 (Ne.symm (fresh_ne fad435 (g416))) (g482)
  have g505 : h501 ad394 = some (eA 2 320 (fun _ => vF 0)) := s_hu eh501 (Ne.symm (fresh_ne fad394 (g376))) (g483)
  have g506 : h501 ad355 = some (eA 0 320 (fun _ => vI 0)) := s_hu eh501 (Ne.symm (fresh_ne fad355 (g338))) (g484)
  have g507 : h501 ad318 = some (eA 0 320 (fun _ => vI 0)) := s_hu eh501 (Ne.symm (fresh_ne fad318 (g302))) (g485)
  have g508 : h501 ad283 = some (eA 1 320 (fun _ => vI 0)) := s_hu eh501 (Ne.symm (fresh_ne fad283 (g268))) (g486)
  have g509 : h501 ad250 = some (eA 0 8 (fun _ => vI 0)) := s_hu eh501 (Ne.symm (fresh_ne fad250 (g236))) (g487)
  have g510 : h501 ad219 = some (eA 0 8 (fun _ => vI 0)) := s_hu eh501 (Ne.symm (fresh_ne fad219 (g206))) (g488)
  have g511 : h501 ad190 = some (eA 0 120 (fun _ => vI 0)) := s_hu eh501 (Ne.symm (fresh_ne fad190 (g178))) (g489)
  have g512 : h501 ad163 = some (eA 0 24 (fun _ => vI 0)) := s_hu eh501 (Ne.symm (fresh_ne fad163 (g152))) (g490)
  have g513 : h501 ad138 = some (eA 0 24 (fun _ => vI 0)) := s_hu eh501 (Ne.symm (fresh_ne fad138 (g128))) (g491)
  have g514 : h501 ad115 = some (eA 1 24 (fun _ => vI 0)) := s_hu eh501 (Ne.symm (fresh_ne fad115 (g106))) (g492)
  have g515 : h501 ad94 = some (eA 0 24 (fun _ => vI 0)) := s_hu eh501 (Ne.symm (fresh_ne fad94 (g86))) (g493)
  have g516 : h501 ad75 = some (eA 0 24 (fun _ => vI 0)) := s_hu eh501 (Ne.symm (fresh_ne fad75 (g68))) (g494)
  have g517 : h501 ad58 = some (eA 0 24 (fun _ => vI 0)) := s_hu eh501 (Ne.symm (fresh_ne fad58 (g52))) (g495)
  have g518 : h501 ad43 = some (eA 0 5 (fun _ => vI 0)) := s_hu eh501 (Ne.symm (fresh_ne fad43 (g38))) (g496)
  have g519 : h501 ad30 = some (eA 0 5 (fun _ => vI 0)) := s_hu eh501 (Ne.symm (fresh_ne fad30 (g26))) (g497)
  have g520 : h501 ad19 = some (eA 1 5 (fun _ => vI 0)) := s_hu eh501 (Ne.symm (fresh_ne fad19 (g16))) (g498)
  have g521 : h501 ad10 = some (eA 1 5 (fun _ => vI 0)) := s_hu eh501 (Ne.symm (fresh_ne fad10 (g8))) (g499)
  have g522 : h501 ad3 = some (eA 0 5 (fun _ => vI 0)) := s_hu eh501 (Ne.symm (fresh_ne fad3 (g2))) (g500)
  have ndh501 := nd_put ndh479 eh501
  refine z_aload_n F dX9_init_169 rfl 0 rfl ?_
  refine z_bipush F dX9_init_170 (by decide) ?_
  refine z_newarr (kk := 0) (N := 16) (v0 := vI 0) (ty := .int) F rfl q115 rfl (fun C9 h9 => by cases h9) rfl rfl (by decide) (by decide) (Nat.le_of_ble_eq_true rfl) (Nat.le_of_ble_eq_true rfl) dX9_init_172 (fun ad523 fad523 => ?_)
  generalize eh524 : hu h501 ad523 (eA 0 16 (fun _ => vI 0)) = h524
  have g525 : h524 ad523 = some (eA 0 16 (fun _ => vI 0)) := by rw [← eh524]; exact hu_s _ _ _
  have g526 : h524 o = some (eO 14 [vI 0, vI 102, vI 0, vR ad3, vR ad10, vR ad19, vR ad30, vR ad43, vI 0, vR ad58, vR ad75, vR ad94, vR ad115, vR ad138, vR ad163, vR ad190, vI 0, vR ad219, vR ad250, vR ad283, vR ad318, vR ad355, vR ad394, vR ad435, vI 0, vR ad478, vN, vN, vN, vI 0, vI 0]) := s_hu eh524 (fresh_ne fad523 (g502)) (g502)
  have g527 : h524 ad478 = some (eA 0 16 (fun _ => vI 0)) := s_hu eh524 (fresh_ne fad523 (g503)) (g503)
  have g528 : h524 ad435 = some (eA 2 8 (fun _ => vF 0)) := s_hu eh524 (fresh_ne fad523 (g504)) (g504)
  have g529 : h524 ad394 = some (eA 2 320 (fun _ => vF 0)) := s_hu eh524 (fresh_ne fad523 (g505)) (g505)
  have g530 : h524 ad355 = some (eA 0 320 (fun _ => vI 0)) := s_hu eh524 (fresh_ne fad523 (g506)) (g506)
  have g531 : h524 ad318 = some (eA 0 320 (fun _ => vI 0)) := s_hu eh524 (fresh_ne fad523 (g507)) (g507)
  have g532 : h524 ad283 = some (eA 1 320 (fun _ => vI 0)) := s_hu eh524 (fresh_ne fad523 (g508)) (g508)
  have g533 : h524 ad250 = some (eA 0 8 (fun _ => vI 0)) := s_hu eh524 (fresh_ne fad523 (g509)) (g509)
  have g534 : h524 ad219 = some (eA 0 8 (fun _ => vI 0)) := s_hu eh524 (fresh_ne fad523 (g510)) (g510)
  have g535 : h524 ad190 = some (eA 0 120 (fun _ => vI 0)) := s_hu eh524 (fresh_ne fad523 (g511)) (g511)
  have g536 : h524 ad163 = some (eA 0 24 (fun _ => vI 0)) := s_hu eh524 (fresh_ne fad523 (g512)) (g512)
  have g537 : h524 ad138 = some (eA 0 24 (fun _ => vI 0)) := s_hu eh524 (fresh_ne fad523 (g513)) (g513)
  have g538 : h524 ad115 = some (eA 1 24 (fun _ => vI 0)) := s_hu eh524 (fresh_ne fad523 (g514)) (g514)
  have g539 : h524 ad94 = some (eA 0 24 (fun _ => vI 0)) := s_hu eh524 (fresh_ne fad523 (g515)) (g515)
  have g540 : h524 ad75 = some (eA 0 24 (fun _ => vI 0)) := s_hu eh524 (fresh_ne fad523 (g516)) (g516)
  have g541 : h524 ad58 = some (eA 0 24 (fun _ => vI 0)) := s_hu eh524 (fresh_ne fad523 (g517)) (g517)
  have g542 : h524 ad43 = some (eA 0 5 (fun _ => vI 0)) := s_hu eh524 (fresh_ne fad523 (g518)) (g518)
  have g543 : h524 ad30 = some (eA 0 5 (fun _ => vI 0)) := s_hu eh524 (fresh_ne fad523 (g519)) (g519)
  have g544 : h524 ad19 = some (eA 1 5 (fun _ => vI 0)) := s_hu eh524 (fresh_ne fad523 (g520)) (g520)
  have g545 : h524 ad10 = some (eA 1 5 (fun _ => vI 0)) := s_hu eh524 (fresh_ne fad523 (g521)) (g521)
  have g546 : h524 ad3 = some (eA 0 5 (fun _ => vI 0)) := s_hu eh524 (fresh_ne fad523 (g522)) (g522)
  have ndh524 := nd_push ndh501 fad523 eh524
  obtain ⟨h547, eh547⟩ : ∃ z : Hp, hu h524 o (eO 14 [vI 0, vI 102, vI 0, vR ad3, vR ad10, vR ad19, vR ad30, vR ad43, vI 0, vR ad58, vR ad75, vR ad94, vR ad115, vR ad138, vR ad163, vR ad190, vI 0, vR ad219, vR ad250, vR ad283, vR ad318, vR ad355, vR ad394, vR ad435, vI 0, vR ad478, vR ad523, vN, vN, vI 0, vI 0]) = z := ⟨_, rfl⟩
  refine z_putF (fs := [vI 0, vI 102, vI 0, vR ad3, vR ad10, vR ad19, vR ad30, vR ad43, vI 0, vR ad58, vR ad75, vR ad94, vR ad115, vR ad138, vR ad163, vR ad190, vI 0, vR ad219, vR ad250, vR ad283, vR ad318, vR ad355, vR ad394, vR ad435, vI 0, vR ad478, vN, vN, vN, vI 0, vI 0]) (fs' := [vI 0, vI 102, vI 0, vR ad3, vR ad10, vR ad19, vR ad30, vR ad43, vI 0, vR ad58, vR ad75, vR ad94, vR ad115, vR ad138, vR ad163, vR ad190, vI 0, vR ad219, vR ad250, vR ad283, vR ad318, vR ad355, vR ad394, vR ad435, vI 0, vR ad478, vR ad523, vN, vN, vI 0, vI 0]) (h' := h547) F hnm g526 fX9_76 ftX9_26 (nf_a _ _) (Nat.le_of_ble_eq_true rfl) rfl (fun r9 h9 => by cases h9; rfl) dX9_init_174 eh547 ?_
  have g548 : h547 o = some (eO 14 [vI 0, vI 102, vI 0, vR ad3, vR ad10, vR ad19, vR ad30, vR ad43, vI 0, vR ad58, vR ad75, vR ad94, vR ad115, vR ad138, vR ad163, vR ad190, vI 0, vR ad219, vR ad250, vR ad283, vR ad318, vR ad355, vR ad394, vR ad435, vI 0, vR ad478, vR ad523, vN, vN, vI 0, vI 0]) := by rw [← eh547]; exact hu_s _ _ _
  have g549 : h547 ad523 = some (eA 0 16 (fun _ => vI 0)) := s_hu eh547 (Ne.symm (fresh_ne fad523 (g502))) (g525)
  have g550 : h547 ad478 = some (eA 0 16 (fun _ => vI 0)) := s_hu eh547 (Ne.symm (fresh_ne fad478 (g458))) (g527)
  have g551 : h547 ad435 = some (eA 2 8 (fun _ => vF 0)) := s_hu eh547 (Ne.symm (fresh_ne fad435 (g416))) (g528)
  have g552 : h547 ad394 = some (eA 2 320 (fun _ => vF 0)) := s_hu eh547 (Ne.symm (fresh_ne fad394 (g376))) (g529)
  have g553 : h547 ad355 = some (eA 0 320 (fun _ => vI 0)) := s_hu eh547 (Ne.symm (fresh_ne fad355 (g338))) (g530)
  have g554 : h547 ad318 = some (eA 0 320 (fun _ => vI 0)) := s_hu eh547 (Ne.symm (fresh_ne fad318 (g302))) (g531)
  have g555 : h547 ad283 = some (eA 1 320 (fun _ => vI 0)) := s_hu eh547 (Ne.symm (fresh_ne fad283 (g268))) (g532)
  have g556 : h547 ad250 = some (eA 0 8 (fun _ => vI 0)) := s_hu eh547 (Ne.symm (fresh_ne fad250 (g236))) (g533)
  have g557 : h547 ad219 = some (eA 0 8 (fun _ => vI 0)) := s_hu eh547 (Ne.symm (fresh_ne fad219 (g206))) (g534)
  have g558 : h547 ad190 = some (eA 0 120 (fun _ => vI 0)) := s_hu eh547 (Ne.symm (fresh_ne fad190 (g178))) (g535)
  have g559 : h547 ad163 = some (eA 0 24 (fun _ => vI 0)) := s_hu eh547 (Ne.symm (fresh_ne fad163 (g152))) (g536)
  have g560 : h547 ad138 = some (eA 0 24 (fun _ => vI 0)) := s_hu eh547 (Ne.symm (fresh_ne fad138 (g128))) (g537)
  have g561 : h547 ad115 = some (eA 1 24 (fun _ => vI 0)) := s_hu eh547 (Ne.symm (fresh_ne fad115 (g106))) (g538)
  have g562 : h547 ad94 = some (eA 0 24 (fun _ => vI 0)) := s_hu eh547 (Ne.symm (fresh_ne fad94 (g86))) (g539)
  have g563 : h547 ad75 = some (eA 0 24 (fun _ => vI 0)) := s_hu eh547 (Ne.symm (fresh_ne fad75 (g68))) (g540)
  have g564 : h547 ad58 = some (eA 0 24 (fun _ => vI 0)) := s_hu eh547 (Ne.symm (fresh_ne fad58 (g52))) (g541)
  have g565 : h547 ad43 = some (eA 0 5 (fun _ => vI 0)) := s_hu eh547 (Ne.symm (fresh_ne fad43 (g38))) (g542)
  have g566 : h547 ad30 = some (eA 0 5 (fun _ => vI 0)) := s_hu eh547 (Ne.symm (fresh_ne fad30 (g26))) (g543)
  have g567 : h547 ad19 = some (eA 1 5 (fun _ => vI 0)) := s_hu eh547 (Ne.symm (fresh_ne fad19 (g16))) (g544)
  have g568 : h547 ad10 = some (eA 1 5 (fun _ => vI 0)) := s_hu eh547 (Ne.symm (fresh_ne fad10 (g8))) (g545)
  have g569 : h547 ad3 = some (eA 0 5 (fun _ => vI 0)) := s_hu eh547 (Ne.symm (fresh_ne fad3 (g2))) (g546)
  have ndh547 := nd_put ndh524 eh547
  refine z_aload_n F dX9_init_177 rfl 0 rfl ?_
  refine z_bipush F dX9_init_178 (by decide) ?_
  refine z_newarr (kk := 3) (N := 16) (v0 := vI 0) (ty := .boolean) F rfl q1571 rfl (fun C9 h9 => by cases h9) rfl rfl (by decide) (by decide) (Nat.le_of_ble_eq_true rfl) (Nat.le_of_ble_eq_true rfl) dX9_init_180 (fun ad570 fad570 => ?_)
  generalize eh571 : hu h547 ad570 (eA 3 16 (fun _ => vI 0)) = h571
  have g572 : h571 ad570 = some (eA 3 16 (fun _ => vI 0)) := by rw [← eh571]; exact hu_s _ _ _
  have g573 : h571 o = some (eO 14 [vI 0, vI 102, vI 0, vR ad3, vR ad10, vR ad19, vR ad30, vR ad43, vI 0, vR ad58, vR ad75, vR ad94, vR ad115, vR ad138, vR ad163, vR ad190, vI 0, vR ad219, vR ad250, vR ad283, vR ad318, vR ad355, vR ad394, vR ad435, vI 0, vR ad478, vR ad523, vN, vN, vI 0, vI 0]) := s_hu eh571 (fresh_ne fad570 (g548)) (g548)
  have g574 : h571 ad523 = some (eA 0 16 (fun _ => vI 0)) := s_hu eh571 (fresh_ne fad570 (g549)) (g549)
  have g575 : h571 ad478 = some (eA 0 16 (fun _ => vI 0)) := s_hu eh571 (fresh_ne fad570 (g550)) (g550)
  have g576 : h571 ad435 = some (eA 2 8 (fun _ => vF 0)) := s_hu eh571 (fresh_ne fad570 (g551)) (g551)
  have g577 : h571 ad394 = some (eA 2 320 (fun _ => vF 0)) := s_hu eh571 (fresh_ne fad570 (g552)) (g552)
  have g578 : h571 ad355 = some (eA 0 320 (fun _ => vI 0)) := s_hu eh571 (fresh_ne fad570 (g553)) (g553)
  have g579 : h571 ad318 = some (eA 0 320 (fun _ => vI 0)) := s_hu eh571 (fresh_ne fad570 (g554)) (g554)
  have g580 : h571 ad283 = some (eA 1 320 (fun _ => vI 0)) := s_hu eh571 (fresh_ne fad570 (g555)) (g555)
  have g581 : h571 ad250 = some (eA 0 8 (fun _ => vI 0)) := s_hu eh571 (fresh_ne fad570 (g556)) (g556)
  have g582 : h571 ad219 = some (eA 0 8 (fun _ => vI 0)) := s_hu eh571 (fresh_ne fad570 (g557)) (g557)
  have g583 : h571 ad190 = some (eA 0 120 (fun _ => vI 0)) := s_hu eh571 (fresh_ne fad570 (g558)) (g558)
  have g584 : h571 ad163 = some (eA 0 24 (fun _ => vI 0)) := s_hu eh571 (fresh_ne fad570 (g559)) (g559)
  have g585 : h571 ad138 = some (eA 0 24 (fun _ => vI 0)) := s_hu eh571 (fresh_ne fad570 (g560)) (g560)
  have g586 : h571 ad115 = some (eA 1 24 (fun _ => vI 0)) := s_hu eh571 (fresh_ne fad570 (g561)) (g561)
  have g587 : h571 ad94 = some (eA 0 24 (fun _ => vI 0)) := s_hu eh571 (fresh_ne fad570 (g562)) (g562)
  have g588 : h571 ad75 = some (eA 0 24 (fun _ => vI 0)) := s_hu eh571 (fresh_ne fad570 (g563)) (g563)
  have g589 : h571 ad58 = some (eA 0 24 (fun _ => vI 0)) := s_hu eh571 (fresh_ne fad570 (g564)) (g564)
  have g590 : h571 ad43 = some (eA 0 5 (fun _ => vI 0)) := s_hu eh571 (fresh_ne fad570 (g565)) (g565)
  have g591 : h571 ad30 = some (eA 0 5 (fun _ => vI 0)) := s_hu eh571 (fresh_ne fad570 (g566)) (g566)
  have g592 : h571 ad19 = some (eA 1 5 (fun _ => vI 0)) := s_hu eh571 (fresh_ne fad570 (g567)) (g567)
  have g593 : h571 ad10 = some (eA 1 5 (fun _ => vI 0)) := s_hu eh571 (fresh_ne fad570 (g568)) (g568)
  have g594 : h571 ad3 = some (eA 0 5 (fun _ => vI 0)) := s_hu eh571 (fresh_ne fad570 (g569)) (g569)
  have ndh571 := nd_push ndh547 fad570 eh571
  obtain ⟨h595, eh595⟩ : ∃ z : Hp, hu h571 o (eO 14 [vI 0, vI 102, vI 0, vR ad3, vR ad10, vR ad19, vR ad30, vR ad43, vI 0, vR ad58, vR ad75, vR ad94, vR ad115, vR ad138, vR ad163, vR ad190, vI 0, vR ad219, vR ad250, vR ad283, vR ad318, vR ad355, vR ad394, vR ad435, vI 0, vR ad478, vR ad523, vR ad570, vN, vI 0, vI 0]) = z := ⟨_, rfl⟩
  refine z_putF (fs := [vI 0, vI 102, vI 0, vR ad3, vR ad10, vR ad19, vR ad30, vR ad43, vI 0, vR ad58, vR ad75, vR ad94, vR ad115, vR ad138, vR ad163, vR ad190, vI 0, vR ad219, vR ad250, vR ad283, vR ad318, vR ad355, vR ad394, vR ad435, vI 0, vR ad478, vR ad523, vN, vN, vI 0, vI 0]) (fs' := [vI 0, vI 102, vI 0, vR ad3, vR ad10, vR ad19, vR ad30, vR ad43, vI 0, vR ad58, vR ad75, vR ad94, vR ad115, vR ad138, vR ad163, vR ad190, vI 0, vR ad219, vR ad250, vR ad283, vR ad318, vR ad355, vR ad394, vR ad435, vI 0, vR ad478, vR ad523, vR ad570, vN, vI 0, vI 0]) (h' := h595) F hnm g573 fX9_79 ftX9_27 (nf_a _ _) (Nat.le_of_ble_eq_true rfl) rfl (fun r9 h9 => by cases h9; rfl) dX9_init_182 eh595 ?_
  have g596 : h595 o = some (eO 14 [vI 0, vI 102, vI 0, vR ad3, vR ad10, vR ad19, vR ad30, vR ad43, vI 0, vR ad58, vR ad75, vR ad94, vR ad115, vR ad138, vR ad163, vR ad190, vI 0, vR ad219, vR ad250, vR ad283, vR ad318, vR ad355, vR ad394, vR ad435, vI 0, vR ad478, vR ad523, vR ad570, vN, vI 0, vI 0]) := by rw [← eh595]; exact hu_s _ _ _
  have g597 : h595 ad570 = some (eA 3 16 (fun _ => vI 0)) := s_hu eh595 (Ne.symm (fresh_ne fad570 (g548))) (g572)
  have g598 : h595 ad523 = some (eA 0 16 (fun _ => vI 0)) := s_hu eh595 (Ne.symm (fresh_ne fad523 (g502))) (g574)
  have g599 : h595 ad478 = some (eA 0 16 (fun _ => vI 0)) := s_hu eh595 (Ne.symm (fresh_ne fad478 (g458))) (g575)
  have g600 : h595 ad435 = some (eA 2 8 (fun _ => vF 0)) := s_hu eh595 (Ne.symm (fresh_ne fad435 (g416))) (g576)
  have g601 : h595 ad394 = some (eA 2 320 (fun _ => vF 0)) := s_hu eh595 (Ne.symm (fresh_ne fad394 (g376))) (g577)
  have g602 : h595 ad355 = some (eA 0 320 (fun _ => vI 0)) := s_hu eh595 (Ne.symm (fresh_ne fad355 (g338))) (g578)
  have g603 : h595 ad318 = some (eA 0 320 (fun _ => vI 0)) := s_hu eh595 (Ne.symm (fresh_ne fad318 (g302))) (g579)
  have g604 : h595 ad283 = some (eA 1 320 (fun _ => vI 0)) := s_hu eh595 (Ne.symm (fresh_ne fad283 (g268))) (g580)
  have g605 : h595 ad250 = some (eA 0 8 (fun _ => vI 0)) := s_hu eh595 (Ne.symm (fresh_ne fad250 (g236))) (g581)
  have g606 : h595 ad219 = some (eA 0 8 (fun _ => vI 0)) := s_hu eh595 (Ne.symm (fresh_ne fad219 (g206))) (g582)
  have g607 : h595 ad190 = some (eA 0 120 (fun _ => vI 0)) := s_hu eh595 (Ne.symm (fresh_ne fad190 (g178))) (g583)
  have g608 : h595 ad163 = some (eA 0 24 (fun _ => vI 0)) := s_hu eh595 (Ne.symm (fresh_ne fad163 (g152))) (g584)
  have g609 : h595 ad138 = some (eA 0 24 (fun _ => vI 0)) := s_hu eh595 (Ne.symm (fresh_ne fad138 (g128))) (g585)
  have g610 : h595 ad115 = some (eA 1 24 (fun _ => vI 0)) := s_hu eh595 (Ne.symm (fresh_ne fad115 (g106))) (g586)
  have g611 : h595 ad94 = some (eA 0 24 (fun _ => vI 0)) := s_hu eh595 (Ne.symm (fresh_ne fad94 (g86))) (g587)
  have g612 : h595 ad75 = some (eA 0 24 (fun _ => vI 0)) := s_hu eh595 (Ne.symm (fresh_ne fad75 (g68))) (g588)
  have g613 : h595 ad58 = some (eA 0 24 (fun _ => vI 0)) := s_hu eh595 (Ne.symm (fresh_ne fad58 (g52))) (g589)
  have g614 : h595 ad43 = some (eA 0 5 (fun _ => vI 0)) := s_hu eh595 (Ne.symm (fresh_ne fad43 (g38))) (g590)
  have g615 : h595 ad30 = some (eA 0 5 (fun _ => vI 0)) := s_hu eh595 (Ne.symm (fresh_ne fad30 (g26))) (g591)
  have g616 : h595 ad19 = some (eA 1 5 (fun _ => vI 0)) := s_hu eh595 (Ne.symm (fresh_ne fad19 (g16))) (g592)
  have g617 : h595 ad10 = some (eA 1 5 (fun _ => vI 0)) := s_hu eh595 (Ne.symm (fresh_ne fad10 (g8))) (g593)
  have g618 : h595 ad3 = some (eA 0 5 (fun _ => vI 0)) := s_hu eh595 (Ne.symm (fresh_ne fad3 (g2))) (g594)
  have ndh595 := nd_put ndh571 eh595
  refine z_aload_n F dX9_init_185 rfl 0 rfl ?_
  refine z_bipush F dX9_init_186 (by decide) ?_
  refine z_newarr (kk := 1) (N := 60) (v0 := vI 0) (ty := .char) F rfl q1569 rfl (fun C9 h9 => by cases h9) rfl rfl (by decide) (by decide) (Nat.le_of_ble_eq_true rfl) (Nat.le_of_ble_eq_true rfl) dX9_init_188 (fun ad619 fad619 => ?_)
  generalize eh620 : hu h595 ad619 (eA 1 60 (fun _ => vI 0)) = h620
  have g621 : h620 ad619 = some (eA 1 60 (fun _ => vI 0)) := by rw [← eh620]; exact hu_s _ _ _
  have g622 : h620 o = some (eO 14 [vI 0, vI 102, vI 0, vR ad3, vR ad10, vR ad19, vR ad30, vR ad43, vI 0, vR ad58, vR ad75, vR ad94, vR ad115, vR ad138, vR ad163, vR ad190, vI 0, vR ad219, vR ad250, vR ad283, vR ad318, vR ad355, vR ad394, vR ad435, vI 0, vR ad478, vR ad523, vR ad570, vN, vI 0, vI 0]) := s_hu eh620 (fresh_ne fad619 (g596)) (g596)
  have g623 : h620 ad570 = some (eA 3 16 (fun _ => vI 0)) := s_hu eh620 (fresh_ne fad619 (g597)) (g597)
  have g624 : h620 ad523 = some (eA 0 16 (fun _ => vI 0)) := s_hu eh620 (fresh_ne fad619 (g598)) (g598)
  have g625 : h620 ad478 = some (eA 0 16 (fun _ => vI 0)) := s_hu eh620 (fresh_ne fad619 (g599)) (g599)
  have g626 : h620 ad435 = some (eA 2 8 (fun _ => vF 0)) := s_hu eh620 (fresh_ne fad619 (g600)) (g600)
  have g627 : h620 ad394 = some (eA 2 320 (fun _ => vF 0)) := s_hu eh620 (fresh_ne fad619 (g601)) (g601)
  have g628 : h620 ad355 = some (eA 0 320 (fun _ => vI 0)) := s_hu eh620 (fresh_ne fad619 (g602)) (g602)
  have g629 : h620 ad318 = some (eA 0 320 (fun _ => vI 0)) := s_hu eh620 (fresh_ne fad619 (g603)) (g603)
  have g630 : h620 ad283 = some (eA 1 320 (fun _ => vI 0)) := s_hu eh620 (fresh_ne fad619 (g604)) (g604)
  have g631 : h620 ad250 = some (eA 0 8 (fun _ => vI 0)) := s_hu eh620 (fresh_ne fad619 (g605)) (g605)
  have g632 : h620 ad219 = some (eA 0 8 (fun _ => vI 0)) := s_hu eh620 (fresh_ne fad619 (g606)) (g606)
  have g633 : h620 ad190 = some (eA 0 120 (fun _ => vI 0)) := s_hu eh620 (fresh_ne fad619 (g607)) (g607)
  have g634 : h620 ad163 = some (eA 0 24 (fun _ => vI 0)) := s_hu eh620 (fresh_ne fad619 (g608)) (g608)
  have g635 : h620 ad138 = some (eA 0 24 (fun _ => vI 0)) := s_hu eh620 (fresh_ne fad619 (g609)) (g609)
  have g636 : h620 ad115 = some (eA 1 24 (fun _ => vI 0)) := s_hu eh620 (fresh_ne fad619 (g610)) (g610)
  have g637 : h620 ad94 = some (eA 0 24 (fun _ => vI 0)) := s_hu eh620 (fresh_ne fad619 (g611)) (g611)
  have g638 : h620 ad75 = some (eA 0 24 (fun _ => vI 0)) := s_hu eh620 (fresh_ne fad619 (g612)) (g612)
  have g639 : h620 ad58 = some (eA 0 24 (fun _ => vI 0)) := s_hu eh620 (fresh_ne fad619 (g613)) (g613)
  have g640 : h620 ad43 = some (eA 0 5 (fun _ => vI 0)) := s_hu eh620 (fresh_ne fad619 (g614)) (g614)
  have g641 : h620 ad30 = some (eA 0 5 (fun _ => vI 0)) := s_hu eh620 (fresh_ne fad619 (g615)) (g615)
  have g642 : h620 ad19 = some (eA 1 5 (fun _ => vI 0)) := s_hu eh620 (fresh_ne fad619 (g616)) (g616)
  have g643 : h620 ad10 = some (eA 1 5 (fun _ => vI 0)) := s_hu eh620 (fresh_ne fad619 (g617)) (g617)
  have g644 : h620 ad3 = some (eA 0 5 (fun _ => vI 0)) := s_hu eh620 (fresh_ne fad619 (g618)) (g618)
  have ndh620 := nd_push ndh595 fad619 eh620
  obtain ⟨h645, eh645⟩ : ∃ z : Hp, hu h620 o (eO 14 [vI 0, vI 102, vI 0, vR ad3, vR ad10, vR ad19, vR ad30, vR ad43, vI 0, vR ad58, vR ad75, vR ad94, vR ad115, vR ad138, vR ad163, vR ad190, vI 0, vR ad219, vR ad250, vR ad283, vR ad318, vR ad355, vR ad394, vR ad435, vI 0, vR ad478, vR ad523, vR ad570, vR ad619, vI 0, vI 0]) = z := ⟨_, rfl⟩
  refine z_putF (fs := [vI 0, vI 102, vI 0, vR ad3, vR ad10, vR ad19, vR ad30, vR ad43, vI 0, vR ad58, vR ad75, vR ad94, vR ad115, vR ad138, vR ad163, vR ad190, vI 0, vR ad219, vR ad250, vR ad283, vR ad318, vR ad355, vR ad394, vR ad435, vI 0, vR ad478, vR ad523, vR ad570, vN, vI 0, vI 0]) (fs' := [vI 0, vI 102, vI 0, vR ad3, vR ad10, vR ad19, vR ad30, vR ad43, vI 0, vR ad58, vR ad75, vR ad94, vR ad115, vR ad138, vR ad163, vR ad190, vI 0, vR ad219, vR ad250, vR ad283, vR ad318, vR ad355, vR ad394, vR ad435, vI 0, vR ad478, vR ad523, vR ad570, vR ad619, vI 0, vI 0]) (h' := h645) F hnm g622 fX9_83 ftX9_28 (nf_a _ _) (Nat.le_of_ble_eq_true rfl) rfl (fun r9 h9 => by cases h9; rfl) dX9_init_190 eh645 ?_
  have g646 : h645 o = some (eO 14 [vI 0, vI 102, vI 0, vR ad3, vR ad10, vR ad19, vR ad30, vR ad43, vI 0, vR ad58, vR ad75, vR ad94, vR ad115, vR ad138, vR ad163, vR ad190, vI 0, vR ad219, vR ad250, vR ad283, vR ad318, vR ad355, vR ad394, vR ad435, vI 0, vR ad478, vR ad523, vR ad570, vR ad619, vI 0, vI 0]) := by rw [← eh645]; exact hu_s _ _ _
  have g647 : h645 ad619 = some (eA 1 60 (fun _ => vI 0)) := s_hu eh645 (Ne.symm (fresh_ne fad619 (g596))) (g621)
  have g648 : h645 ad570 = some (eA 3 16 (fun _ => vI 0)) := s_hu eh645 (Ne.symm (fresh_ne fad570 (g548))) (g623)
  have g649 : h645 ad523 = some (eA 0 16 (fun _ => vI 0)) := s_hu eh645 (Ne.symm (fresh_ne fad523 (g502))) (g624)
  have g650 : h645 ad478 = some (eA 0 16 (fun _ => vI 0)) := s_hu eh645 (Ne.symm (fresh_ne fad478 (g458))) (g625)
  have g651 : h645 ad435 = some (eA 2 8 (fun _ => vF 0)) := s_hu eh645 (Ne.symm (fresh_ne fad435 (g416))) (g626)
  have g652 : h645 ad394 = some (eA 2 320 (fun _ => vF 0)) := s_hu eh645 (Ne.symm (fresh_ne fad394 (g376))) (g627)
  have g653 : h645 ad355 = some (eA 0 320 (fun _ => vI 0)) := s_hu eh645 (Ne.symm (fresh_ne fad355 (g338))) (g628)
  have g654 : h645 ad318 = some (eA 0 320 (fun _ => vI 0)) := s_hu eh645 (Ne.symm (fresh_ne fad318 (g302))) (g629)
  have g655 : h645 ad283 = some (eA 1 320 (fun _ => vI 0)) := s_hu eh645 (Ne.symm (fresh_ne fad283 (g268))) (g630)
  have g656 : h645 ad250 = some (eA 0 8 (fun _ => vI 0)) := s_hu eh645 (Ne.symm (fresh_ne fad250 (g236))) (g631)
  have g657 : h645 ad219 = some (eA 0 8 (fun _ => vI 0)) := s_hu eh645 (Ne.symm (fresh_ne fad219 (g206))) (g632)
  have g658 : h645 ad190 = some (eA 0 120 (fun _ => vI 0)) := s_hu eh645 (Ne.symm (fresh_ne fad190 (g178))) (g633)
  have g659 : h645 ad163 = some (eA 0 24 (fun _ => vI 0)) := s_hu eh645 (Ne.symm (fresh_ne fad163 (g152))) (g634)
  have g660 : h645 ad138 = some (eA 0 24 (fun _ => vI 0)) := s_hu eh645 (Ne.symm (fresh_ne fad138 (g128))) (g635)
  have g661 : h645 ad115 = some (eA 1 24 (fun _ => vI 0)) := s_hu eh645 (Ne.symm (fresh_ne fad115 (g106))) (g636)
  have g662 : h645 ad94 = some (eA 0 24 (fun _ => vI 0)) := s_hu eh645 (Ne.symm (fresh_ne fad94 (g86))) (g637)
  have g663 : h645 ad75 = some (eA 0 24 (fun _ => vI 0)) := s_hu eh645 (Ne.symm (fresh_ne fad75 (g68))) (g638)
  have g664 : h645 ad58 = some (eA 0 24 (fun _ => vI 0)) := s_hu eh645 (Ne.symm (fresh_ne fad58 (g52))) (g639)
  have g665 : h645 ad43 = some (eA 0 5 (fun _ => vI 0)) := s_hu eh645 (Ne.symm (fresh_ne fad43 (g38))) (g640)
  have g666 : h645 ad30 = some (eA 0 5 (fun _ => vI 0)) := s_hu eh645 (Ne.symm (fresh_ne fad30 (g26))) (g641)
  have g667 : h645 ad19 = some (eA 1 5 (fun _ => vI 0)) := s_hu eh645 (Ne.symm (fresh_ne fad19 (g16))) (g642)
  have g668 : h645 ad10 = some (eA 1 5 (fun _ => vI 0)) := s_hu eh645 (Ne.symm (fresh_ne fad10 (g8))) (g643)
  have g669 : h645 ad3 = some (eA 0 5 (fun _ => vI 0)) := s_hu eh645 (Ne.symm (fresh_ne fad3 (g2))) (g644)
  have ndh645 := nd_put ndh620 eh645
  have hn9 : List.Nodup [ad619, ad570, ad523, ad478, ad435, ad394, ad355, ad318, ad283, ad250, ad219, ad190, ad163, ad138, ad115, ad94, ad75, ad58, ad43, ad30, ad19, ad10, ad3, o] := ndh645.1
  obtain ⟨L9, hL9⟩ : ∃ z, z = [ad619, ad570, ad523, ad478, ad435, ad394, ad355, ad318, ad283, ad250, ad219, ad190, ad163, ad138, ad115, ad94, ad75, ad58, ad43, ad30, ad19, ad10, ad3, o] := ⟨_, rfl⟩
  have gi9 := gL_inj (L := L9) (by rw [hL9]; exact hn9) (by rw [hL9]; rfl)
  have g0_0 : gL L9 0 = o := by rw [hL9]; rfl
  have g0_3 : gL L9 3 = ad3 := by rw [hL9]; rfl
  have g0_4 : gL L9 4 = ad10 := by rw [hL9]; rfl
  have g0_5 : gL L9 5 = ad19 := by rw [hL9]; rfl
  have g0_6 : gL L9 6 = ad30 := by rw [hL9]; rfl
  have g0_7 : gL L9 7 = ad43 := by rw [hL9]; rfl
  have g0_9 : gL L9 9 = ad58 := by rw [hL9]; rfl
  have g0_10 : gL L9 10 = ad75 := by rw [hL9]; rfl
  have g0_11 : gL L9 11 = ad94 := by rw [hL9]; rfl
  have g0_12 : gL L9 12 = ad115 := by rw [hL9]; rfl
  have g0_13 : gL L9 13 = ad138 := by rw [hL9]; rfl
  have g0_14 : gL L9 14 = ad163 := by rw [hL9]; rfl
  have g0_15 : gL L9 15 = ad190 := by rw [hL9]; rfl
  have g0_17 : gL L9 17 = ad219 := by rw [hL9]; rfl
  have g0_18 : gL L9 18 = ad250 := by rw [hL9]; rfl
  have g0_19 : gL L9 19 = ad283 := by rw [hL9]; rfl
  have g0_20 : gL L9 20 = ad318 := by rw [hL9]; rfl
  have g0_21 : gL L9 21 = ad355 := by rw [hL9]; rfl
  have g0_22 : gL L9 22 = ad394 := by rw [hL9]; rfl
  have g0_23 : gL L9 23 = ad435 := by rw [hL9]; rfl
  have g0_25 : gL L9 25 = ad478 := by rw [hL9]; rfl
  have g0_26 : gL L9 26 = ad523 := by rw [hL9]; rfl
  have g0_27 : gL L9 27 = ad570 := by rw [hL9]; rfl
  have g0_28 : gL L9 28 = ad619 := by rw [hL9]; rfl
  have hmI : MI (gL L9) sig0 h645 := by
    refine ⟨gi9, fun k hk => ?_⟩
    have hk2 := mKb_lt hk
    rcases (by omega : k = 0 ∨ k = 1 ∨ k = 2 ∨ k = 3 ∨ k = 4 ∨ k = 5 ∨ k = 6 ∨ k = 7 ∨ k = 8 ∨ k = 9 ∨ k = 10 ∨ k = 11 ∨ k = 12 ∨ k = 13 ∨ k = 14 ∨ k = 15 ∨ k = 16 ∨ k = 17 ∨ k = 18 ∨ k = 19 ∨ k = 20 ∨ k = 21 ∨ k = 22 ∨ k = 23 ∨ k = 24 ∨ k = 25 ∨ k = 26 ∨ k = 27 ∨ k = 28 ∨ k = 29 ∨ k = 30) with rfl | rfl | rfl | rfl | rfl | rfl | rfl | rfl | rfl | rfl | rfl | rfl | rfl | rfl | rfl | rfl | rfl | rfl | rfl | rfl | rfl | rfl | rfl | rfl | rfl | rfl | rfl | rfl | rfl | rfl | rfl
    · show h645 (gL L9 0) = some (mObj (gL L9) sig0)
      unfold mObj
      rw [g0_0, g0_3, g0_4, g0_5, g0_6, g0_7, g0_9, g0_10, g0_11, g0_12, g0_13, g0_14, g0_15, g0_17, g0_18, g0_19, g0_20, g0_21, g0_22, g0_23, g0_25, g0_26, g0_27, g0_28]
      exact g646
    · exact absurd hk (by decide)
    · exact absurd hk (by decide)
    · rw [g0_3]; exact g669
    · rw [g0_4]; exact g668
    · rw [g0_5]; exact g667
    · rw [g0_6]; exact g666
    · rw [g0_7]; exact g665
    · exact absurd hk (by decide)
    · rw [g0_9]; exact g664
    · rw [g0_10]; exact g663
    · rw [g0_11]; exact g662
    · rw [g0_12]; exact g661
    · rw [g0_13]; exact g660
    · rw [g0_14]; exact g659
    · rw [g0_15]; exact g658
    · exact absurd hk (by decide)
    · rw [g0_17]; exact g657
    · rw [g0_18]; exact g656
    · rw [g0_19]; exact g655
    · rw [g0_20]; exact g654
    · rw [g0_21]; exact g653
    · rw [g0_22]; exact g652
    · rw [g0_23]; exact g651
    · exact absurd hk (by decide)
    · rw [g0_25]; exact g650
    · rw [g0_26]; exact g649
    · rw [g0_27]; exact g648
    · rw [g0_28]; exact g647
    · exact absurd hk (by decide)
    · exact absurd hk (by decide)
  exact z_vret F hr (Nat.le_of_ble_eq_true rfl) (Nat.le_of_ble_eq_true rfl) dX9_init_193 (⟨rfl, gL L9, g0_0, hmI⟩)
theorem sig0_V : MV sig0 := by
  have z : ∀ k j, k ≠ 1 → sig0 k j = 0 := fun k j h => if_neg h
  unfold MV
  rw [z 0 0 (by decide), z 2 0 (by decide), z 8 0 (by decide), z 16 0 (by decide), z 24 0 (by decide), z 29 0 (by decide), show sig0 1 0 = 102 from rfl]
  refine ⟨by decide, Or.inl rfl, by decide, by decide, by decide, by decide, by decide, fun i h0 h1 => ?_, fun e h0 h1 => absurd h1 (by omega), fun i h0 h1 => ⟨fun _ => ⟨rfl, rfl⟩, fun h => absurd h (by omega)⟩, fun c h0 h1 => ⟨Or.inl rfl, fun _ => rfl, fun h => absurd h (by omega)⟩, fun j h0 h1 => (by decide : (0 : Int) ≤ 0 ∧ (0 : Int) < 65536)⟩
  exact ⟨(by decide : (0 : Int) ≤ 0 ∧ (0 : Int) < 65536), (by decide : (0 : Int) ≤ 0 ∧ (0 : Int) < 65536), fun _ => rfl, fun h => absurd h (by omega)⟩
