section ZLOW
variable {p : Program} {l : Launch} {e : Env} {R : Room} {s : State} {m : MethodId} {args : Array Value} {below : List Frame} {meth : Method} {c : Code} {own : String} {cc : ByteArray} {nL : Nat} {G : GG} {N0 : Nat} {A : Nat → Prop}
variable {Q : State → Prop} {h : Hp} {k n pc : Nat} {lv : List (Nat × AV)} {st : List AV}
/-- an object is not the shared empty array -/
theorem z_low {a : Nat} {x : AE} (F : Fx p s m args meth c own cc nL G N0 A) (ha : h a = some x) (K : a ≠ G.2.2 0 → Z p l e R s m args below meth c nL G N0 A Q h k n pc lv st) : Z p l e R s m args below meth c nL G N0 A Q h k n pc lv st := by
  obtain ⟨hx, hb, hml, hown, hts, hlocks, hKD, hSF, hA0, hAN⟩ := F
  intro H locs ls hP hA hS hl
  have h1 := (hP a x ha).1
  obtain ⟨-, -, hT, -⟩ := hSF
  obtain ⟨cell, -, -, -, -, -, -, hn⟩ := hT
  exact K (fun e => hn (by show N0 ≤ G.2.2 0; rw [← e]; exact h1)) H locs ls hP hA hS hl
end ZLOW
/-- a private constructor of a class of the nest -/
theorem z_callIN9 {p : Program} {l : Launch} {e : Env} {R : Room} {s : State} {m : MethodId} {args : Array Value} {below : List Frame} {meth : Method} {c : Code} {cc : ByteArray} {nL : Nat} {G : GG} {N0 : Nat} {A : Nat → Prop} {Q : State → Prop} {h : Hp} {k n pc : Nat} {lv : List (Nat × AV)} {st st0 : List AV} {b : Nat} {rm : Room} {P : Option AV → Hp → Prop} (F : Fx p s m args meth c RX8 cc nL G N0 A) (hM : Ct l G N0 yX7_init (Cond.code yX7_init cX7_init 1 none :: LW) rm [vR b] h P) (hst : st0 = vR b :: st) (hR : rm.frames + 1 ≤ R.frames ∧ 8 + (1 + 11) + rm.locals ≤ R.locals) (hcat : (catS st).ble 8 = true) (hf : k + rm.cells ≤ R.cells ∧ n + rm.slots ≤ R.slots) (d : decode cc pc = .ok (.invokespecial 9, 3))
    (K : ∀ (r : Option AV) (h' : Hp), P r h' → Z p l e R s m args below meth c nL G N0 A Q h' (k + rm.cells) (n + rm.slots) (pc + 3) lv (rl r st)) : Z p l e R s m args below meth c nL G N0 A Q h k n pc lv st0 := by
  intro H locs ls hP hA hS hl
  have F' := F
  obtain ⟨hx, hb, hml, hown, hts, hlocks, hKD, hSF, hA0, hAN⟩ := F'
  obtain ⟨-, -, -, -, -, hST, -⟩ := hSF
  obtain ⟨-, -, -, -, -, -, hN, -⟩ := hST
  have hlink : (Cond.methodLinkNest RX8 9 yX7_init RX8).before args s = true := va_Nw.use rfl hN
  have hG : GoodIn LW (Cond.code yX7_init cX7_init 1 none :: LW) := giW q51
  have hc : Cond.code yX7_init cX7_init 1 none ∈ (Cond.code yX7_init cX7_init 1 none :: LW) := List.mem_cons_self
  subst hst
  refine z_after F hA hS hl (va_runIN (As := []) (rest := st.map cv) (b := b) (host := RX8) (n := 0) ⟨hx, hb, hml, hown, hts⟩ (hM H.size) ⟨⟨⟨rfl, rfl, hR.1, hR.2, pay_in hts hG, hc⟩, hts _ (hG _ hc).1, hts _ q2, ⟨by decide +kernel, by decide +kernel⟩, fun sig h9 => ?_, hlink⟩, rfl, hts _ q50⟩ ⟨cPc_blind _ _ _ _ _, call_pre (As := [vR b]) F hP hS⟩ rfl rfl hl.1 rfl (catZ hcat) d hf) K
  have h2 : (parseMethodDescriptor yX7_init.desc).map (fun d => d.parameters.length) = some 0 := by decide +kernel
  rw [h9] at h2
  exact (Option.some.inj h2).symm
/-- objects by roles, no two at one address -/
def OWN (L : List (Int × Nat × AE)) (h : Hp) : Prop := (∀ x ∈ L, h x.2.1 = some x.2.2) ∧ ∀ x ∈ L, ∀ y ∈ L, x.2.1 = y.2.1 → x.1 = y.1
section OWN
variable {L : List (Int × Nat × AE)} {h h1 h2 : Hp} {o q q2 : Nat} {e d x x2 : AE} {r r2 : Int}
theorem OWN.hd (W : OWN ((0, o, e) :: L) h) : h o = some e := W.1 (0, o, e) (List.mem_cons_self)
theorem OWN.one (h0 : h o = some e) : OWN [(0, o, e)] h := ⟨fun x hx => by rw [List.mem_singleton.mp hx]; exact h0, fun x hx y hy _ => by rw [List.mem_singleton.mp hx, List.mem_singleton.mp hy]⟩
theorem OWN.new (W : OWN ((0, o, e) :: L) h) (hq : h q = none) : OWN ((0, o, e) :: (r, q, x) :: L) (hu h q x) := by
  have ne : ∀ y ∈ (0, o, e) :: L, y.2.1 ≠ q := fun y hy => fresh_ne hq (W.1 y hy)
  have sp : ∀ y, y ∈ (0, o, e) :: (r, q, x) :: L → y = (r, q, x) ∨ y ∈ (0, o, e) :: L := fun y hy => by
    rcases List.mem_cons.mp hy with z | z
    · exact Or.inr (List.mem_cons.mpr (Or.inl z))
    · rcases List.mem_cons.mp z with z | z
      · exact Or.inl z
      · exact Or.inr (List.mem_cons.mpr (Or.inr z))
  refine ⟨fun y hy => ?_, fun y hy y2 hy2 ee => ?_⟩
  · rcases sp y hy with z | z
    · rw [z]; exact hu_s _ _ _
    · rw [hu_n _ _ (ne y z)]; exact W.1 y z
  · rcases sp y hy with z | z
    · rcases sp y2 hy2 with w | w
      · rw [z, w]
      · rw [z] at ee; exact absurd ee.symm (ne y2 w)
    · rcases sp y2 hy2 with w | w
      · rw [w] at ee; exact absurd ee (ne y z)
      · exact W.2 y z y2 w ee
theorem OWN.put (W : OWN ((0, o, e) :: L) h) (hL : ∀ y ∈ L, y.2.1 ≠ o) : OWN ((0, o, d) :: L) (hu h o d) := by
  refine ⟨fun y hy => ?_, fun y hy y2 hy2 ee => ?_⟩
  · rcases List.mem_cons.mp hy with z | z
    · rw [z]; exact hu_s _ _ _
    · rw [hu_n _ _ (hL y z)]; exact W.1 y (List.mem_cons.mpr (Or.inr z))
  · rcases List.mem_cons.mp hy with z | z
    · rcases List.mem_cons.mp hy2 with w | w
      · rw [z, w]
      · rw [z] at ee; exact absurd ee.symm (hL y2 w)
    · rcases List.mem_cons.mp hy2 with w | w
      · rw [w] at ee; exact absurd ee (hL y z)
      · exact W.2 y (List.mem_cons.mpr (Or.inr z)) y2 (List.mem_cons.mpr (Or.inr w)) ee
theorem OWN.ne (W : OWN ((0, o, e) :: L) h) (hr : ∀ y ∈ L, y.1 ≠ 0) : ∀ y ∈ L, y.2.1 ≠ o := fun y hy z => hr y hy (W.2 y (List.mem_cons.mpr (Or.inr hy)) _ List.mem_cons_self z)
/-- a new one that its constructor fills -/
theorem OWN.new1 (W : OWN ((0, o, e) :: L) h) (r : Int) (hq : h q = none) (e1 : hu h q d = h1) (e9 : h2 = hu h1 q x) : OWN ((0, o, e) :: (r, q, x) :: L) h2 := by
  rw [e9, ← e1, hu_hu]
  exact W.new hq
/-- .. with a new one of its own -/
theorem OWN.new2 (W : OWN ((0, o, e) :: L) h) (r r2 : Int) (hq : h q = none) (e1 : hu h q d = h1) (hq2 : h1 q2 = none) (e9 : h2 = hu (hu h1 q2 x2) q x) : OWN ((0, o, e) :: (r, q, x) :: (r2, q2, x2) :: L) h2 := by
  have hne : q2 ≠ q := fun z => by rw [z, ← e1, hu_s] at hq2; cases hq2
  have hq3 : h q2 = none := by rw [← e1, hu_n _ _ hne] at hq2; exact hq2
  have e : h2 = hu (hu h q2 x2) q x := by
    rw [e9, ← e1]
    funext a
    by_cases z : a = q
    · rw [z, hu_s, hu_s]
    · rw [hu_n _ _ z, hu_n _ _ z]
      by_cases y : a = q2
      · rw [y, hu_s, hu_s]
      · rw [hu_n _ _ y, hu_n _ _ y, hu_n _ _ z]
  rw [e]
  exact (W.new (r := r2) (x := x2) hq3).new (by rw [hu_n _ _ (Ne.symm hne)]; exact hq)
end OWN
set_option maxRecDepth 100000 in
set_option maxHeartbeats 4000000 in
theorem mX7_init (l : Launch) (G : GG) (N0 : Nat) (h : Hp) (o : Nat) (ho : h o = some (eO 12 [vN, vI 0, vI 0])) : Ct l G N0 yX7_init (Cond.code yX7_init cX7_init 1 none :: LW) ({ frames := 4, cells := 1, slots := 3, locals := 220 }) [vR o] h (fun r h' => r = none ∧ ∃ q2, h q2 = none ∧ h' = hu (hu h q2 (eO 4 [vI 0, vR (G.2.2 0), vI 0])) o (eO 12 [vR q2, vI 0, vI 102])) := by
  refine ct_of rfl rfl ?_
  intro p e s m args below meth c F hr hnm
  have F : Fx p s m args meth c RX7 cX7_init 1 G N0 (cA h s.heap.size) := F
  show Z _ _ _ _ _ _ _ _ _ _ _ _ _ _ _ _ _ _ _ [(0, vR o)] []
  refine z_aload_n F dX7_init_0 rfl 0 rfl ?_
  refine z_objInit F oiX7_3 (Nat.le_of_ble_eq_true rfl) (Nat.le_of_ble_eq_true rfl) rfl dX7_init_1 ?_
  refine z_aload_n F dX7_init_4 rfl 0 rfl ?_
  refine z_new (N := 3) F nwX7_9 (fun r9 h9 => by cases h9; rfl) (Nat.le_of_ble_eq_true rfl) (Nat.le_of_ble_eq_true rfl) dX7_init_5 (fun ad1 fad1 => ?_)
  generalize eh2 : hu h ad1 (eO 4 [vI 0, vN, vI 0]) = h2
  have g3 : h2 ad1 = some (eO 4 [vI 0, vN, vI 0]) := by rw [← eh2]; exact hu_s _ _ _
  have g4 : h2 o = some (eO 12 [vN, vI 0, vI 0]) := s_hu eh2 (fresh_ne fad1 (ho)) (ho)
  refine z_dup F dX7_init_8 rfl ?_
  refine z_callI (rm := { frames := 3, cells := 0, slots := 0, locals := 180 }) (As := []) (st := [vR ad1, vR o]) F (mJx4a65c_init_da8c8 l G N0 h2 ad1 (g3)) ciX7_11 rfl rfl ⟨Nat.le_of_ble_eq_true rfl, Nat.le_of_ble_eq_true rfl⟩ rfl ⟨Nat.le_of_ble_eq_true rfl, Nat.le_of_ble_eq_true rfl⟩ dX7_init_9 ?_
  rintro _ h9 ⟨rfl, k9⟩
  have go9 : h9 o = some (eO 12 [vN, vI 0, vI 0]) := by rw [k9, hu_n _ _ (fresh_ne fad1 (ho))]; exact g4
  have gq9 : h9 ad1 = some (eO 4 [vI 0, vR (G.2.2 0), vI 0]) := by rw [k9]; exact hu_s _ _ _
  show Z _ _ _ _ _ _ _ _ _ _ _ _ _ _ _ _ _ _ _ _ [vR ad1, vR o]
  obtain ⟨h5, eh5⟩ : ∃ z : Hp, hu h9 o (eO 12 [vR ad1, vI 0, vI 0]) = z := ⟨_, rfl⟩
  refine z_putF (fs := [vN, vI 0, vI 0]) (fs' := [vR ad1, vI 0, vI 0]) (h' := h5) F hnm go9 fX7_12 ftX7_0 (nf_q _ _) (Nat.le_of_ble_eq_true rfl) rfl (fun r9 h9 => by cases h9; rfl) dX7_init_12 eh5 ?_
  have g6 : h5 o = some (eO 12 [vR ad1, vI 0, vI 0]) := by rw [← eh5]; exact hu_s _ _ _
  have g7 : h5 ad1 = some (eO 4 [vI 0, vR (G.2.2 0), vI 0]) := s_hu eh5 (Ne.symm (fresh_ne fad1 (ho))) (gq9)
  refine z_aload_n F dX7_init_15 rfl 0 rfl ?_
  refine z_bipush F dX7_init_16 (by decide) ?_
  obtain ⟨h8, eh8⟩ : ∃ z : Hp, hu h5 o (eO 12 [vR ad1, vI 0, vI 102]) = z := ⟨_, rfl⟩
  refine z_put (fs := [vR ad1, vI 0, vI 0]) (fs' := [vR ad1, vI 0, vI 102]) (h' := h8) F g6 fX7_18 ftX7_2 (nf_c (by omega)) (Nat.le_of_ble_eq_true rfl) rfl dX7_init_18 eh8 ?_
  have g9 : h8 o = some (eO 12 [vR ad1, vI 0, vI 102]) := by rw [← eh8]; exact hu_s _ _ _
  have g10 : h8 ad1 = some (eO 4 [vI 0, vR (G.2.2 0), vI 0]) := s_hu eh8 (Ne.symm (fresh_ne fad1 (ho))) (g7)
  exact z_vret F hr (Nat.le_of_ble_eq_true rfl) (Nat.le_of_ble_eq_true rfl) dX7_init_21 (⟨rfl, ad1, fad1, by rw [← eh8, ← eh5, hu_hu, k9, ← eh2, hu_hu]⟩)
set_option maxRecDepth 100000 in
set_option maxHeartbeats 4000000 in
theorem mX5_init (l : Launch) (G : GG) (N0 : Nat) (h : Hp) (o sh tl : Nat) (ho : h o = some (eO 10 [vN, vN, vN])) : Ct l G N0 yX5_init (Cond.code yX5_init cX5_init 3 none :: LW) ({ frames := 4, cells := 1, slots := 3, locals := 240 }) [vR o, vR sh, vR tl] h (fun r h' => r = none ∧ ∃ q2, h q2 = none ∧ h' = hu (hu h q2 (eO 4 [vI 0, vR (G.2.2 0), vI 0])) o (eO 10 [vR q2, vR sh, vR tl])) := by
  refine ct_of rfl rfl ?_
  intro p e s m args below meth c F hr hnm
  have F : Fx p s m args meth c RX5 cX5_init 3 G N0 (cA h s.heap.size) := F
  show Z _ _ _ _ _ _ _ _ _ _ _ _ _ _ _ _ _ _ _ [(0, vR o), (1, vR sh), (2, vR tl)] []
  refine z_aload_n F dX5_init_0 rfl 0 rfl ?_
  refine z_objInit F oiX5_3 (Nat.le_of_ble_eq_true rfl) (Nat.le_of_ble_eq_true rfl) rfl dX5_init_1 ?_
  refine z_aload_n F dX5_init_4 rfl 0 rfl ?_
  refine z_new (N := 3) F nwX5_9 (fun r9 h9 => by cases h9; rfl) (Nat.le_of_ble_eq_true rfl) (Nat.le_of_ble_eq_true rfl) dX5_init_5 (fun ad1 fad1 => ?_)
  generalize eh2 : hu h ad1 (eO 4 [vI 0, vN, vI 0]) = h2
  have g3 : h2 ad1 = some (eO 4 [vI 0, vN, vI 0]) := by rw [← eh2]; exact hu_s _ _ _
  have g4 : h2 o = some (eO 10 [vN, vN, vN]) := s_hu eh2 (fresh_ne fad1 (ho)) (ho)
  refine z_dup F dX5_init_8 rfl ?_
  refine z_callI (rm := { frames := 3, cells := 0, slots := 0, locals := 180 }) (As := []) (st := [vR ad1, vR o]) F (mJx4a65c_init_da8c8 l G N0 h2 ad1 (g3)) ciX5_11 rfl rfl ⟨Nat.le_of_ble_eq_true rfl, Nat.le_of_ble_eq_true rfl⟩ rfl ⟨Nat.le_of_ble_eq_true rfl, Nat.le_of_ble_eq_true rfl⟩ dX5_init_9 ?_
  rintro _ h9 ⟨rfl, k9⟩
  have go9 : h9 o = some (eO 10 [vN, vN, vN]) := by rw [k9, hu_n _ _ (fresh_ne fad1 (ho))]; exact g4
  have gq9 : h9 ad1 = some (eO 4 [vI 0, vR (G.2.2 0), vI 0]) := by rw [k9]; exact hu_s _ _ _
  show Z _ _ _ _ _ _ _ _ _ _ _ _ _ _ _ _ _ _ _ _ [vR ad1, vR o]
  obtain ⟨h5, eh5⟩ : ∃ z : Hp, hu h9 o (eO 10 [vR ad1, vN, vN]) = z := ⟨_, rfl⟩
  refine z_putF (fs := [vN, vN, vN]) (fs' := [vR ad1, vN, vN]) (h' := h5) F hnm go9 fX5_12 ftX5_0 (nf_q _ _) (Nat.le_of_ble_eq_true rfl) rfl (fun r9 h9 => by cases h9; rfl) dX5_init_12 eh5 ?_
  have g6 : h5 o = some (eO 10 [vR ad1, vN, vN]) := by rw [← eh5]; exact hu_s _ _ _
  have g7 : h5 ad1 = some (eO 4 [vI 0, vR (G.2.2 0), vI 0]) := s_hu eh5 (Ne.symm (fresh_ne fad1 (ho))) (gq9)
  refine z_aload_n F dX5_init_15 rfl 0 rfl ?_
  refine z_aload_n F dX5_init_16 rfl 1 rfl ?_
  obtain ⟨h8, eh8⟩ : ∃ z : Hp, hu h5 o (eO 10 [vR ad1, vR sh, vN]) = z := ⟨_, rfl⟩
  refine z_putF (fs := [vR ad1, vN, vN]) (fs' := [vR ad1, vR sh, vN]) (h' := h8) F hnm g6 fX5_18 ftX5_1 (nf_q _ _) (Nat.le_of_ble_eq_true rfl) rfl (fun r9 h9 => by cases h9; rfl) dX5_init_17 eh8 ?_
  have g9 : h8 o = some (eO 10 [vR ad1, vR sh, vN]) := by rw [← eh8]; exact hu_s _ _ _
  have g10 : h8 ad1 = some (eO 4 [vI 0, vR (G.2.2 0), vI 0]) := s_hu eh8 (Ne.symm (fresh_ne fad1 (ho))) (g7)
  refine z_aload_n F dX5_init_20 rfl 0 rfl ?_
  refine z_aload_n F dX5_init_21 rfl 2 rfl ?_
  obtain ⟨h11, eh11⟩ : ∃ z : Hp, hu h8 o (eO 10 [vR ad1, vR sh, vR tl]) = z := ⟨_, rfl⟩
  refine z_putF (fs := [vR ad1, vR sh, vN]) (fs' := [vR ad1, vR sh, vR tl]) (h' := h11) F hnm g9 fX5_22 ftX5_2 (nf_q _ _) (Nat.le_of_ble_eq_true rfl) rfl (fun r9 h9 => by cases h9; rfl) dX5_init_22 eh11 ?_
  have g12 : h11 o = some (eO 10 [vR ad1, vR sh, vR tl]) := by rw [← eh11]; exact hu_s _ _ _
  have g13 : h11 ad1 = some (eO 4 [vI 0, vR (G.2.2 0), vI 0]) := s_hu eh11 (Ne.symm (fresh_ne fad1 (ho))) (g10)
  exact z_vret F hr (Nat.le_of_ble_eq_true rfl) (Nat.le_of_ble_eq_true rfl) dX5_init_25 (⟨rfl, ad1, fad1, by rw [← eh11, ← eh8, ← eh5, hu_hu, hu_hu, k9, ← eh2, hu_hu]⟩)
set_option maxRecDepth 100000 in
set_option maxHeartbeats 4000000 in
theorem mX6_init (l : Launch) (G : GG) (N0 : Nat) (h : Hp) (o sh : Nat) (ho : h o = some (eO 11 [vN, vN, vI 0, vI 0])) : Ct l G N0 yX6_init (Cond.code yX6_init cX6_init 2 none :: LW) ({ frames := 1, cells := 1, slots := 120, locals := 100 }) [vR o, vR sh] h (fun r h' => r = none ∧ ∃ q2, h q2 = none ∧ h' = hu (hu h q2 (eA 0 120 (fun _ => vI 0))) o (eO 11 [vR sh, vR q2, vI 0, vI 0])) := by
  refine ct_of rfl rfl ?_
  intro p e s m args below meth c F hr hnm
  have F : Fx p s m args meth c RX6 cX6_init 2 G N0 (cA h s.heap.size) := F
  show Z _ _ _ _ _ _ _ _ _ _ _ _ _ _ _ _ _ _ _ [(0, vR o), (1, vR sh)] []
  refine z_aload_n F dX6_init_0 rfl 0 rfl ?_
  refine z_objInit F oiX6_3 (Nat.le_of_ble_eq_true rfl) (Nat.le_of_ble_eq_true rfl) rfl dX6_init_1 ?_
  refine z_aload_n F dX6_init_4 rfl 0 rfl ?_
  refine z_bipush F dX6_init_5 (by decide) ?_
  refine z_newarr (kk := 0) (N := 120) (v0 := vI 0) (ty := .int) F rfl q115 rfl (fun C9 h9 => by cases h9) rfl rfl (by decide) (by decide) (Nat.le_of_ble_eq_true rfl) (Nat.le_of_ble_eq_true rfl) dX6_init_7 (fun ad1 fad1 => ?_)
  generalize eh2 : hu h ad1 (eA 0 120 (fun _ => vI 0)) = h2
  have g3 : h2 ad1 = some (eA 0 120 (fun _ => vI 0)) := by rw [← eh2]; exact hu_s _ _ _
  have g4 : h2 o = some (eO 11 [vN, vN, vI 0, vI 0]) := s_hu eh2 (fresh_ne fad1 (ho)) (ho)
  obtain ⟨h5, eh5⟩ : ∃ z : Hp, hu h2 o (eO 11 [vN, vR ad1, vI 0, vI 0]) = z := ⟨_, rfl⟩
  refine z_putF (fs := [vN, vN, vI 0, vI 0]) (fs' := [vN, vR ad1, vI 0, vI 0]) (h' := h5) F hnm g4 fX6_9 ftX6_1 (nf_a _ _) (Nat.le_of_ble_eq_true rfl) rfl (fun r9 h9 => by cases h9; rfl) dX6_init_9 eh5 ?_
  have g6 : h5 o = some (eO 11 [vN, vR ad1, vI 0, vI 0]) := by rw [← eh5]; exact hu_s _ _ _
  have g7 : h5 ad1 = some (eA 0 120 (fun _ => vI 0)) := s_hu eh5 (Ne.symm (fresh_ne fad1 (ho))) (g3)
  refine z_aload_n F dX6_init_12 rfl 0 rfl ?_
  refine z_aload_n F dX6_init_13 rfl 1 rfl ?_
  obtain ⟨h8, eh8⟩ : ∃ z : Hp, hu h5 o (eO 11 [vR sh, vR ad1, vI 0, vI 0]) = z := ⟨_, rfl⟩
  refine z_putF (fs := [vN, vR ad1, vI 0, vI 0]) (fs' := [vR sh, vR ad1, vI 0, vI 0]) (h' := h8) F hnm g6 fX6_15 ftX6_0 (nf_q _ _) (Nat.le_of_ble_eq_true rfl) rfl (fun r9 h9 => by cases h9; rfl) dX6_init_14 eh8 ?_
  have g9 : h8 o = some (eO 11 [vR sh, vR ad1, vI 0, vI 0]) := by rw [← eh8]; exact hu_s _ _ _
  have g10 : h8 ad1 = some (eA 0 120 (fun _ => vI 0)) := s_hu eh8 (Ne.symm (fresh_ne fad1 (ho))) (g7)
  exact z_vret F hr (Nat.le_of_ble_eq_true rfl) (Nat.le_of_ble_eq_true rfl) dX6_init_17 (⟨rfl, ad1, fad1, by rw [← eh8, ← eh5, hu_hu, ← eh2]⟩)
/-- the numbers of a new ledger -/
def iniS (G : GG) (b : Nat) : Sg := fun k j => if k = 1 then 102 else if k = 37 ∧ j = 0 then 16 else if k = 40 then (if j = 5 then (b : Int) else (G.2.2 0 : Int)) else 0
def iniG (o a1 a2 a3 a4 a5 a6 a7 a9 a11 a13 a14 a15 a17 : Nat) : Int → Nat := fun r => if r = 0 then o else if r = 13 then a13 else if r = 14 then a14 else if r = 11 then a11 else if r = 9 then a9 else if r = 7 then a7 else if r = 6 then a6 else if r = 17 then a17 else if r = 3 then a3 else if r = 5 then a5 else if r = 2 then a2 else if r = 4 then a4 else if r = 1 then a1 else if r = 15 then a15 else 0
theorem cAr0 {N n : Int} {b : Int → Nat} {x : AE} (hN : N = 0) (h : cAr N n b = some x) : False := by
  unfold cAr at h
  rw [if_neg (by omega)] at h
  cases h
theorem CI_ini {G : GG} {h : Hp} {o a1 a2 a3 a4 a5 a6 a7 a9 a11 a13 a14 a15 a17 : Nat} (W : OWN [(0, o, eO 13 [vR a1, vR a2, vR a3, vR a6, vR a7, vR a9, vR a11, vR a13]), (13, a13, eO 1 [vR a14, vI 0, vI 0, vI 0]), (14, a14, eA 4 16 (fun _ => vI 0)), (11, a11, eO 4 [vI 0, vR (G.2.2 0), vI 0]), (9, a9, eO 4 [vI 0, vR (G.2.2 0), vI 0]), (7, a7, eO 4 [vI 0, vR (G.2.2 0), vI 0]), (6, a6, eO 10 [vR a17, vR a1, vR a2]), (17, a17, eO 4 [vI 0, vR (G.2.2 0), vI 0]), (3, a3, eO 11 [vR a1, vR a5, vI 0, vI 0]), (5, a5, eA 0 120 (fun _ => vI 0)), (2, a2, eO 11 [vR a1, vR a4, vI 0, vI 0]), (4, a4, eA 0 120 (fun _ => vI 0)), (1, a1, eO 12 [vR a15, vI 0, vI 102]), (15, a15, eO 4 [vI 0, vR (G.2.2 0), vI 0])] h) (hz : a17 ≠ G.2.2 0) : CI G (iniG o a1 a2 a3 a4 a5 a6 a7 a9 a11 a13 a14 a15 a17) (iniS G a14) h := by
  obtain ⟨L, hL⟩ : ∃ z, z = ([(0, o, eO 13 [vR a1, vR a2, vR a3, vR a6, vR a7, vR a9, vR a11, vR a13]), (13, a13, eO 1 [vR a14, vI 0, vI 0, vI 0]), (14, a14, eA 4 16 (fun _ => vI 0)), (11, a11, eO 4 [vI 0, vR (G.2.2 0), vI 0]), (9, a9, eO 4 [vI 0, vR (G.2.2 0), vI 0]), (7, a7, eO 4 [vI 0, vR (G.2.2 0), vI 0]), (6, a6, eO 10 [vR a17, vR a1, vR a2]), (17, a17, eO 4 [vI 0, vR (G.2.2 0), vI 0]), (3, a3, eO 11 [vR a1, vR a5, vI 0, vI 0]), (5, a5, eA 0 120 (fun _ => vI 0)), (2, a2, eO 11 [vR a1, vR a4, vI 0, vI 0]), (4, a4, eA 0 120 (fun _ => vI 0)), (1, a1, eO 12 [vR a15, vI 0, vI 102]), (15, a15, eO 4 [vI 0, vR (G.2.2 0), vI 0])] : List (Int × Nat × AE)) := ⟨_, rfl⟩
  have key : ∀ r x, CE (iniG o a1 a2 a3 a4 a5 a6 a7 a9 a11 a13 a14 a15 a17) (iniS G a14) r = some x → (r, ad (iniG o a1 a2 a3 a4 a5 a6 a7 a9 a11 a13 a14 a15 a17) (iniS G a14) r, x) ∈ L := by
    intro r x hx
    rw [hL]
    by_cases q : r < 100
    · rw [CE_lt q] at hx
      by_cases z : r = 0 ∨ r = 1 ∨ r = 2 ∨ r = 3 ∨ r = 4 ∨ r = 5 ∨ r = 6 ∨ r = 7 ∨ r = 8 ∨ r = 9 ∨ r = 10 ∨ r = 11 ∨ r = 12 ∨ r = 13 ∨ r = 14 ∨ r = 15 ∨ r = 16 ∨ r = 17 ∨ r = 18
      · rcases z with rfl | rfl | rfl | rfl | rfl | rfl | rfl | rfl | rfl | rfl | rfl | rfl | rfl | rfl | rfl | rfl | rfl | rfl | rfl
        · exact Option.some.inj hx ▸ List.mem_of_getElem? (i := 0) rfl
        · exact Option.some.inj hx ▸ List.mem_of_getElem? (i := 12) rfl
        · exact Option.some.inj hx ▸ List.mem_of_getElem? (i := 10) rfl
        · exact Option.some.inj hx ▸ List.mem_of_getElem? (i := 8) rfl
        · exact Option.some.inj hx ▸ List.mem_of_getElem? (i := 11) rfl
        · exact Option.some.inj hx ▸ List.mem_of_getElem? (i := 9) rfl
        · exact Option.some.inj hx ▸ List.mem_of_getElem? (i := 6) rfl
        · exact Option.some.inj hx ▸ List.mem_of_getElem? (i := 5) rfl
        · exact (cAr0 (N := iniS G a14 33 0) (n := iniS G a14 2 0) (b := aC (iniS G a14)) rfl hx).elim
        · exact Option.some.inj hx ▸ List.mem_of_getElem? (i := 4) rfl
        · exact (cAr0 (N := iniS G a14 33 1) (n := iniS G a14 16 0) (b := aI (iniS G a14)) rfl hx).elim
        · exact Option.some.inj hx ▸ List.mem_of_getElem? (i := 3) rfl
        · exact (cAr0 (N := iniS G a14 33 2) (n := iniS G a14 24 0) (b := aK (iniS G a14)) rfl hx).elim
        · exact Option.some.inj hx ▸ List.mem_of_getElem? (i := 1) rfl
        · exact Option.some.inj hx ▸ List.mem_of_getElem? (i := 2) rfl
        · exact Option.some.inj hx ▸ List.mem_of_getElem? (i := 13) rfl
        · exact (cAr0 (N := iniS G a14 33 3) (n := iniS G a14 8 0) (b := aE (iniS G a14)) rfl hx).elim
        · exact Option.some.inj hx ▸ List.mem_of_getElem? (i := 7) rfl
        · exact (cAr0 (N := iniS G a14 33 4) (n := iniS G a14 36 0) (b := fun j => aE (iniS G a14) (iniS G a14 35 j)) rfl hx).elim
      · exfalso
        unfold cFix at hx
        repeat rw [if_neg (fun w => z (by omega))] at hx
        cases hx
    · exfalso
      unfold CE at hx
      rw [if_neg q] at hx
      by_cases q2 : r < 200
      · rw [if_pos q2] at hx
        have hx : (if r - 100 < 0 then some (cCl (iniS G a14) (r - 100)) else none) = some x := hx
        rw [if_neg (by omega)] at hx; cases hx
      rw [if_neg q2] at hx
      by_cases q3 : r < 300
      · rw [if_pos q3] at hx
        have hx : (if r - 200 < 0 then some (cEn (iniS G a14) (r - 200)) else none) = some x := hx
        rw [if_neg (by omega)] at hx; cases hx
      rw [if_neg q3] at hx
      by_cases q4 : r < 400
      · rw [if_pos q4] at hx
        have hx : (if r - 300 < 0 then some (cCo (iniS G a14) (r - 300)) else none) = some x := hx
        rw [if_neg (by omega)] at hx; cases hx
      rw [if_neg q4] at hx
      by_cases q5 : r < 500
      · rw [if_pos q5] at hx
        have hx : (if r - 400 < 0 then some (cIn (iniS G a14) (r - 400)) else none) = some x := hx
        rw [if_neg (by omega)] at hx; cases hx
      rw [if_neg q5] at hx
      by_cases q6 : r < 600
      · rw [if_pos q6] at hx
        have hx : (if r - 500 < 0 then some (cLst 0 (aM (iniS G a14) (r - 500)) 0) else none) = some x := hx
        rw [if_neg (by omega)] at hx; cases hx
      rw [if_neg q6] at hx
      by_cases q7 : r < 700
      · rw [if_pos q7] at hx
        have hx : (if r - 600 < 0 then cAr 0 0 (fun j => aN (iniS G a14) (40 * (r - 600) + j)) else none) = some x := hx
        rw [if_neg (by omega)] at hx; cases hx
      rw [if_neg q7] at hx
      have hx : (if (1000 ≤ r ∧ r < 1320) ∧ ((r - 1000) / 40 < 0 ∧ (r - 1000) % 40 < 0) then some (cLi (iniS G a14) (r - 1000)) else none) = some x := hx
      rw [if_neg (by omega)] at hx; cases hx
  rw [← hL] at W
  refine ⟨fun r x hx => W.1 _ (key r x hx), fun r r' h1 h2 e => ?_, ?_⟩
  · cases e1 : CE (iniG o a1 a2 a3 a4 a5 a6 a7 a9 a11 a13 a14 a15 a17) (iniS G a14) r with
    | none => exact absurd e1 h1
    | some x =>
      cases e2 : CE (iniG o a1 a2 a3 a4 a5 a6 a7 a9 a11 a13 a14 a15 a17) (iniS G a14) r' with
      | none => exact absurd e2 h2
      | some y => exact W.2 _ (key r x e1) _ (key r' y e2) e
  · have k0 : ∀ L : Int, L = 0 ∨ L = 1 ∨ L = 2 ∨ L = 3 ∨ L = 4 → KL G (iniS G a14 33 L) (aA (iniS G a14) L) 0 := fun L hL => by
      refine ⟨?_, fun _ => ?_⟩
      · show (0 : Int) ≤ 0 ∧ (0 : Int) ≤ 0 ∧ (0 : Int) ≤ 60
        omega
      · show (iniS G a14 40 L).toNat = _
        show (if L = 5 then (a14 : Int) else (G.2.2 0 : Int)).toNat = _
        rw [if_neg (by omega)]
        rfl
    refine ⟨k0 0 (by omega), k0 1 (by omega), k0 2 (by omega), k0 3 (by omega), k0 4 (by omega), fun i i0 i1 => ?_, fun j j0 j1 => ?_, hz⟩
    · exact absurd (show i < 0 from i1) (by omega)
    · exact absurd (show j < 0 from j1) (by omega)
theorem MC_ini (G : GG) (b : Nat) : MC (iniS G b) := by
  have z : ∀ k j, k ≠ 1 → k ≠ 37 → k ≠ 40 → iniS G b k j = 0 := fun k j h1 h2 h3 => by
    unfold iniS
    rw [if_neg h1, if_neg (fun w => h2 w.1), if_neg h3]
  have s1 : ∀ x, x < iniS G b 2 0 → x < 0 := fun x h => h
  refine ⟨(show (0 : Int) ≤ 0 ∧ (0 : Int) ≤ 2999 from by decide), Or.inl rfl, (show (0 : Int) ≤ 0 ∧ (0 : Int) ≤ 5 from by decide), (show (0 : Int) ≤ 0 ∧ (0 : Int) ≤ 24 from by decide), (show (0 : Int) ≤ 0 ∧ (0 : Int) ≤ 8 from by decide), (show (0 : Int) ≤ 0 ∧ (0 : Int) ≤ 16 from by decide), ⟨rfl, (show (0 : Int) ≤ 4 from by decide)⟩, fun i i0 i1 => ?_, fun i i0 i1 => ?_, fun i i0 i1 => ?_, fun i i0 i1 => ?_, ⟨fun _ _ => z _ _ (by decide) (by decide) (by decide), fun _ _ => z _ _ (by decide) (by decide) (by decide), fun _ _ => z _ _ (by decide) (by decide) (by decide), fun _ _ => ⟨z _ _ (by decide) (by decide) (by decide), z _ _ (by decide) (by decide) (by decide)⟩⟩, ?_⟩
  · exact absurd (show i < 0 from i1) (by omega)
  · exact absurd (show i < 0 from i1) (by omega)
  · exact absurd (show i < 0 from i1) (by omega)
  · exact absurd (show i < 0 from i1) (by omega)
  · refine ⟨(show (0 : Int) ≤ 0 ∧ (0 : Int) ≤ 16 from by decide), Or.inl rfl, fun j _ _ => ?_, fun j _ _ => ?_⟩
    · rw [z 28 j (by decide) (by decide) (by decide)]; decide
    · rw [z 28 j (by decide) (by decide) (by decide)]; decide
set_option maxRecDepth 100000 in
set_option maxHeartbeats 4000000 in
theorem mX8_init (l : Launch) (G : GG) (N0 : Nat) (h : Hp) (o : Nat) (ho : h o = some (eO 13 [vN, vN, vN, vN, vN, vN, vN, vN])) : Ct l G N0 yX8_init (Cond.code yX8_init cX8_init 1 none :: LW) ({ frames := 5, cells := 13, slots := 320, locals := 300 }) [vR o] h (fun r h' => r = none ∧ ∃ g b, g 0 = o ∧ CI G g (iniS G b) h') := by
  refine ct_of rfl rfl ?_
  intro p e s m args below meth c F hr hnm
  have F : Fx p s m args meth c RX8 cX8_init 1 G N0 (cA h s.heap.size) := F
  have W0 := OWN.one ho
  show Z _ _ _ _ _ _ _ _ _ _ _ _ _ _ _ _ _ _ _ [(0, vR o)] []
  refine z_aload_n F dX8_init_0 rfl 0 rfl ?_
  refine z_objInit F oiX8_1 (Nat.le_of_ble_eq_true rfl) (Nat.le_of_ble_eq_true rfl) rfl dX8_init_1 ?_
  refine z_aload_n F dX8_init_4 rfl 0 rfl ?_
  refine z_new (N := 3) F nwX8_7 (fun r9 h9 => by cases h9; rfl) (Nat.le_of_ble_eq_true rfl) (Nat.le_of_ble_eq_true rfl) dX8_init_5 (fun ad1 fad1 => ?_)
  generalize eh2 : hu h ad1 (eO 12 [vN, vI 0, vI 0]) = h2
  have gh2 : h2 ad1 = some (eO 12 [vN, vI 0, vI 0]) := by rw [← eh2]; exact hu_s _ _ _
  have oh2 : h2 o = some (eO 13 [vN, vN, vN, vN, vN, vN, vN, vN]) := s_hu eh2 (fresh_ne fad1 (W0.hd)) (W0.hd)
  refine z_dup F dX8_init_8 rfl ?_
  refine z_callIN9 (rm := { frames := 4, cells := 1, slots := 3, locals := 220 }) (st := [vR ad1, vR o]) F (mX7_init l G N0 h2 ad1 (gh2)) rfl ⟨Nat.le_of_ble_eq_true rfl, Nat.le_of_ble_eq_true rfl⟩ rfl ⟨Nat.le_of_ble_eq_true rfl, Nat.le_of_ble_eq_true rfl⟩ dX8_init_9 ?_
  rintro _ h3 ⟨rfl, qh3, fqh3, kh3⟩
  have Wh3 := W0.new2 1 15 fad1 eh2 fqh3 kh3
  show Z _ _ _ _ _ _ _ _ _ _ _ _ _ _ _ _ _ _ _ _ [vR ad1, vR o]
  obtain ⟨h4, eh4⟩ : ∃ z : Hp, hu h3 o (eO 13 [vR ad1, vN, vN, vN, vN, vN, vN, vN]) = z := ⟨_, rfl⟩
  refine z_putF (fs := [vN, vN, vN, vN, vN, vN, vN, vN]) (fs' := [vR ad1, vN, vN, vN, vN, vN, vN, vN]) (h' := h4) F hnm Wh3.hd fX8_10 ftX8_0 (nf_q _ _) (Nat.le_of_ble_eq_true rfl) rfl (fun r9 h9 => by cases h9; rfl) dX8_init_12 eh4 ?_
  have Wh4 := OWN.put (d := eO 13 [vR ad1, vN, vN, vN, vN, vN, vN, vN]) Wh3 (Wh3.ne (by simp))
  rw [eh4] at Wh4
  refine z_aload_n F dX8_init_15 rfl 0 rfl ?_
  refine z_new (N := 4) F nwX8_16 (fun r9 h9 => by cases h9; rfl) (Nat.le_of_ble_eq_true rfl) (Nat.le_of_ble_eq_true rfl) dX8_init_16 (fun ad5 fad5 => ?_)
  generalize eh6 : hu h4 ad5 (eO 11 [vN, vN, vI 0, vI 0]) = h6
  have gh6 : h6 ad5 = some (eO 11 [vN, vN, vI 0, vI 0]) := by rw [← eh6]; exact hu_s _ _ _
  have oh6 : h6 o = some (eO 13 [vR ad1, vN, vN, vN, vN, vN, vN, vN]) := s_hu eh6 (fresh_ne fad5 (Wh4.hd)) (Wh4.hd)
  refine z_dup F dX8_init_19 rfl ?_
  refine z_aload_n F dX8_init_20 rfl 0 rfl ?_
  refine z_get (v := vR ad1) F oh6 fX8_10 rfl dX8_init_21 ?_
  refine z_callI (rm := { frames := 1, cells := 1, slots := 120, locals := 100 }) (As := [vR ad1]) (st := [vR ad5, vR o]) F (mX6_init l G N0 h6 ad5 ad1 (gh6)) ciX8_18 rfl rfl ⟨Nat.le_of_ble_eq_true rfl, Nat.le_of_ble_eq_true rfl⟩ rfl ⟨Nat.le_of_ble_eq_true rfl, Nat.le_of_ble_eq_true rfl⟩ dX8_init_24 ?_
  rintro _ h7 ⟨rfl, qh7, fqh7, kh7⟩
  have Wh7 := Wh4.new2 2 4 fad5 eh6 fqh7 kh7
  show Z _ _ _ _ _ _ _ _ _ _ _ _ _ _ _ _ _ _ _ _ [vR ad5, vR o]
  obtain ⟨h8, eh8⟩ : ∃ z : Hp, hu h7 o (eO 13 [vR ad1, vR ad5, vN, vN, vN, vN, vN, vN]) = z := ⟨_, rfl⟩
  refine z_putF (fs := [vR ad1, vN, vN, vN, vN, vN, vN, vN]) (fs' := [vR ad1, vR ad5, vN, vN, vN, vN, vN, vN]) (h' := h8) F hnm Wh7.hd fX8_21 ftX8_1 (nf_q _ _) (Nat.le_of_ble_eq_true rfl) rfl (fun r9 h9 => by cases h9; rfl) dX8_init_27 eh8 ?_
  have Wh8 := OWN.put (d := eO 13 [vR ad1, vR ad5, vN, vN, vN, vN, vN, vN]) Wh7 (Wh7.ne (by simp))
  rw [eh8] at Wh8
  refine z_aload_n F dX8_init_30 rfl 0 rfl ?_
  refine z_new (N := 4) F nwX8_16 (fun r9 h9 => by cases h9; rfl) (Nat.le_of_ble_eq_true rfl) (Nat.le_of_ble_eq_true rfl) dX8_init_31 (fun ad9 fad9 => ?_)
  generalize eh10 : hu h8 ad9 (eO 11 [vN, vN, vI 0, vI 0]) = h10
  have gh10 : h10 ad9 = some (eO 11 [vN, vN, vI 0, vI 0]) := by rw [← eh10]; exact hu_s _ _ _
  have oh10 : h10 o = some (eO 13 [vR ad1, vR ad5, vN, vN, vN, vN, vN, vN]) := s_hu eh10 (fresh_ne fad9 (Wh8.hd)) (Wh8.hd)
  refine z_dup F dX8_init_34 rfl ?_
  refine z_aload_n F dX8_init_35 rfl 0 rfl ?_
  refine z_get (v := vR ad1) F oh10 fX8_10 rfl dX8_init_36 ?_
  refine z_callI (rm := { frames := 1, cells := 1, slots := 120, locals := 100 }) (As := [vR ad1]) (st := [vR ad9, vR o]) F (mX6_init l G N0 h10 ad9 ad1 (gh10)) ciX8_18 rfl rfl ⟨Nat.le_of_ble_eq_true rfl, Nat.le_of_ble_eq_true rfl⟩ rfl ⟨Nat.le_of_ble_eq_true rfl, Nat.le_of_ble_eq_true rfl⟩ dX8_init_39 ?_
  rintro _ h11 ⟨rfl, qh11, fqh11, kh11⟩
  have Wh11 := Wh8.new2 3 5 fad9 eh10 fqh11 kh11
  show Z _ _ _ _ _ _ _ _ _ _ _ _ _ _ _ _ _ _ _ _ [vR ad9, vR o]
  obtain ⟨h12, eh12⟩ : ∃ z : Hp, hu h11 o (eO 13 [vR ad1, vR ad5, vR ad9, vN, vN, vN, vN, vN]) = z := ⟨_, rfl⟩
  refine z_putF (fs := [vR ad1, vR ad5, vN, vN, vN, vN, vN, vN]) (fs' := [vR ad1, vR ad5, vR ad9, vN, vN, vN, vN, vN]) (h' := h12) F hnm Wh11.hd fX8_25 ftX8_2 (nf_q _ _) (Nat.le_of_ble_eq_true rfl) rfl (fun r9 h9 => by cases h9; rfl) dX8_init_42 eh12 ?_
  have Wh12 := OWN.put (d := eO 13 [vR ad1, vR ad5, vR ad9, vN, vN, vN, vN, vN]) Wh11 (Wh11.ne (by simp))
  rw [eh12] at Wh12
  refine z_aload_n F dX8_init_45 rfl 0 rfl ?_
  refine z_new (N := 3) F nwX8_28 (fun r9 h9 => by cases h9; rfl) (Nat.le_of_ble_eq_true rfl) (Nat.le_of_ble_eq_true rfl) dX8_init_46 (fun ad13 fad13 => ?_)
  generalize eh14 : hu h12 ad13 (eO 10 [vN, vN, vN]) = h14
  have gh14 : h14 ad13 = some (eO 10 [vN, vN, vN]) := by rw [← eh14]; exact hu_s _ _ _
  have oh14 : h14 o = some (eO 13 [vR ad1, vR ad5, vR ad9, vN, vN, vN, vN, vN]) := s_hu eh14 (fresh_ne fad13 (Wh12.hd)) (Wh12.hd)
  refine z_dup F dX8_init_49 rfl ?_
  refine z_aload_n F dX8_init_50 rfl 0 rfl ?_
  refine z_get (v := vR ad1) F oh14 fX8_10 rfl dX8_init_51 ?_
  refine z_aload_n F dX8_init_54 rfl 0 rfl ?_
  refine z_get (v := vR ad5) F oh14 fX8_21 rfl dX8_init_55 ?_
  refine z_callI (rm := { frames := 4, cells := 1, slots := 3, locals := 240 }) (As := [vR ad1, vR ad5]) (st := [vR ad13, vR o]) F (mX5_init l G N0 h14 ad13 ad1 ad5 (gh14)) ciX8_30 rfl rfl ⟨Nat.le_of_ble_eq_true rfl, Nat.le_of_ble_eq_true rfl⟩ rfl ⟨Nat.le_of_ble_eq_true rfl, Nat.le_of_ble_eq_true rfl⟩ dX8_init_58 ?_
  rintro _ h15 ⟨rfl, qh15, fqh15, kh15⟩
  have Wh15 := Wh12.new2 6 17 fad13 eh14 fqh15 kh15
  show Z _ _ _ _ _ _ _ _ _ _ _ _ _ _ _ _ _ _ _ _ [vR ad13, vR o]
  obtain ⟨h16, eh16⟩ : ∃ z : Hp, hu h15 o (eO 13 [vR ad1, vR ad5, vR ad9, vR ad13, vN, vN, vN, vN]) = z := ⟨_, rfl⟩
  refine z_putF (fs := [vR ad1, vR ad5, vR ad9, vN, vN, vN, vN, vN]) (fs' := [vR ad1, vR ad5, vR ad9, vR ad13, vN, vN, vN, vN]) (h' := h16) F hnm Wh15.hd fX8_33 ftX8_3 (nf_q _ _) (Nat.le_of_ble_eq_true rfl) rfl (fun r9 h9 => by cases h9; rfl) dX8_init_61 eh16 ?_
  have Wh16 := OWN.put (d := eO 13 [vR ad1, vR ad5, vR ad9, vR ad13, vN, vN, vN, vN]) Wh15 (Wh15.ne (by simp))
  rw [eh16] at Wh16
  refine z_aload_n F dX8_init_64 rfl 0 rfl ?_
  refine z_new (N := 3) F nwX8_37 (fun r9 h9 => by cases h9; rfl) (Nat.le_of_ble_eq_true rfl) (Nat.le_of_ble_eq_true rfl) dX8_init_65 (fun ad17 fad17 => ?_)
  generalize eh18 : hu h16 ad17 (eO 4 [vI 0, vN, vI 0]) = h18
  have gh18 : h18 ad17 = some (eO 4 [vI 0, vN, vI 0]) := by rw [← eh18]; exact hu_s _ _ _
  have oh18 : h18 o = some (eO 13 [vR ad1, vR ad5, vR ad9, vR ad13, vN, vN, vN, vN]) := s_hu eh18 (fresh_ne fad17 (Wh16.hd)) (Wh16.hd)
  refine z_dup F dX8_init_68 rfl ?_
  refine z_callI (rm := { frames := 3, cells := 0, slots := 0, locals := 180 }) (As := []) (st := [vR ad17, vR o]) F (mJx4a65c_init_da8c8 l G N0 h18 ad17 (gh18)) ciX8_39 rfl rfl ⟨Nat.le_of_ble_eq_true rfl, Nat.le_of_ble_eq_true rfl⟩ rfl ⟨Nat.le_of_ble_eq_true rfl, Nat.le_of_ble_eq_true rfl⟩ dX8_init_69 ?_
  rintro _ h19 ⟨rfl, kh19⟩
  have Wh19 := Wh16.new1 7 fad17 eh18 kh19
  show Z _ _ _ _ _ _ _ _ _ _ _ _ _ _ _ _ _ _ _ _ [vR ad17, vR o]
  obtain ⟨h20, eh20⟩ : ∃ z : Hp, hu h19 o (eO 13 [vR ad1, vR ad5, vR ad9, vR ad13, vR ad17, vN, vN, vN]) = z := ⟨_, rfl⟩
  refine z_putF (fs := [vR ad1, vR ad5, vR ad9, vR ad13, vN, vN, vN, vN]) (fs' := [vR ad1, vR ad5, vR ad9, vR ad13, vR ad17, vN, vN, vN]) (h' := h20) F hnm Wh19.hd fX8_40 ftX8_4 (nf_q _ _) (Nat.le_of_ble_eq_true rfl) rfl (fun r9 h9 => by cases h9; rfl) dX8_init_72 eh20 ?_
  have Wh20 := OWN.put (d := eO 13 [vR ad1, vR ad5, vR ad9, vR ad13, vR ad17, vN, vN, vN]) Wh19 (Wh19.ne (by simp))
  rw [eh20] at Wh20
  refine z_aload_n F dX8_init_75 rfl 0 rfl ?_
  refine z_new (N := 3) F nwX8_37 (fun r9 h9 => by cases h9; rfl) (Nat.le_of_ble_eq_true rfl) (Nat.le_of_ble_eq_true rfl) dX8_init_76 (fun ad21 fad21 => ?_)
  generalize eh22 : hu h20 ad21 (eO 4 [vI 0, vN, vI 0]) = h22
  have gh22 : h22 ad21 = some (eO 4 [vI 0, vN, vI 0]) := by rw [← eh22]; exact hu_s _ _ _
  have oh22 : h22 o = some (eO 13 [vR ad1, vR ad5, vR ad9, vR ad13, vR ad17, vN, vN, vN]) := s_hu eh22 (fresh_ne fad21 (Wh20.hd)) (Wh20.hd)
  refine z_dup F dX8_init_79 rfl ?_
  refine z_callI (rm := { frames := 3, cells := 0, slots := 0, locals := 180 }) (As := []) (st := [vR ad21, vR o]) F (mJx4a65c_init_da8c8 l G N0 h22 ad21 (gh22)) ciX8_39 rfl rfl ⟨Nat.le_of_ble_eq_true rfl, Nat.le_of_ble_eq_true rfl⟩ rfl ⟨Nat.le_of_ble_eq_true rfl, Nat.le_of_ble_eq_true rfl⟩ dX8_init_80 ?_
  rintro _ h23 ⟨rfl, kh23⟩
  have Wh23 := Wh20.new1 9 fad21 eh22 kh23
  show Z _ _ _ _ _ _ _ _ _ _ _ _ _ _ _ _ _ _ _ _ [vR ad21, vR o]
  obtain ⟨h24, eh24⟩ : ∃ z : Hp, hu h23 o (eO 13 [vR ad1, vR ad5, vR ad9, vR ad13, vR ad17, vR ad21, vN, vN]) = z := ⟨_, rfl⟩
  refine z_putF (fs := [vR ad1, vR ad5, vR ad9, vR ad13, vR ad17, vN, vN, vN]) (fs' := [vR ad1, vR ad5, vR ad9, vR ad13, vR ad17, vR ad21, vN, vN]) (h' := h24) F hnm Wh23.hd fX8_44 ftX8_5 (nf_q _ _) (Nat.le_of_ble_eq_true rfl) rfl (fun r9 h9 => by cases h9; rfl) dX8_init_83 eh24 ?_
  have Wh24 := OWN.put (d := eO 13 [vR ad1, vR ad5, vR ad9, vR ad13, vR ad17, vR ad21, vN, vN]) Wh23 (Wh23.ne (by simp))
  rw [eh24] at Wh24
  refine z_aload_n F dX8_init_86 rfl 0 rfl ?_
  refine z_new (N := 3) F nwX8_37 (fun r9 h9 => by cases h9; rfl) (Nat.le_of_ble_eq_true rfl) (Nat.le_of_ble_eq_true rfl) dX8_init_87 (fun ad25 fad25 => ?_)
  generalize eh26 : hu h24 ad25 (eO 4 [vI 0, vN, vI 0]) = h26
  have gh26 : h26 ad25 = some (eO 4 [vI 0, vN, vI 0]) := by rw [← eh26]; exact hu_s _ _ _
  have oh26 : h26 o = some (eO 13 [vR ad1, vR ad5, vR ad9, vR ad13, vR ad17, vR ad21, vN, vN]) := s_hu eh26 (fresh_ne fad25 (Wh24.hd)) (Wh24.hd)
  refine z_dup F dX8_init_90 rfl ?_
  refine z_callI (rm := { frames := 3, cells := 0, slots := 0, locals := 180 }) (As := []) (st := [vR ad25, vR o]) F (mJx4a65c_init_da8c8 l G N0 h26 ad25 (gh26)) ciX8_39 rfl rfl ⟨Nat.le_of_ble_eq_true rfl, Nat.le_of_ble_eq_true rfl⟩ rfl ⟨Nat.le_of_ble_eq_true rfl, Nat.le_of_ble_eq_true rfl⟩ dX8_init_91 ?_
  rintro _ h27 ⟨rfl, kh27⟩
  have Wh27 := Wh24.new1 11 fad25 eh26 kh27
  show Z _ _ _ _ _ _ _ _ _ _ _ _ _ _ _ _ _ _ _ _ [vR ad25, vR o]
  obtain ⟨h28, eh28⟩ : ∃ z : Hp, hu h27 o (eO 13 [vR ad1, vR ad5, vR ad9, vR ad13, vR ad17, vR ad21, vR ad25, vN]) = z := ⟨_, rfl⟩
  refine z_putF (fs := [vR ad1, vR ad5, vR ad9, vR ad13, vR ad17, vR ad21, vN, vN]) (fs' := [vR ad1, vR ad5, vR ad9, vR ad13, vR ad17, vR ad21, vR ad25, vN]) (h' := h28) F hnm Wh27.hd fX8_47 ftX8_6 (nf_q _ _) (Nat.le_of_ble_eq_true rfl) rfl (fun r9 h9 => by cases h9; rfl) dX8_init_94 eh28 ?_
  have Wh28 := OWN.put (d := eO 13 [vR ad1, vR ad5, vR ad9, vR ad13, vR ad17, vR ad21, vR ad25, vN]) Wh27 (Wh27.ne (by simp))
  rw [eh28] at Wh28
  refine z_aload_n F dX8_init_97 rfl 0 rfl ?_
  refine z_new (N := 4) F nwX8_50 (fun r9 h9 => by cases h9; rfl) (Nat.le_of_ble_eq_true rfl) (Nat.le_of_ble_eq_true rfl) dX8_init_98 (fun ad29 fad29 => ?_)
  generalize eh30 : hu h28 ad29 (eO 1 [vN, vI 0, vI 0, vI 0]) = h30
  have gh30 : h30 ad29 = some (eO 1 [vN, vI 0, vI 0, vI 0]) := by rw [← eh30]; exact hu_s _ _ _
  have oh30 : h30 o = some (eO 13 [vR ad1, vR ad5, vR ad9, vR ad13, vR ad17, vR ad21, vR ad25, vN]) := s_hu eh30 (fresh_ne fad29 (Wh28.hd)) (Wh28.hd)
  refine z_dup F dX8_init_101 rfl ?_
  refine z_callI (rm := { frames := 2, cells := 1, slots := 16, locals := 120 }) (As := []) (st := [vR ad29, vR o]) F (mJ4_init_da8c8 l G N0 h30 ad29 (gh30)) ciX8_52 rfl rfl ⟨Nat.le_of_ble_eq_true rfl, Nat.le_of_ble_eq_true rfl⟩ rfl ⟨Nat.le_of_ble_eq_true rfl, Nat.le_of_ble_eq_true rfl⟩ dX8_init_102 ?_
  rintro _ h31 ⟨rfl, qh31, fqh31, kh31⟩
  have Wh31 := Wh28.new2 13 14 fad29 eh30 fqh31 kh31
  show Z _ _ _ _ _ _ _ _ _ _ _ _ _ _ _ _ _ _ _ _ [vR ad29, vR o]
  obtain ⟨h32, eh32⟩ : ∃ z : Hp, hu h31 o (eO 13 [vR ad1, vR ad5, vR ad9, vR ad13, vR ad17, vR ad21, vR ad25, vR ad29]) = z := ⟨_, rfl⟩
  refine z_putF (fs := [vR ad1, vR ad5, vR ad9, vR ad13, vR ad17, vR ad21, vR ad25, vN]) (fs' := [vR ad1, vR ad5, vR ad9, vR ad13, vR ad17, vR ad21, vR ad25, vR ad29]) (h' := h32) F hnm Wh31.hd fX8_53 ftX8_7 (nf_q _ _) (Nat.le_of_ble_eq_true rfl) rfl (fun r9 h9 => by cases h9; rfl) dX8_init_105 eh32 ?_
  have Wh32 := OWN.put (d := eO 13 [vR ad1, vR ad5, vR ad9, vR ad13, vR ad17, vR ad21, vR ad25, vR ad29]) Wh31 (Wh31.ne (by simp))
  rw [eh32] at Wh32
  refine z_low F (a := qh15) (Wh32.1 (17, qh15, _) (List.mem_of_getElem? (i := 7) rfl)) (fun l17 => ?_)
  exact z_vret F hr (Nat.le_of_ble_eq_true rfl) (Nat.le_of_ble_eq_true rfl) dX8_init_108 (⟨rfl, iniG o ad1 ad5 ad9 qh7 qh11 ad13 ad17 ad21 ad25 ad29 qh31 qh3 qh15, qh31, rfl, CI_ini Wh32 l17⟩)
