set_option maxRecDepth 100000 in
set_option maxHeartbeats 4000000 in
theorem mX3_init (l : Launch) (G : GG) (N0 : Nat) (h : Hp) (o ow : Nat) (ho : h o = some (eO 8 [vN, vN, vI 0, vF 0])) : Ct l G N0 yX3_init (Cond.code yX3_init cX3_init 2 none :: LW) ({ frames := 4, cells := 1, slots := 3, locals := 220 }) [vR o, vR ow] h (fun r h' => r = none ∧ ∃ q2, h q2 = none ∧ h' = hu (hu h q2 (eO 4 [vI 0, vR (G.2.2 0), vI 0])) o (eO 8 [vR ow, vR q2, vI 0, vF 0])) := by
  refine ct_of rfl rfl ?_
  intro p e s m args below meth c F hr hnm
  have F : Fx p s m args meth c RX3 cX3_init 2 G N0 (cA h s.heap.size) := F
  show Z _ _ _ _ _ _ _ _ _ _ _ _ _ _ _ _ _ _ _ [(0, vR o), (1, vR ow)] []
  refine z_aload_n F dX3_init_0 rfl 0 rfl ?_
  refine z_objInit F oiX3_1 (Nat.le_of_ble_eq_true rfl) (Nat.le_of_ble_eq_true rfl) rfl dX3_init_1 ?_
  refine z_aload_n F dX3_init_4 rfl 0 rfl ?_
  refine z_new (N := 3) F nwX3_7 (fun r9 h9 => by cases h9; rfl) (Nat.le_of_ble_eq_true rfl) (Nat.le_of_ble_eq_true rfl) dX3_init_5 (fun ad1 fad1 => ?_)
  generalize eh2 : hu h ad1 (eO 4 [vI 0, vN, vI 0]) = h2
  have g3 : h2 ad1 = some (eO 4 [vI 0, vN, vI 0]) := by rw [← eh2]; exact hu_s _ _ _
  have g4 : h2 o = some (eO 8 [vN, vN, vI 0, vF 0]) := s_hu eh2 (fresh_ne fad1 (ho)) (ho)
  refine z_dup F dX3_init_8 rfl ?_
  refine z_callI (rm := { frames := 3, cells := 0, slots := 0, locals := 180 }) (As := []) (st := [vR ad1, vR o]) F (mJx4a65c_init_da8c8 l G N0 h2 ad1 (g3)) ciX3_9 rfl rfl ⟨Nat.le_of_ble_eq_true rfl, Nat.le_of_ble_eq_true rfl⟩ rfl ⟨Nat.le_of_ble_eq_true rfl, Nat.le_of_ble_eq_true rfl⟩ dX3_init_9 ?_
  rintro _ h9 ⟨rfl, k9⟩
  have go9 : h9 o = some (eO 8 [vN, vN, vI 0, vF 0]) := by rw [k9, hu_n _ _ (fresh_ne fad1 (ho))]; exact g4
  have gq9 : h9 ad1 = some (eO 4 [vI 0, vR (G.2.2 0), vI 0]) := by rw [k9]; exact hu_s _ _ _
  show Z _ _ _ _ _ _ _ _ _ _ _ _ _ _ _ _ _ _ _ _ [vR ad1, vR o]
  obtain ⟨h5, eh5⟩ : ∃ z : Hp, hu h9 o (eO 8 [vN, vR ad1, vI 0, vF 0]) = z := ⟨_, rfl⟩
  refine z_putF (fs := [vN, vN, vI 0, vF 0]) (fs' := [vN, vR ad1, vI 0, vF 0]) (h' := h5) F hnm go9 fX3_10 ftX3_1 (nf_q _ _) (Nat.le_of_ble_eq_true rfl) rfl (fun r9 h9 => by cases h9; rfl) dX3_init_12 eh5 ?_
  have g6 : h5 o = some (eO 8 [vN, vR ad1, vI 0, vF 0]) := by rw [← eh5]; exact hu_s _ _ _
  have g7 : h5 ad1 = some (eO 4 [vI 0, vR (G.2.2 0), vI 0]) := s_hu eh5 (Ne.symm (fresh_ne fad1 (ho))) (gq9)
  refine z_aload_n F dX3_init_15 rfl 0 rfl ?_
  refine z_fconst0 F dX3_init_16 ?_
  obtain ⟨h8, eh8⟩ : ∃ z : Hp, hu h5 o (eO 8 [vN, vR ad1, vI 0, vF FP.fconst0]) = z := ⟨_, rfl⟩
  refine z_put (fs := [vN, vR ad1, vI 0, vF 0]) (fs' := [vN, vR ad1, vI 0, vF FP.fconst0]) (h' := h8) F g6 fX3_16 ftX3_3 (nf_f _) (Nat.le_of_ble_eq_true rfl) rfl dX3_init_17 eh8 ?_
  have g9 : h8 o = some (eO 8 [vN, vR ad1, vI 0, vF FP.fconst0]) := by rw [← eh8]; exact hu_s _ _ _
  have g10 : h8 ad1 = some (eO 4 [vI 0, vR (G.2.2 0), vI 0]) := s_hu eh8 (Ne.symm (fresh_ne fad1 (ho))) (g7)
  refine z_aload_n F dX3_init_20 rfl 0 rfl ?_
  refine z_aload_n F dX3_init_21 rfl 1 rfl ?_
  obtain ⟨h11, eh11⟩ : ∃ z : Hp, hu h8 o (eO 8 [vR ow, vR ad1, vI 0, vF FP.fconst0]) = z := ⟨_, rfl⟩
  refine z_putF (fs := [vN, vR ad1, vI 0, vF FP.fconst0]) (fs' := [vR ow, vR ad1, vI 0, vF FP.fconst0]) (h' := h11) F hnm g9 fX3_20 ftX3_0 (nf_q _ _) (Nat.le_of_ble_eq_true rfl) rfl (fun r9 h9 => by cases h9; rfl) dX3_init_22 eh11 ?_
  have g12 : h11 o = some (eO 8 [vR ow, vR ad1, vI 0, vF FP.fconst0]) := by rw [← eh11]; exact hu_s _ _ _
  have g13 : h11 ad1 = some (eO 4 [vI 0, vR (G.2.2 0), vI 0]) := s_hu eh11 (Ne.symm (fresh_ne fad1 (ho))) (g10)
  exact z_vret F hr (Nat.le_of_ble_eq_true rfl) (Nat.le_of_ble_eq_true rfl) dX3_init_25 (⟨rfl, ad1, fad1, by rw [← eh11, ← eh8, ← eh5, hu_hu, hu_hu, k9, ← eh2, hu_hu]; rfl⟩)
theorem cAddN2 (l : Launch) (G : GG) (N0 : Nat) (h : Hp) (g : Int → Nat) (ρ : Sg) (b : Nat) (i kd mi sb fa : Int) (hI : CI G g ρ h) (hbn : ∀ r, CE g ρ r ≠ none → ad g ρ r ≠ b) (hb : h b = some (eO 9 [vI kd, vI mi, vI sb, vF (fb fa)])) (hi : 0 ≤ i ∧ i < 8 ∧ i < ρ 39 0) (hq : 0 ≤ ρ 17 i ∧ ρ 17 i < 40) (hL : ∀ x, 0 ≤ x → x < ρ 39 0 → ρ 17 x ≤ 40) (hLb : ρ 39 0 ≤ 8) : Ct l G N0 yJx4a65c_add_9ea2d (Cond.code yJx4a65c_add_9ea2d cJx4a65c_add_9ea2d 2 (some FieldType.boolean) :: LW) ({ frames := 6, cells := 1, slots := 100, locals := 360 }) [vR (aL ρ i), vR b] h (fun r h' => r = some (vI 1) ∧ ∃ ρ', (∀ k, k ≠ 41 → k ≠ 47 → k ≠ 48 → k ≠ 49 → ρ' k = mkN ρ i kd mi sb fa k) ∧ ((∀ j, j ≠ 40 * i + ρ 17 i → ρ' 41 j = ρ 41 j) ∧ ∀ j, j ≠ i → ρ' 47 j = ρ 47 j ∧ ρ' 48 j = ρ 48 j ∧ ρ' 49 j = ρ 49 j) ∧ CI G g ρ' h') := by
  have KK := hI.2.2.2.2.2.2.2.1
  obtain ⟨hk1, hk2⟩ := KK i hi.1 hi.2.2
  have hL0 : h (aL ρ i) = some (cLst (ρ 47 i) (aM ρ i) (ρ 17 i)) := ci_l hI ⟨hi.1, hi.2.2, by omega⟩
  have hLI : LI G h (aL ρ i) (aM ρ i) (ρ 48 i).toNat (ρ 47 i) (ρ 17 i) (fun j => if 0 ≤ j ∧ j < ρ 17 i then some (aN ρ (40 * i + j)) else none) := by
    refine ⟨hL0, ?_, by omega, fun j hj => if_neg (by omega), ?_⟩
    · by_cases q : 0 < ρ 48 i
      · exact Or.inr ⟨cArrL hI ⟨hi.1, hi.2.2, by omega⟩ q, by omega⟩
      · exact Or.inl ⟨by omega, by omega, hk2 (by omega)⟩
    · intro j h0 h1 y hy
      have hy : (if 0 ≤ j ∧ j < ρ 17 i then some (aN ρ (40 * i + j)) else none) = some y := hy
      rw [if_pos ⟨h0, h1⟩] at hy
      cases hy
      exact ⟨9, _, ci_n hI ⟨hi.1, hi.2.2, hi.2.1⟩ ⟨h0, h1, by omega⟩, castN⟩
  have pl : CE g ρ (500 + i) = some (cLst (ρ 47 i) (aM ρ i) (ρ 17 i)) := (ce_l hi.1 (by omega)).1.trans (if_pos hi.2.2)
  have pa : CE g ρ (600 + i) = cAr (ρ 48 i) (ρ 17 i) (fun j => aN ρ (40 * i + j)) := (ce_a hi.1 (by omega)).1.trans (if_pos hi.2.2)
  have hba : b ≠ aL ρ i := fun z => hbn (500 + i) (by rw [pl]; exact fun w => by cases w) ((ce_l hi.1 (by omega)).2.trans z.symm)
  refine Ct.monoN (mJx4a65c_add_9ea2d l G N0 h (aL ρ i) (aM ρ i) (ρ 48 i).toNat b 9 _ (ρ 47 i) (ρ 17 i) _ hLI (by omega) hb castN hba) (fun r h' hq9 => ?_)
  obtain ⟨hr, e1, N1, f1, ⟨k1, k2, k3, k4, k5⟩, hf1, hw, hfr, hN1⟩ := hq9
  have he1 : h' e1 = some (eA 5 N1 (fun j => vQ (f1 j))) := by
    rcases k2 with k2 | k2
    · omega
    · exact k2.1
  have hge : aL ρ i ≠ e1 := ne_tg k1 he1 rfl
  obtain ⟨X, hX⟩ : ∃ z, z = su (mkN ρ i kd mi sb fa) 41 (40 * i + ρ 17 i) (b : Int) := ⟨_, rfl⟩
  have hXn : X 17 i = ρ 17 i + 1 := by
    rw [hX]
    show su _ 17 i (ρ 17 i + 1) 17 i = _
    exact su_e
  have hX39 : X 39 0 = ρ 39 0 := by rw [hX]; rfl
  refine ⟨hN h' e1 (eA 5 N1 (cCn (ρ 17 i + 1) (fun j => aN X (40 * i + j)))), ⟨hr, mtL X i (ρ 47 i + 1) (N1 : Int) (e1 : Int), fun k n1 n2 n3 n4 => ?_, ⟨fun j hj => by rw [hX]; show su (mkN ρ i kd mi sb fa) 41 (40 * i + ρ 17 i) (b : Int) 41 j = _; exact su_i hj, fun j hj => ⟨by rw [hX]; show su _ 47 i (ρ 47 i + 1) 47 j = _; rw [su_i hj]; rfl, by rw [hX]; show su _ 48 i (N1 : Int) 48 j = _; rw [su_i hj]; rfl, by rw [hX]; show su _ 49 i (e1 : Int) 49 j = _; rw [su_i hj]; rfl⟩⟩, ?_⟩, hN_q he1 (fun j => ?_)⟩
  · rw [hX]
    funext j
    show su (su (su (su (mkN ρ i kd mi sb fa) 41 _ _) 47 _ _) 48 _ _) 49 _ _ k j = _
    rw [su_n n4, su_n n3, su_n n2, su_n n1]
  · have hbe1 : b ≠ e1 := by
      rcases hw with w | w
      · rw [w.1]
        exact fun z => hbn (600 + i) (by rw [pa]; unfold cAr; rw [if_pos (by omega)]; exact fun w => by cases w) ((ce_a hi.1 (by omega)).2.trans z.symm)
      · exact fresh_ne w hb
    have c5 := ce_l (g := g) (ρ := mtL X i (ρ 47 i + 1) (N1 : Int) (e1 : Int)) hi.1 (show i < 100 by omega)
    have c6 := ce_a (g := g) (ρ := mtL X i (ρ 47 i + 1) (N1 : Int) (e1 : Int)) hi.1 (show i < 100 by omega)
    have c7 := ce_n (g := g) (ρ := mtL X i (ρ 47 i + 1) (N1 : Int) (e1 : Int)) hi.1 hi.2.1 hq.1 hq.2
    have t39 : mtL X i (ρ 47 i + 1) (N1 : Int) (e1 : Int) 39 0 = ρ 39 0 := hX39
    have t17 : mtL X i (ρ 47 i + 1) (N1 : Int) (e1 : Int) 17 i = ρ 17 i + 1 := hXn
    have t47 : mtL X i (ρ 47 i + 1) (N1 : Int) (e1 : Int) 47 i = ρ 47 i + 1 := (su_e : su X 47 i (ρ 47 i + 1) 47 i = _)
    have t48 : mtL X i (ρ 47 i + 1) (N1 : Int) (e1 : Int) 48 i = (N1 : Int) := (su_e : su (su X 47 i (ρ 47 i + 1)) 48 i (N1 : Int) 48 i = _)
    have t49 : aM (mtL X i (ρ 47 i + 1) (N1 : Int) (e1 : Int)) i = e1 := by
      show (su (su (su X 47 i (ρ 47 i + 1)) 48 i (N1 : Int)) 49 i (e1 : Int) 49 i).toNat = e1
      rw [su_e]
      rfl
    have tL : aL (mtL X i (ρ 47 i + 1) (N1 : Int) (e1 : Int)) i = aL ρ i := by
      show (X 43 i).toNat = _
      rw [hX]
      rfl
    rw [t39, if_pos hi.2.2, t17, t47, t49, tL] at c5
    rw [t39, if_pos hi.2.2, t17, t48, t49] at c6
    rw [t39, t17, if_pos ⟨hi.2.2, by omega⟩] at c7
    have hab : aN (mtL X i (ρ 47 i + 1) (N1 : Int) (e1 : Int)) (40 * i + ρ 17 i) = b := by
      rw [hX]
      show (su (mkN ρ i kd mi sb fa) 41 (40 * i + ρ 17 i) (b : Int) 41 (40 * i + ρ 17 i)).toNat = b
      rw [su_e]
      rfl
    rw [hab] at c7
    refine hI.list (rl := 500 + i) (ra := 600 + i) (rb := 1000 + (40 * i + ρ 17 i)) pl pa ((ce_n hi.1 hi.2.1 hq.1 hq.2).1.trans (if_neg (by omega))) c5.1 c6.1 (ce_l hi.1 (by omega)).2 c5.2 (ce_a hi.1 (by omega)).2 c6.2 (fun r n1 n2 n3 => ?_) (fun x q1 q2 => ?_) ?_ (fun _ => if_pos rfl) (fun q => absurd q (by omega)) ?_ (fun x hx => ?_) ?_
    · have m := mt_L (g := g) X i (ρ 47 i + 1) (N1 : Int) (e1 : Int) n1 n2
      have u := mkN_u (g := g) (ρ := ρ) (kd := kd) (mi := mi) (sb := sb) (fa := fa) (q := (b : Int)) ⟨hi.1, hi.2.1⟩ hq n1 n2 n3 hL
      rw [← hX] at u
      exact ⟨m.1.trans u.1, fun hp => m.2.trans (u.2 hp)⟩
    · unfold hN
      rw [if_neg q2]
      exact hfr x q1 q2
    · show (if _ = e1 then some _ else h' _) = _
      rw [if_neg hge]
      exact k1
    · rcases hw with w | w
      · exact Or.inl ⟨w.1, fun _ => by omega⟩
      · exact Or.inr w
    · rw [c7.1] at hx
      cases hx
      rw [c7.2]
      refine ⟨?_, hbn, fun _ => hbe1⟩
      unfold hN
      rw [if_neg hbe1, hfr b hba hbe1, hb, hX]
      exact congrArg some (by first | (simp [su]; done) | (simp [su]; rfl))
    · have K := hI.2.2
      rw [hX]
      refine ⟨K.1, K.2.1, K.2.2.1, K.2.2.2.1, K.2.2.2.2.1, fun x x0 x1 => ?_, K.2.2.2.2.2.2⟩
      by_cases xi : x = i
      · subst xi
        rw [← hX, t17, t48, t49]
        exact ⟨⟨by omega, by omega, by omega⟩, fun q => absurd q (by omega)⟩
      · have kx := K.2.2.2.2.2.1 x x0 x1
        show KL G (su ρ 48 i (N1 : Int) 48 x) (su ρ 49 i (e1 : Int) 49 x).toNat (su ρ 17 i (ρ 17 i + 1) 17 x)
        rw [su_i xi, su_i xi, su_i xi]
        exact kx
  · have hj : f1 (j : Int) = if (j : Int) = ρ 17 i then some b else if 0 ≤ (j : Int) ∧ (j : Int) < ρ 17 i then some (aN ρ (40 * i + (j : Int))) else none := hf1 (j : Int) (by omega)
    rw [hj, hX]
    unfold cCn
    by_cases q1 : (j : Int) = ρ 17 i
    · rw [if_pos q1, if_pos (by omega)]
      show vQ (some b) = vQ (some ((su (mkN ρ i kd mi sb fa) 41 (40 * i + ρ 17 i) (b : Int) 41 (40 * i + (j : Int))).toNat))
      rw [q1, su_e]
      rfl
    · rw [if_neg q1]
      by_cases q2 : 0 ≤ (j : Int) ∧ (j : Int) < ρ 17 i
      · rw [if_pos q2, if_pos (by omega)]
        show vQ (some (aN ρ (40 * i + (j : Int)))) = vQ (some ((su ρ 41 (40 * i + ρ 17 i) (b : Int) 41 (40 * i + (j : Int))).toNat))
        rw [su_i (show 40 * i + (j : Int) ≠ 40 * i + ρ 17 i by omega)]
      · rw [if_neg q2, if_neg (by omega)]
/-- ρ with a line more on invoice i -/
abbrev adC (ρ : Sg) (i kd sb mi : Int) : Sg := su (su (mkN ρ i kd mi sb (fi (amt mi (ρ 6 (ρ 18 i))))) 31 i (ρ 31 i + mi)) 23 i (fi (FP.fadd (fb (ρ 23 i)) (amt mi (ρ 6 (ρ 18 i)))))
set_option maxRecDepth 100000 in
set_option maxHeartbeats 4000000 in
theorem mX3_addLine (l : Launch) (G : GG) (N0 : Nat) (h : Hp) (g : Int → Nat) (ρ : Sg) (i9 k9 m9 s9 : Int) (K : Nat) (hI : CI G g ρ h) (hi : 0 ≤ i9 ∧ i9 < 8 ∧ i9 < ρ 39 0) (h39 : ρ 39 0 ≤ 8) (hq : 0 ≤ ρ 17 i9 ∧ ρ 17 i9 < 40) (hL : ∀ x, 0 ≤ x → x < ρ 39 0 → ρ 17 x ≤ 40) (ho : 0 ≤ ρ 18 i9 ∧ ρ 18 i9 < ρ 2 0 ∧ ρ 2 0 ≤ 5) (hr6 : 0 ≤ ρ 6 (ρ 18 i9) ∧ ρ 6 (ρ 18 i9) ≤ 50000) (hm : -100000 ≤ m9 ∧ m9 ≤ 100000) (r_k9 : 0 ≤ k9 ∧ k9 < 65536) (hT : MG K (fb (ρ 23 i9))) (hK : 159 ≤ K ∧ K ≤ 250) : Ct l G N0 yX3_addLine (Cond.code yX3_addLine cX3_addLine 5 none :: LW) ({ frames := 8, cells := 2, slots := 104, locals := 440 }) [vR (aI ρ i9), vI k9, vI m9, vI s9] h (fun r h' => r = none ∧ ∃ ρ', (∀ k, k ≠ 41 → k ≠ 47 → k ≠ 48 → k ≠ 49 → ρ' k = adC ρ i9 k9 s9 m9 k) ∧ ((∀ j, j ≠ 40 * i9 + ρ 17 i9 → ρ' 41 j = ρ 41 j) ∧ ∀ j, j ≠ i9 → ρ' 47 j = ρ 47 j ∧ ρ' 48 j = ρ 48 j ∧ ρ' 49 j = ρ 49 j) ∧ CI G g ρ' h') := by
  refine ct_of rfl rfl ?_
  intro p e s m args below meth c F hr hnm
  have F : Fx p s m args meth c RX3 cX3_addLine 5 G N0 (cA h s.heap.size) := F
  have ham : MG 159 (amt m9 (ρ 6 (ρ 18 i9))) := mg_amt (by omega) (by omega)
  have hmu := mg_mul (z := m9) (r := ρ 6 (ρ 18 i9)) (by omega) (by omega)
  have had := mg_add hT (ham.le hK.1) (by omega)
  show Z _ _ _ _ _ _ _ _ _ _ _ _ _ _ _ _ _ _ _ [(0, vR (aI ρ i9)), (1, vI k9), (2, vI m9), (3, vI s9)] []
  refine z_iload_n F dX3_addLine_0 rfl 2 rfl ?_
  refine z_i2f F dX3_addLine_1 ?_
  refine z_aload_n F dX3_addLine_2 rfl 0 rfl ?_
  refine z_get (v := vR (aC ρ (ρ 18 i9))) F (ci_i hI (show 0 ≤ i9 ∧ i9 < ρ 39 0 ∧ i9 < 100 from by omega)) fX3_20 rfl dX3_addLine_3 ?_
  refine z_get (v := vI (ρ 6 (ρ 18 i9))) F (ci_c hI (show 0 ≤ ρ 18 i9 ∧ ρ 18 i9 < ρ 2 0 ∧ ρ 18 i9 < 100 from by omega)) fX3_24 rfl dX3_addLine_6 ?_
  refine z_i2f F dX3_addLine_9 ?_
  refine z_fmul F dX3_addLine_10 (hmu.n (by decide)) ?_
  refine z_ldcf F q1254 dX3_addLine_11 ?_
  refine z_fdiv F dX3_addLine_13 (ham.n (by decide)) ?_
  refine z_fstore (lv' := [(4, vF (FP.fdiv (FP.fmul (FP.i2f (iI m9)) (FP.i2f (iI (ρ 6 (ρ 18 i9))))) 1114636288)), (0, vR (aI ρ i9)), (1, vI k9), (2, vI m9), (3, vI s9)]) F dX3_addLine_14 (by decide) rfl ?_
  refine z_aload_n F dX3_addLine_16 rfl 1 rfl ?_
  refine z_get (v := vR (aL ρ i9)) F (ci_i hI (show 0 ≤ i9 ∧ i9 < ρ 39 0 ∧ i9 < 100 from by omega)) fX3_10 rfl dX3_addLine_17 ?_
  refine z_new (N := 4) F nwX3_31 (fun r9 h9 => by cases h9; rfl) (Nat.le_of_ble_eq_true rfl) (Nat.le_of_ble_eq_true rfl) dX3_addLine_20 (fun ad1 fad1 => ?_)
  obtain ⟨h2, eh2, Ih2⟩ : ∃ z : Hp, hu h ad1 (eO 9 [vI 0, vI 0, vI 0, vF 0]) = z ∧ CI G g ρ z := ⟨_, rfl, CI.fresh hI fad1 _⟩
  rw [eh2]
  have g3 : h2 ad1 = some (eO 9 [vI 0, vI 0, vI 0, vF 0]) := by rw [← eh2]; exact hu_s _ _ _
  refine z_dup F dX3_addLine_23 rfl ?_
  refine z_iload_n F dX3_addLine_24 rfl 2 rfl ?_
  refine z_iload_n F dX3_addLine_25 rfl 3 rfl ?_
  refine z_iload_n F dX3_addLine_26 rfl 4 rfl ?_
  refine z_fload F dX3_addLine_27 0 rfl ?_
  refine z_callI (rm := { frames := 1, cells := 0, slots := 0, locals := 60 }) (As := [vI k9, vI m9, vI s9, vF (FP.fdiv (FP.fmul (FP.i2f (iI m9)) (FP.i2f (iI (ρ 6 (ρ 18 i9))))) 1114636288)]) (st := [vR ad1, vR (aL ρ i9)]) F (mX4_init l G N0 h2 ad1 k9 m9 s9 (FP.fdiv (FP.fmul (FP.i2f (iI m9)) (FP.i2f (iI (ρ 6 (ρ 18 i9))))) 1114636288) (g3) (by omega)) ciX3_33 rfl rfl ⟨Nat.le_of_ble_eq_true rfl, Nat.le_of_ble_eq_true rfl⟩ rfl ⟨Nat.le_of_ble_eq_true rfl, Nat.le_of_ble_eq_true rfl⟩ dX3_addLine_29 ?_
  rintro _ h4 ⟨rfl, hh9⟩
  have kh4 : h4 = hu h ad1 (eO 9 [vI k9, vI m9, vI s9, vF (FP.fdiv (FP.fmul (FP.i2f (iI m9)) (FP.i2f (iI (ρ 6 (ρ 18 i9))))) 1114636288)]) := by rw [hh9, ← eh2, hu_hu]
  clear hh9
  have Ih4 : CI G g ρ h4 := by rw [kh4]; exact CI.fresh hI fad1 _
  have gh4 : h4 ad1 = some (eO 9 [vI k9, vI m9, vI s9, vF (FP.fdiv (FP.fmul (FP.i2f (iI m9)) (FP.i2f (iI (ρ 6 (ρ 18 i9))))) 1114636288)]) := by rw [kh4]; exact hu_s _ _ _
  have nbh4 : ∀ r, CE g ρ r ≠ none → ad g ρ r ≠ ad1 := fun r hr => CI.nobody hI fad1 hr
  show Z _ _ _ _ _ _ _ _ _ _ _ _ _ _ _ _ _ _ _ _ [vR ad1, vR (aL ρ i9)]
  refine z_callV (As := [vR ad1]) (st := []) F (cAddN2 l G N0 h4 g ρ ad1 i9 k9 m9 s9 (fi (amt m9 (ρ 6 (ρ 18 i9)))) Ih4 nbh4 (by rw [fb_fi]; exact gh4) ⟨hi.1, hi.2.1, hi.2.2⟩ hq hL h39) cvX3_36 (ci_l Ih4 (show 0 ≤ i9 ∧ i9 < ρ 39 0 ∧ i9 < 100 from by omega)) (fun r9 h9 => by cases h9; rfl) rfl rfl ⟨Nat.le_of_ble_eq_true rfl, Nat.le_of_ble_eq_true rfl⟩ rfl ⟨Nat.le_of_ble_eq_true rfl, Nat.le_of_ble_eq_true rfl⟩ dX3_addLine_32 ?_
  rintro _ h6 ⟨rfl, r6, q6, O6, I6⟩
  have a6 : aI ρ i9 = aI r6 i9 := by show (ρ 42 i9).toNat = (r6 42 i9).toNat; rw [q6 42 (by decide) (by decide) (by decide) (by decide)]; rfl
  have t6 : r6 39 0 = ρ 39 0 := congrFun (q6 39 (by decide) (by decide) (by decide) (by decide)) 0
  have t31 : r6 31 = ρ 31 := q6 31 (by decide) (by decide) (by decide) (by decide)
  have t23 : r6 23 = ρ 23 := q6 23 (by decide) (by decide) (by decide) (by decide)
  rw [a6]
  show Z _ _ _ _ _ _ _ _ _ _ _ _ _ _ _ _ _ _ _ _ [vI 1]
  refine z_pop F dX3_addLine_35 rfl ?_
  refine z_aload_n F dX3_addLine_36 rfl 1 rfl ?_
  refine z_dup F dX3_addLine_37 rfl ?_
  refine z_get (v := vI (r6 31 i9)) F (ci_i I6 (show 0 ≤ i9 ∧ i9 < r6 39 0 ∧ i9 < 100 from by omega)) fX3_40 rfl dX3_addLine_38 ?_
  refine z_iload_n F dX3_addLine_41 rfl 3 rfl ?_
  refine z_iadd F dX3_addLine_42 ?_
  obtain ⟨h5, eh5, Ih5⟩ : ∃ z : Hp, hu h6 (aI r6 i9) (eO 8 [vR (aC r6 (r6 18 i9)), vR (aL r6 i9), vI ((r6 31 i9) + m9), vF (fb (r6 23 i9))]) = z ∧ CI G g (su r6 31 i9 ((r6 31 i9) + m9)) z := ⟨_, rfl, cP31 I6 (show 0 ≤ i9 ∧ i9 < r6 39 0 ∧ i9 < 100 from by omega) (by first | (simp [su, sw, fb_fi]; done) | (simp [su, sw, fb_fi]; rfl) | (simp [su, sw, fb_fi]; exact ⟨rfl, rfl⟩))⟩
  refine z_put (fs := [vR (aC r6 (r6 18 i9)), vR (aL r6 i9), vI (r6 31 i9), vF (fb (r6 23 i9))]) (fs' := [vR (aC r6 (r6 18 i9)), vR (aL r6 i9), vI ((r6 31 i9) + m9), vF (fb (r6 23 i9))]) (h' := h5) F (ci_i I6 (show 0 ≤ i9 ∧ i9 < r6 39 0 ∧ i9 < 100 from by omega)) fX3_40 ftX3_2 (nf_i _) (Nat.le_of_ble_eq_true rfl) rfl dX3_addLine_43 eh5 ?_
  refine z_aload_n F dX3_addLine_46 rfl 1 rfl ?_
  refine z_aload_n F dX3_addLine_47 rfl 1 rfl ?_
  refine z_get (v := vF (fb (r6 23 i9))) F (show h5 (aI r6 i9) = some (eO 8 [vR (aC r6 (r6 18 i9)), vR (aL r6 i9), vI ((r6 31 i9) + m9), vF (fb (r6 23 i9))]) from (ci_i (ρ := (su r6 31 i9 ((r6 31 i9) + m9))) Ih5 (show 0 ≤ i9 ∧ i9 < r6 39 0 ∧ i9 < 100 from by omega)).trans (congrArg some (by first | (simp [su, sw, fb_fi]; done) | (simp [su, sw, fb_fi]; rfl) | (simp [su, sw, fb_fi]; exact ⟨rfl, rfl⟩)))) fX3_16 rfl dX3_addLine_48 ?_
  refine z_fload F dX3_addLine_51 0 rfl ?_
  refine z_fadd F dX3_addLine_53 (by rw [t23]; exact had.n (by omega)) ?_
  obtain ⟨h6, eh6, Ih6⟩ : ∃ z : Hp, hu h5 (aI r6 i9) (eO 8 [vR (aC r6 (r6 18 i9)), vR (aL r6 i9), vI ((r6 31 i9) + m9), vF (FP.fadd (fb (r6 23 i9)) (FP.fdiv (FP.fmul (FP.i2f (iI m9)) (FP.i2f (iI (ρ 6 (ρ 18 i9))))) 1114636288))]) = z ∧ CI G g (su (su r6 31 i9 ((r6 31 i9) + m9)) 23 i9 (fi (FP.fadd (fb (r6 23 i9)) (FP.fdiv (FP.fmul (FP.i2f (iI m9)) (FP.i2f (iI (ρ 6 (ρ 18 i9))))) 1114636288)))) z := ⟨_, rfl, cP23 Ih5 (show 0 ≤ i9 ∧ i9 < r6 39 0 ∧ i9 < 100 from by omega) (by first | (simp [su, sw, fb_fi]; done) | (simp [su, sw, fb_fi]; rfl) | (simp [su, sw, fb_fi]; exact ⟨rfl, rfl⟩))⟩
  refine z_put (fs := [vR (aC r6 (r6 18 i9)), vR (aL r6 i9), vI ((r6 31 i9) + m9), vF (fb (r6 23 i9))]) (fs' := [vR (aC r6 (r6 18 i9)), vR (aL r6 i9), vI ((r6 31 i9) + m9), vF (FP.fadd (fb (r6 23 i9)) (FP.fdiv (FP.fmul (FP.i2f (iI m9)) (FP.i2f (iI (ρ 6 (ρ 18 i9))))) 1114636288))]) (h' := h6) F (show h5 (aI r6 i9) = some (eO 8 [vR (aC r6 (r6 18 i9)), vR (aL r6 i9), vI ((r6 31 i9) + m9), vF (fb (r6 23 i9))]) from (ci_i (ρ := (su r6 31 i9 ((r6 31 i9) + m9))) Ih5 (show 0 ≤ i9 ∧ i9 < r6 39 0 ∧ i9 < 100 from by omega)).trans (congrArg some (by first | (simp [su, sw, fb_fi]; done) | (simp [su, sw, fb_fi]; rfl) | (simp [su, sw, fb_fi]; exact ⟨rfl, rfl⟩)))) fX3_16 ftX3_3 (nf_f _) (Nat.le_of_ble_eq_true rfl) rfl dX3_addLine_54 eh6 ?_
  exact z_vret F hr (Nat.le_of_ble_eq_true rfl) (Nat.le_of_ble_eq_true rfl) dX3_addLine_57 (⟨rfl, (su (su r6 31 i9 ((r6 31 i9) + m9)) 23 i9 (fi (FP.fadd (fb (r6 23 i9)) (FP.fdiv (FP.fmul (FP.i2f (iI m9)) (FP.i2f (iI (ρ 6 (ρ 18 i9))))) 1114636288)))), fun k n1 n2 n3 n4 => by rw [t31, t23]; funext j; show _ = su (su (mkN ρ i9 k9 m9 s9 (fi (amt m9 (ρ 6 (ρ 18 i9))))) 31 i9 (ρ 31 i9 + m9)) 23 i9 (fi (FP.fadd (fb (ρ 23 i9)) (amt m9 (ρ 6 (ρ 18 i9))))) k j; by_cases z1 : k = 23; subst z1; by_cases z2 : j = i9; rw [z2, su_e, su_e]; rfl; rw [su_i z2, su_i z2, su_n (by decide), su_n (by decide)]; exact congrFun (q6 23 n1 n2 n3 n4) j; by_cases z3 : k = 31; subst z3; by_cases z2 : j = i9; rw [z2, su_n (by decide), su_e, su_n (by decide), su_e]; rw [su_n (by decide), su_i z2, su_n (by decide), su_i z2]; exact congrFun (q6 31 n1 n2 n3 n4) j; rw [su_n z1, su_n z1, su_n z3, su_n z3]; exact congrFun (q6 k n1 n2 n3 n4) j, O6, Ih6⟩)
