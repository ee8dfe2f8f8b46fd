theorem cAddK2 (l : Launch) (G : GG) (N0 : Nat) (h : Hp) (g : Int → Nat) (ρ : Sg) (b : Nat) (en mi : Int) (hI : CI G g ρ h) (hbn : ∀ r, CE g ρ r ≠ none → ad g ρ r ≠ b) (hb : h b = some (eO 6 [vR (aE ρ en), vI mi, vI 0])) (hn9 : ρ 24 0 ≤ 40) (h27 : ρ 27 (ρ 24 0) = 0) : Ct l G N0 yJx4a65c_add_9ea2d (Cond.code yJx4a65c_add_9ea2d cJx4a65c_add_9ea2d 2 (some FieldType.boolean) :: LW) ({ frames := 6, cells := 1, slots := 100, locals := 360 }) [vR (g 11), vR b] h (fun r h' => r = some (vI 1) ∧ ∃ ρ', (∀ k, scrB k = false → k ≠ 46 → ρ' k = mkK ρ en mi k) ∧ CI G g ρ' h') := by
  obtain ⟨hk1, hk2⟩ := hI.2.2.2.2.1
  have hLI : LI G h (g 11) (aA ρ 2) (ρ 33 2).toNat (ρ 32 2) (ρ 24 0) (fun j => if 0 ≤ j ∧ j < ρ 24 0 then some (aK ρ j) else none) := by
    refine ⟨ci_11 hI, ?_, by omega, fun j hj => if_neg (by omega), ?_⟩
    · by_cases q : 0 < ρ 33 2
      · exact Or.inr ⟨cArr2 hI q, by omega⟩
      · exact Or.inl ⟨by omega, by omega, hk2 (by omega)⟩
    · intro i h0 h1 y hy
      have hy : (if 0 ≤ i ∧ i < ρ 24 0 then some (aK ρ i) else none) = some y := hy
      rw [if_pos ⟨h0, h1⟩] at hy
      cases hy
      exact ⟨6, _, ci_k hI ⟨h0, by omega, by omega⟩, castK⟩
  have hba : b ≠ g 11 := fun z => hbn 11 (fun w => by cases w) z.symm
  refine Ct.monoN (mJx4a65c_add_9ea2d l G N0 h (g 11) (aA ρ 2) (ρ 33 2).toNat b 6 _ (ρ 32 2) (ρ 24 0) _ hLI (by omega) hb castK hba) (fun r h' hq => ?_)
  obtain ⟨hr, e1, N1, f1, ⟨k1, k2, k3, k4, k5⟩, hf1, hw, hfr, hN1⟩ := hq
  have he1 : h' e1 = some (eA 5 N1 (fun j => vQ (f1 j))) := by
    rcases k2 with k2 | k2
    · omega
    · exact k2.1
  have hge : g 11 ≠ e1 := ne_tg k1 he1 rfl
  obtain ⟨X, hX⟩ : ∃ z, z = su (mkK ρ en mi) 46 (ρ 24 0) (b : Int) := ⟨_, rfl⟩
  refine ⟨hN h' e1 (eA 5 N1 (cCn (ρ 24 0 + 1) (aK X))), ⟨hr, mt X 2 (ρ 32 2 + 1) (N1 : Int) (e1 : Int), ?_, ?_⟩, hN_q he1 (fun j => ?_)⟩
  · rw [hX]
    intro k hk hq
    funext j
    show su (su (su (su (mkK ρ en mi) 46 _ _) 32 _ _) 33 _ _) 40 _ _ k j = _
    rw [su_n (fun z => by rw [z] at hk; cases hk), su_n (fun z => by rw [z] at hk; cases hk), su_n (fun z => by rw [z] at hk; cases hk), su_n hq]
  · have hXn : X 24 0 = ρ 24 0 + 1 := by rw [hX]; rfl
    have mto := mt_o2 (g := g) X (ρ 32 2 + 1) (N1 : Int) e1
    rw [hXn] at mto
    have hbe1 : b ≠ e1 := by
      rcases hw with w | w
      · rw [w.1]
        exact fun z => hbn 12 (by rw [show CE g ρ 12 = cAr (ρ 33 2) (ρ 24 0) (aK ρ) from rfl]; unfold cAr; rw [if_pos (by omega)]; exact fun w => by cases w) z.symm
      · exact fresh_ne w hb
    refine hI.list (rl := 11) (ra := 12) (rb := 300 + ρ 24 0) rfl rfl ((ce_k (by omega) (by omega)).1.trans (if_neg (by omega))) mto.1 mto.2.1 rfl mto.2.2.2 rfl mto.2.2.1 (fun r n1 n2 n3 => ?_) (fun x q1 q2 => ?_) ?_ (fun _ => if_pos rfl) (fun q => absurd q (by omega)) ?_ (fun x hx => ?_) ?_
    · have m := mt_2 (g := g) X (ρ 32 2 + 1) (N1 : Int) (e1 : Int) n1 n2
      have u := mkK_u (g := g) (ρ := ρ) (en := en) (mi := mi) (q := (b : Int)) n1 n2 n3
      rw [← hX] at u
      exact ⟨m.1.trans u.1, fun _ => m.2.trans u.2⟩
    · unfold hN
      rw [if_neg q2]
      exact hfr x q1 q2
    · show (if g 11 = e1 then some _ else h' (g 11)) = _
      rw [if_neg hge]
      exact k1
    · rcases hw with w | w
      · exact Or.inl ⟨w.1, fun _ => by omega⟩
      · exact Or.inr w
    · rw [(ce_k (by omega) (by omega)).1, show (mt X _ _ _ _) 24 0 = ρ 24 0 + 1 from hXn, if_pos (by omega)] at hx
      cases hx
      rw [(ce_k (by omega) (by omega)).2]
      have hab : aK (mt X 2 (ρ 32 2 + 1) (N1 : Int) (e1 : Int)) (ρ 24 0) = b := by
        rw [hX]
        show (su ρ 46 (ρ 24 0) (b : Int) 46 (ρ 24 0)).toNat = b
        rw [su_e]
        rfl
      rw [hab]
      refine ⟨?_, hbn, fun _ => hbe1⟩
      unfold hN
      rw [if_neg hbe1, hfr b hba hbe1, hb, hX]
      exact congrArg some (by first | (simp [su, h27]; done) | (simp [su, h27]; rfl))
    · have K := hI.2.2
      rw [hX]
      exact ⟨K.1, K.2.1, ⟨⟨by show 0 ≤ ρ 24 0 + 1; omega, by show ρ 24 0 + 1 ≤ (N1 : Int); omega, by show (N1 : Int) ≤ 60; omega⟩, fun q => absurd (show (N1 : Int) = 0 from q) (by omega)⟩, K.2.2.2⟩
  · have hj : f1 (j : Int) = if (j : Int) = ρ 24 0 then some b else if 0 ≤ (j : Int) ∧ (j : Int) < ρ 24 0 then some (aK ρ (j : Int)) else none := hf1 (j : Int) (by omega)
    rw [hj, hX]
    unfold cCn
    by_cases q1 : (j : Int) = ρ 24 0
    · rw [if_pos q1, if_pos (by omega)]
      show vQ (some b) = vQ (some ((su ρ 46 (ρ 24 0) (b : Int) 46 (j : Int)).toNat))
      rw [q1, su_e]
      rfl
    · rw [if_neg q1]
      by_cases q2 : 0 ≤ (j : Int) ∧ (j : Int) < ρ 24 0
      · rw [if_pos q2, if_pos (by omega)]
        show vQ (some (aK ρ (j : Int))) = vQ (some ((su ρ 46 (ρ 24 0) (b : Int) 46 (j : Int)).toNat))
        rw [su_i q1]
      · rw [if_neg q2, if_neg (by omega)]
set_option maxRecDepth 100000 in
set_option maxHeartbeats 4000000 in
theorem mX7_append (l : Launch) (G : GG) (N0 : Nat) (h : Hp) (g : Int → Nat) (ρ : Sg) (c9 s9 t9 sa9 : Int) (hI : CI G g ρ h) (hV : MC ρ) (hc : 0 ≤ c9 ∧ c9 < ρ 2 0) (r_sa9 : 0 ≤ sa9 ∧ sa9 < 65536) (hn8 : ρ 8 0 < 24) : Ct l G N0 yX7_append (Cond.code yX7_append cX7_append 6 (some FieldType.int) :: LW) ({ frames := 8, cells := 2, slots := 106, locals := 420 }) [vR (g 1), vR (aC ρ c9), vI s9, vI t9, vI sa9] h (fun r h' => r = some (vI (ρ 8 0)) ∧ ∃ ρ', SA (mkE ρ c9 s9 t9 sa9) ρ' ∧ CI G g ρ' h') := by
  refine ct_of rfl rfl ?_
  intro p e s m args below meth c F hr hnm
  have F : Fx p s m args meth c RX7 cX7_append 6 G N0 (cA h s.heap.size) := F
  obtain ⟨v0, v1, v2, v8, v16, v24, v39, vC, vE, vJ, vK, vB, vO⟩ := id hV
  show Z _ _ _ _ _ _ _ _ _ _ _ _ _ _ _ _ _ _ _ [(0, vR (g 1)), (1, vR (aC ρ c9)), (2, vI s9), (3, vI t9), (4, vI sa9)] []
  refine z_aload_n F dX7_append_0 rfl 0 rfl ?_
  refine z_get (v := vR (g 15)) F (ci_1 hI) fX7_12 rfl dX7_append_1 ?_
  refine z_callV (As := []) (st := []) F (mJx4a65c_size_8abf5 l G N0 h (g 15) ((ρ 40 3).toNat) 0 (ρ 32 3) (ρ 8 0) (fun _ => none) (ci_15 hI)) cvX7_26 (ci_15 hI) (fun r9 h9 => by cases h9; rfl) rfl rfl ⟨Nat.le_of_ble_eq_true rfl, Nat.le_of_ble_eq_true rfl⟩ rfl ⟨Nat.le_of_ble_eq_true rfl, Nat.le_of_ble_eq_true rfl⟩ dX7_append_4 ?_
  rintro _ h9 ⟨rfl, hh9⟩
  rw [hh9]
  clear hh9 h9
  show Z _ _ _ _ _ _ _ _ _ _ _ _ _ _ _ _ _ _ _ _ [vI (ρ 8 0)]
  refine z_istore (lv' := [(5, vI (ρ 8 0)), (0, vR (g 1)), (1, vR (aC ρ c9)), (2, vI s9), (3, vI t9), (4, vI sa9)]) F dX7_append_7 (by decide) rfl ?_
  refine z_aload_n F dX7_append_9 rfl 1 rfl ?_
  refine z_get (v := vR (g 15)) F (ci_1 hI) fX7_12 rfl dX7_append_10 ?_
  refine z_new (N := 6) F nwX7_34 (fun r9 h9 => by cases h9; rfl) (Nat.le_of_ble_eq_true rfl) (Nat.le_of_ble_eq_true rfl) dX7_append_13 (fun ad1 fad1 => ?_)
  obtain ⟨h2, eh2, Ih2⟩ : ∃ z : Hp, hu h ad1 (eO 7 [vI 0, vN, vI 0, vI 0, vI 0, vI 0]) = z ∧ CI G g ρ z := ⟨_, rfl, CI.fresh hI fad1 _⟩
  rw [eh2]
  have g3 : h2 ad1 = some (eO 7 [vI 0, vN, vI 0, vI 0, vI 0, vI 0]) := by rw [← eh2]; exact hu_s _ _ _
  refine z_dup F dX7_append_16 rfl ?_
  refine z_iload F dX7_append_17 0 rfl ?_
  refine z_aload_n F dX7_append_19 rfl 2 rfl ?_
  refine z_iload_n F dX7_append_20 rfl 3 rfl ?_
  refine z_iload_n F dX7_append_21 rfl 4 rfl ?_
  refine z_iload F dX7_append_22 5 rfl ?_
  refine z_callI (rm := { frames := 1, cells := 0, slots := 0, locals := 60 }) (As := [vI (ρ 8 0), vR (aC ρ c9), vI s9, vI t9, vI sa9]) (st := [vR ad1, vR (g 15)]) F (mX2_init l G N0 h2 ad1 (ρ 8 0) (aC ρ c9) s9 t9 sa9 (g3) (by omega)) ciX7_42 rfl rfl ⟨Nat.le_of_ble_eq_true rfl, Nat.le_of_ble_eq_true rfl⟩ rfl ⟨Nat.le_of_ble_eq_true rfl, Nat.le_of_ble_eq_true rfl⟩ dX7_append_24 ?_
  rintro _ h4 ⟨rfl, hh9⟩
  have kh4 : h4 = hu h ad1 (eO 7 [vI (ρ 8 0), vR (aC ρ c9), vI s9, vI t9, vI sa9, vI 0]) := by rw [hh9, ← eh2, hu_hu]
  clear hh9
  have Ih4 : CI G g ρ h4 := by rw [kh4]; exact CI.fresh hI fad1 _
  have gh4 : h4 ad1 = some (eO 7 [vI (ρ 8 0), vR (aC ρ c9), vI s9, vI t9, vI sa9, vI 0]) := by rw [kh4]; exact hu_s _ _ _
  have nbh4 : ∀ r, CE g ρ r ≠ none → ad g ρ r ≠ ad1 := fun r hr => CI.nobody hI fad1 hr
  show Z _ _ _ _ _ _ _ _ _ _ _ _ _ _ _ _ _ _ _ _ [vR ad1, vR (g 15)]
  refine z_callV (As := [vR ad1]) (st := []) F (cAddE l G N0 h4 g ρ ad1 c9 s9 t9 sa9 Ih4 nbh4 (gh4) (by omega) (vB.2.1 _ (Int.le_refl _)) (fun c q0 q1 => (vK c q0 q1).2.1.2)) cvX7_45 (ci_15 Ih4) (fun r9 h9 => by cases h9; rfl) rfl rfl ⟨Nat.le_of_ble_eq_true rfl, Nat.le_of_ble_eq_true rfl⟩ rfl ⟨Nat.le_of_ble_eq_true rfl, Nat.le_of_ble_eq_true rfl⟩ dX7_append_27 ?_
  rintro _ h5 ⟨rfl, r5, s5, I5⟩
  show Z _ _ _ _ _ _ _ _ _ _ _ _ _ _ _ _ _ _ _ _ [vI 1]
  refine z_pop F dX7_append_30 rfl ?_
  refine z_iload F dX7_append_31 0 rfl ?_
  exact z_iret (nf_i _) F hr (Nat.le_of_ble_eq_true rfl) (Nat.le_of_ble_eq_true rfl) dX7_append_33 (⟨rfl, r5, s5, I5⟩)
set_option maxRecDepth 100000 in
set_option maxHeartbeats 4000000 in
theorem mX8_start (l : Launch) (G : GG) (N0 : Nat) (h : Hp) (hl9 : l.stackTraces = false) (g : Int → Nat) (ρ : Sg) (c9 : Int) (hI : CI G g ρ h) (hV : MC ρ) (r_c9 : -2147483648 ≤ c9 ∧ c9 < 2147483648) : CtX l G N0 yX8_start (Cond.code yX8_start cX8_start 3 (some FieldType.int) :: LW) ({ frames := 9, cells := 6, slots := 140, locals := 460 }) [vR (g 0), vI c9] h (fun r h' => ¬ (¬ (0 ≤ c9 ∧ c9 < ρ 2 0)) ∧ ¬ (ρ 8 0 = 24 ∨ cst ρ 114 (ρ 8 0).toNat = 4) ∧ ∃ ρ', r = some (vI (ρ 8 0)) ∧ SA (mkE ρ c9 (ρ 0 0) (ρ 0 0) 114) ρ' ∧ CI G g ρ' h') (fun E h' => ∃ ρ', SA ρ ρ' ∧ CI G g ρ' h' ∧ ((E = "java/lang/IndexOutOfBoundsException" ∧ (¬ (0 ≤ c9 ∧ c9 < ρ 2 0))) ∨ (E = "java/lang/IllegalStateException" ∧ ¬ (¬ (0 ≤ c9 ∧ c9 < ρ 2 0)) ∧ (ρ 8 0 = 24 ∨ cst ρ 114 (ρ 8 0).toNat = 4)))) := by
  refine ctX_of rfl rfl ?_
  intro p e s m args below meth c F hr htab
  have F : Fx p s m args meth c RX8 cX8_start 3 G N0 (cA h s.heap.size) := F
  obtain ⟨v0, v1, v2, v8, v16, v24, v39, vC, vE, vJ, vK, vB, vO⟩ := id hV
  have hcs := cst_in ρ 114 (ρ 8 0).toNat
  show Z _ _ _ _ _ _ _ _ _ _ _ _ _ _ _ _ _ _ _ [(0, vR (g 0)), (1, vI c9)] []
  refine z_aload_n F dX8_start_0 rfl 0 rfl ?_
  refine z_iload_n F dX8_start_1 rfl 1 rfl ?_
  refine z_xcallV (As := [vI c9]) (st := []) F htab (mX8_clientAt l G N0 h hl9 g ρ c9 hI hV (by omega)) cvX8_105 (ci_0 hI) (fun r9 h9 => by cases h9; rfl) rfl rfl ⟨Nat.le_of_ble_eq_true rfl, Nat.le_of_ble_eq_true rfl⟩ rfl ⟨Nat.le_of_ble_eq_true rfl, Nat.le_of_ble_eq_true rfl⟩ dX8_start_2 (fun E h9 hx => by obtain ⟨e1, rfl⟩ := hx; refine ⟨ρ, SA.refl _, hI, ?_⟩; obtain ⟨rfl, e2⟩ := e1; first | exact Or.inl ⟨rfl, by omega⟩ | exact Or.inr (⟨rfl, by omega, by omega⟩)) (Nat.le_of_ble_eq_true rfl) (Nat.le_of_ble_eq_true rfl) ?_
  rintro _ h9 ⟨f2_0, rfl, hh9⟩
  rw [hh9]
  clear hh9 h9
  show Z _ _ _ _ _ _ _ _ _ _ _ _ _ _ _ _ _ _ _ _ [vR (aC ρ c9)]
  refine z_astore_n (lv' := [(2, vR (aC ρ c9)), (0, vR (g 0)), (1, vI c9)]) F dX8_start_5 rfl (by decide) rfl ?_
  refine z_aload_n F dX8_start_6 rfl 1 rfl ?_
  refine z_xcallV (As := []) (st := []) F htab (mX8_requireRoomForEntry l G N0 h hl9 g ρ hI hV) cvX8_126 (ci_0 hI) (fun r9 h9 => by cases h9; rfl) rfl rfl ⟨Nat.le_of_ble_eq_true rfl, Nat.le_of_ble_eq_true rfl⟩ rfl ⟨Nat.le_of_ble_eq_true rfl, Nat.le_of_ble_eq_true rfl⟩ dX8_start_7 (fun E h9 hx => by obtain ⟨e1, rfl⟩ := hx; refine ⟨ρ, SA.refl _, hI, ?_⟩; obtain ⟨rfl, e2⟩ := e1; first | exact Or.inl ⟨rfl, by omega⟩ | exact Or.inr (⟨rfl, by omega, by omega⟩)) (Nat.le_of_ble_eq_true rfl) (Nat.le_of_ble_eq_true rfl) ?_
  rintro _ h9 ⟨f7_0, rfl, hh9⟩
  rw [hh9]
  clear hh9 h9
  show Z _ _ _ _ _ _ _ _ _ _ _ _ _ _ _ _ _ _ _ _ []
  refine z_aload_n F dX8_start_10 rfl 1 rfl ?_
  refine z_get (v := vR (g 1)) F (ci_0 hI) fX8_10 rfl dX8_start_11 ?_
  refine z_callV (As := []) (st := []) F (mX7_runningEntries l G N0 h g ρ hI hV) cvX8_129 (ci_1 hI) (fun r9 h9 => by cases h9; rfl) rfl rfl ⟨Nat.le_of_ble_eq_true rfl, Nat.le_of_ble_eq_true rfl⟩ rfl ⟨Nat.le_of_ble_eq_true rfl, Nat.le_of_ble_eq_true rfl⟩ dX8_start_14 ?_
  rintro _ h9 ⟨rfl, hh9⟩
  rw [hh9]
  clear hh9 h9
  show Z _ _ _ _ _ _ _ _ _ _ _ _ _ _ _ _ _ _ _ _ [vI (cst ρ 114 (ρ 8 0).toNat)]
  refine z_iconst F dX8_start_17 ?_
  refine z_icmp_lt (tgt := 31) F dX8_start_18 (by decide) (by omega) (by decide) (fun c18 => ?_) (fun c18 => ?_)
  · refine z_aload_n F dX8_start_31 rfl 1 rfl ?_
    refine z_get (v := vR (g 1)) F (ci_0 hI) fX8_10 rfl dX8_start_32 ?_
    refine z_aload_n F dX8_start_35 rfl 0 rfl ?_
    refine z_aload_n F dX8_start_36 rfl 1 rfl ?_
    refine z_get (v := vR (g 1)) F (ci_0 hI) fX8_10 rfl dX8_start_37 ?_
    refine z_get (v := vI (ρ 0 0)) F (ci_1 hI) fX8_57 rfl dX8_start_40 ?_
    refine z_aload_n F dX8_start_43 rfl 1 rfl ?_
    refine z_get (v := vR (g 1)) F (ci_0 hI) fX8_10 rfl dX8_start_44 ?_
    refine z_get (v := vI (ρ 0 0)) F (ci_1 hI) fX8_57 rfl dX8_start_47 ?_
    refine z_bipush F dX8_start_50 (by decide) ?_
    refine z_callV (As := [vR (aC ρ c9), vI (ρ 0 0), vI (ρ 0 0), vI 114]) (st := []) F (mX7_append l G N0 h g ρ c9 (ρ 0 0) (ρ 0 0) 114 hI hV (by omega) (by omega) (by omega)) cvX8_134 (ci_1 hI) (fun r9 h9 => by cases h9; rfl) rfl rfl ⟨Nat.le_of_ble_eq_true rfl, Nat.le_of_ble_eq_true rfl⟩ rfl ⟨Nat.le_of_ble_eq_true rfl, Nat.le_of_ble_eq_true rfl⟩ dX8_start_52 ?_
    rintro _ h1 ⟨rfl, r1, s1, I1⟩
    show Z _ _ _ _ _ _ _ _ _ _ _ _ _ _ _ _ _ _ _ _ [vI (ρ 8 0)]
    exact z_iretX (nf_i _) F hr (Nat.le_of_ble_eq_true rfl) (Nat.le_of_ble_eq_true rfl) dX8_start_55 (⟨by omega, by omega, r1, rI (by first | rfl | omega), s1, I1⟩)
  · exact z_throwC (names := ["java/lang/RuntimeException", "java/lang/Exception"]) F htab hl9 ⟨by decide +kernel, fitN⟩ q737 q17 hatS (List.mem_of_getElem? (i := 11) rfl) dX8_start_21 dX8_start_24 dX8_start_25 dX8_start_27 dX8_start_30 ⟨Nat.le_of_ble_eq_true rfl, Nat.le_of_ble_eq_true rfl, Nat.le_of_ble_eq_true rfl, Nat.le_of_ble_eq_true rfl⟩ (Nat.le_of_ble_eq_true rfl) (Nat.le_of_ble_eq_true rfl) (⟨ρ, SA.refl _, hI, by first | exact Or.inl ⟨rfl, by omega⟩ | exact Or.inr (⟨rfl, by omega, by omega⟩)⟩)
set_option maxRecDepth 100000 in
set_option maxHeartbeats 4000000 in
theorem mX8_addEntry (l : Launch) (G : GG) (N0 : Nat) (h : Hp) (hl9 : l.stackTraces = false) (g : Int → Nat) (ρ : Sg) (c9 s9 t9 : Int) (hI : CI G g ρ h) (hV : MC ρ) (r_c9 : -2147483648 ≤ c9 ∧ c9 < 2147483648) (r_s9 : -2147483648 ≤ s9 ∧ s9 < 2147483648) (r_t9 : -2147483648 ≤ t9 ∧ t9 < 2147483648) : CtX l G N0 yX8_addEntry (Cond.code yX8_addEntry cX8_addEntry 5 (some FieldType.int) :: LW) ({ frames := 9, cells := 6, slots := 140, locals := 460 }) [vR (g 0), vI c9, vI s9, vI t9] h (fun r h' => ¬ (¬ (0 ≤ c9 ∧ c9 < ρ 2 0)) ∧ ¬ (s9 < 0 ∨ t9 < s9 ∨ ρ 0 0 < t9) ∧ ¬ (ρ 8 0 = 24) ∧ ∃ ρ', r = some (vI (ρ 8 0)) ∧ SA (mkE ρ c9 s9 t9 101) ρ' ∧ CI G g ρ' h') (fun E h' => ∃ ρ', SA ρ ρ' ∧ CI G g ρ' h' ∧ ((E = "java/lang/IndexOutOfBoundsException" ∧ (¬ (0 ≤ c9 ∧ c9 < ρ 2 0))) ∨ (E = "java/lang/IllegalArgumentException" ∧ ¬ (¬ (0 ≤ c9 ∧ c9 < ρ 2 0)) ∧ (s9 < 0 ∨ t9 < s9 ∨ ρ 0 0 < t9)) ∨ (E = "java/lang/IllegalStateException" ∧ ¬ (¬ (0 ≤ c9 ∧ c9 < ρ 2 0)) ∧ ¬ (s9 < 0 ∨ t9 < s9 ∨ ρ 0 0 < t9) ∧ (ρ 8 0 = 24)))) := by
  refine ctX_of rfl rfl ?_
  intro p e s m args below meth c F hr htab
  have F : Fx p s m args meth c RX8 cX8_addEntry 5 G N0 (cA h s.heap.size) := F
  obtain ⟨v0, v1, v2, v8, v16, v24, v39, vC, vE, vJ, vK, vB, vO⟩ := id hV
  show Z _ _ _ _ _ _ _ _ _ _ _ _ _ _ _ _ _ _ _ [(0, vR (g 0)), (1, vI c9), (2, vI s9), (3, vI t9)] []
  refine z_aload_n F dX8_addEntry_0 rfl 0 rfl ?_
  refine z_iload_n F dX8_addEntry_1 rfl 1 rfl ?_
  refine z_xcallV (As := [vI c9]) (st := []) F htab (mX8_clientAt l G N0 h hl9 g ρ c9 hI hV (by omega)) cvX8_105 (ci_0 hI) (fun r9 h9 => by cases h9; rfl) rfl rfl ⟨Nat.le_of_ble_eq_true rfl, Nat.le_of_ble_eq_true rfl⟩ rfl ⟨Nat.le_of_ble_eq_true rfl, Nat.le_of_ble_eq_true rfl⟩ dX8_addEntry_2 (fun E h9 hx => by obtain ⟨e1, rfl⟩ := hx; refine ⟨ρ, SA.refl _, hI, ?_⟩; obtain ⟨rfl, e2⟩ := e1; first | exact Or.inl ⟨rfl, by omega⟩ | exact Or.inr (Or.inl ⟨rfl, by omega, by omega⟩) | exact Or.inr (Or.inr (⟨rfl, by omega, by omega, by omega⟩))) (Nat.le_of_ble_eq_true rfl) (Nat.le_of_ble_eq_true rfl) ?_
  rintro _ h9 ⟨f2_0, rfl, hh9⟩
  rw [hh9]
  clear hh9 h9
  show Z _ _ _ _ _ _ _ _ _ _ _ _ _ _ _ _ _ _ _ _ [vR (aC ρ c9)]
  refine z_astore (lv' := [(4, vR (aC ρ c9)), (0, vR (g 0)), (1, vI c9), (2, vI s9), (3, vI t9)]) F dX8_addEntry_5 (by decide) rfl ?_
  refine z_iload_n F dX8_addEntry_7 rfl 3 rfl ?_
  refine z_if_lt (tgt := 27) F dX8_addEntry_8 (by decide) (by omega) (fun c8 => ?_) (fun c8 => ?_)
  · exact z_throwC (names := ["java/lang/RuntimeException", "java/lang/Exception"]) F htab hl9 ⟨by decide +kernel, fitN⟩ q734 q16 hatA (List.mem_of_getElem? (i := 14) rfl) dX8_addEntry_27 dX8_addEntry_30 dX8_addEntry_31 dX8_addEntry_33 dX8_addEntry_36 ⟨Nat.le_of_ble_eq_true rfl, Nat.le_of_ble_eq_true rfl, Nat.le_of_ble_eq_true rfl, Nat.le_of_ble_eq_true rfl⟩ (Nat.le_of_ble_eq_true rfl) (Nat.le_of_ble_eq_true rfl) (⟨ρ, SA.refl _, hI, by first | exact Or.inl ⟨rfl, by omega⟩ | exact Or.inr (Or.inl ⟨rfl, by omega, by omega⟩) | exact Or.inr (Or.inr (⟨rfl, by omega, by omega, by omega⟩))⟩)
  · refine z_iload_n F dX8_addEntry_11 rfl 4 rfl ?_
    refine z_iload_n F dX8_addEntry_12 rfl 3 rfl ?_
    refine z_icmp_lt (tgt := 27) F dX8_addEntry_13 (by decide) (by omega) (by omega) (fun c13 => ?_) (fun c13 => ?_)
    · exact z_throwC (names := ["java/lang/RuntimeException", "java/lang/Exception"]) F htab hl9 ⟨by decide +kernel, fitN⟩ q734 q16 hatA (List.mem_of_getElem? (i := 14) rfl) dX8_addEntry_27 dX8_addEntry_30 dX8_addEntry_31 dX8_addEntry_33 dX8_addEntry_36 ⟨Nat.le_of_ble_eq_true rfl, Nat.le_of_ble_eq_true rfl, Nat.le_of_ble_eq_true rfl, Nat.le_of_ble_eq_true rfl⟩ (Nat.le_of_ble_eq_true rfl) (Nat.le_of_ble_eq_true rfl) (⟨ρ, SA.refl _, hI, by first | exact Or.inl ⟨rfl, by omega⟩ | exact Or.inr (Or.inl ⟨rfl, by omega, by omega⟩) | exact Or.inr (Or.inr (⟨rfl, by omega, by omega, by omega⟩))⟩)
    · refine z_iload_n F dX8_addEntry_16 rfl 4 rfl ?_
      refine z_aload_n F dX8_addEntry_17 rfl 1 rfl ?_
      refine z_get (v := vR (g 1)) F (ci_0 hI) fX8_10 rfl dX8_addEntry_18 ?_
      refine z_get (v := vI (ρ 0 0)) F (ci_1 hI) fX8_57 rfl dX8_addEntry_21 ?_
      refine z_icmp_le (tgt := 37) F dX8_addEntry_24 (by decide) (by omega) (by omega) (fun c24 => ?_) (fun c24 => ?_)
      · refine z_aload_n F dX8_addEntry_37 rfl 1 rfl ?_
        refine z_xcallV (As := []) (st := []) F htab (mX8_requireRoomForEntry l G N0 h hl9 g ρ hI hV) cvX8_126 (ci_0 hI) (fun r9 h9 => by cases h9; rfl) rfl rfl ⟨Nat.le_of_ble_eq_true rfl, Nat.le_of_ble_eq_true rfl⟩ rfl ⟨Nat.le_of_ble_eq_true rfl, Nat.le_of_ble_eq_true rfl⟩ dX8_addEntry_38 (fun E h9 hx => by obtain ⟨e1, rfl⟩ := hx; refine ⟨ρ, SA.refl _, hI, ?_⟩; obtain ⟨rfl, e2⟩ := e1; first | exact Or.inl ⟨rfl, by omega⟩ | exact Or.inr (Or.inl ⟨rfl, by omega, by omega⟩) | exact Or.inr (Or.inr (⟨rfl, by omega, by omega, by omega⟩))) (Nat.le_of_ble_eq_true rfl) (Nat.le_of_ble_eq_true rfl) ?_
        rintro _ h9 ⟨f38_0, rfl, hh9⟩
        rw [hh9]
        clear hh9 h9
        show Z _ _ _ _ _ _ _ _ _ _ _ _ _ _ _ _ _ _ _ _ []
        refine z_aload_n F dX8_addEntry_41 rfl 1 rfl ?_
        refine z_get (v := vR (g 1)) F (ci_0 hI) fX8_10 rfl dX8_addEntry_42 ?_
        refine z_aload F dX8_addEntry_45 0 rfl ?_
        refine z_iload_n F dX8_addEntry_47 rfl 3 rfl ?_
        refine z_iload_n F dX8_addEntry_48 rfl 4 rfl ?_
        refine z_bipush F dX8_addEntry_49 (by decide) ?_
        refine z_callV (As := [vR (aC ρ c9), vI s9, vI t9, vI 101]) (st := []) F (mX7_append l G N0 h g ρ c9 s9 t9 101 hI hV (by omega) (by omega) (by omega)) cvX8_134 (ci_1 hI) (fun r9 h9 => by cases h9; rfl) rfl rfl ⟨Nat.le_of_ble_eq_true rfl, Nat.le_of_ble_eq_true rfl⟩ rfl ⟨Nat.le_of_ble_eq_true rfl, Nat.le_of_ble_eq_true rfl⟩ dX8_addEntry_51 ?_
        rintro _ h1 ⟨rfl, r1, s1, I1⟩
        show Z _ _ _ _ _ _ _ _ _ _ _ _ _ _ _ _ _ _ _ _ [vI (ρ 8 0)]
        exact z_iretX (nf_i _) F hr (Nat.le_of_ble_eq_true rfl) (Nat.le_of_ble_eq_true rfl) dX8_addEntry_54 (⟨by omega, by omega, by omega, r1, rI (by first | rfl | omega), s1, I1⟩)
      · exact z_throwC (names := ["java/lang/RuntimeException", "java/lang/Exception"]) F htab hl9 ⟨by decide +kernel, fitN⟩ q734 q16 hatA (List.mem_of_getElem? (i := 14) rfl) dX8_addEntry_27 dX8_addEntry_30 dX8_addEntry_31 dX8_addEntry_33 dX8_addEntry_36 ⟨Nat.le_of_ble_eq_true rfl, Nat.le_of_ble_eq_true rfl, Nat.le_of_ble_eq_true rfl, Nat.le_of_ble_eq_true rfl⟩ (Nat.le_of_ble_eq_true rfl) (Nat.le_of_ble_eq_true rfl) (⟨ρ, SA.refl _, hI, by first | exact Or.inl ⟨rfl, by omega⟩ | exact Or.inr (Or.inl ⟨rfl, by omega, by omega⟩) | exact Or.inr (Or.inr (⟨rfl, by omega, by omega, by omega⟩))⟩)
set_option maxRecDepth 100000 in
set_option maxHeartbeats 4000000 in
theorem mX8_addClient (l : Launch) (G : GG) (N0 : Nat) (h : Hp) (hl9 : l.stackTraces = false) (g : Int → Nat) (ρ : Sg) (u9 mo le ra : Int) (hI : CI G g ρ h) (hV : MC ρ) (r_u9 : -2147483648 ≤ u9 ∧ u9 < 2147483648) (r_mo : 0 ≤ mo ∧ mo < 65536) (r_le : 0 ≤ le ∧ le < 65536) (r_ra : -2147483648 ≤ ra ∧ ra < 2147483648) : CtX l G N0 yX8_addClient (Cond.code yX8_addClient cX8_addClient 6 (some FieldType.int) :: LW) ({ frames := 9, cells := 6, slots := 140, locals := 460 }) [vR (g 0), vI u9, vI mo, vI le, vI ra] h (fun r h' => ¬ (¬ ((1 ≤ u9 ∧ u9 ≤ 60) ∧ (mo = 117 ∨ mo = 100 ∨ mo = 110) ∧ (le = 101 ∨ le = 100 ∨ le = 99)) ∨ ¬ (0 ≤ ra ∧ ra ≤ 50000)) ∧ ¬ (ρ 2 0 = 5) ∧ ∃ ρ', r = some (vI (ρ 2 0)) ∧ SA (mkC ρ u9 mo le ra) ρ' ∧ CI G g ρ' h') (fun E h' => ∃ ρ', SA ρ ρ' ∧ CI G g ρ' h' ∧ ((E = "java/lang/IllegalArgumentException" ∧ (¬ ((1 ≤ u9 ∧ u9 ≤ 60) ∧ (mo = 117 ∨ mo = 100 ∨ mo = 110) ∧ (le = 101 ∨ le = 100 ∨ le = 99)) ∨ ¬ (0 ≤ ra ∧ ra ≤ 50000))) ∨ (E = "java/lang/IllegalStateException" ∧ ¬ (¬ ((1 ≤ u9 ∧ u9 ≤ 60) ∧ (mo = 117 ∨ mo = 100 ∨ mo = 110) ∧ (le = 101 ∨ le = 100 ∨ le = 99)) ∨ ¬ (0 ≤ ra ∧ ra ≤ 50000)) ∧ (ρ 2 0 = 5)))) := by
  refine ctX_of rfl rfl ?_
  intro p e s m args below meth c F hr htab
  have F : Fx p s m args meth c RX8 cX8_addClient 6 G N0 (cA h s.heap.size) := F
  obtain ⟨v0, v1, v2, v8, v16, v24, v39, vC, vE, vJ, vK, vB, vO⟩ := id hV
  show Z _ _ _ _ _ _ _ _ _ _ _ _ _ _ _ _ _ _ _ [(0, vR (g 0)), (1, vI u9), (2, vI mo), (3, vI le), (4, vI ra)] []
  refine z_aload_n F dX8_addClient_0 rfl 0 rfl ?_
  refine z_iload_n F dX8_addClient_1 rfl 1 rfl ?_
  refine z_iload_n F dX8_addClient_2 rfl 2 rfl ?_
  refine z_iload_n F dX8_addClient_3 rfl 3 rfl ?_
  refine z_xcallV (As := [vI u9, vI mo, vI le]) (st := []) F htab (mX8_requireRounding l G N0 h hl9 g ρ u9 mo le hI hV (by omega) (by omega) (by omega)) cvX8_83 (ci_0 hI) (fun r9 h9 => by cases h9; rfl) rfl rfl ⟨Nat.le_of_ble_eq_true rfl, Nat.le_of_ble_eq_true rfl⟩ rfl ⟨Nat.le_of_ble_eq_true rfl, Nat.le_of_ble_eq_true rfl⟩ dX8_addClient_4 (fun E h9 hx => by obtain ⟨e1, rfl⟩ := hx; refine ⟨ρ, SA.refl _, hI, ?_⟩; obtain ⟨rfl, e2⟩ := e1; first | exact Or.inl ⟨rfl, by omega⟩ | exact Or.inr (⟨rfl, by omega, by omega⟩)) (Nat.le_of_ble_eq_true rfl) (Nat.le_of_ble_eq_true rfl) ?_
  rintro _ h9 ⟨f4_0, rfl, hh9⟩
  rw [hh9]
  clear hh9 h9
  show Z _ _ _ _ _ _ _ _ _ _ _ _ _ _ _ _ _ _ _ _ []
  refine z_aload_n F dX8_addClient_7 rfl 0 rfl ?_
  refine z_iload F dX8_addClient_8 4 rfl ?_
  refine z_xcallV (As := [vI ra]) (st := []) F htab (mX8_requireRate l G N0 h hl9 g ρ ra hI hV (by omega)) cvX8_87 (ci_0 hI) (fun r9 h9 => by cases h9; rfl) rfl rfl ⟨Nat.le_of_ble_eq_true rfl, Nat.le_of_ble_eq_true rfl⟩ rfl ⟨Nat.le_of_ble_eq_true rfl, Nat.le_of_ble_eq_true rfl⟩ dX8_addClient_10 (fun E h9 hx => by obtain ⟨e1, rfl⟩ := hx; refine ⟨ρ, SA.refl _, hI, ?_⟩; obtain ⟨rfl, e2⟩ := e1; first | exact Or.inl ⟨rfl, by omega⟩ | exact Or.inr (⟨rfl, by omega, by omega⟩)) (Nat.le_of_ble_eq_true rfl) (Nat.le_of_ble_eq_true rfl) ?_
  rintro _ h9 ⟨f10_0, rfl, hh9⟩
  rw [hh9]
  clear hh9 h9
  show Z _ _ _ _ _ _ _ _ _ _ _ _ _ _ _ _ _ _ _ _ []
  refine z_aload_n F dX8_addClient_13 rfl 0 rfl ?_
  refine z_get (v := vR (g 7)) F (ci_0 hI) fX8_40 rfl dX8_addClient_14 ?_
  refine z_callV (As := []) (st := []) F (mJx4a65c_size_8abf5 l G N0 h (g 7) ((ρ 40 0).toNat) 0 (ρ 32 0) (ρ 2 0) (fun _ => none) (ci_7 hI)) cvX8_90 (ci_7 hI) (fun r9 h9 => by cases h9; rfl) rfl rfl ⟨Nat.le_of_ble_eq_true rfl, Nat.le_of_ble_eq_true rfl⟩ rfl ⟨Nat.le_of_ble_eq_true rfl, Nat.le_of_ble_eq_true rfl⟩ dX8_addClient_17 ?_
  rintro _ h9 ⟨rfl, hh9⟩
  rw [hh9]
  clear hh9 h9
  show Z _ _ _ _ _ _ _ _ _ _ _ _ _ _ _ _ _ _ _ _ [vI (ρ 2 0)]
  refine z_iconst F dX8_addClient_20 ?_
  refine z_icmp_lt (tgt := 34) F dX8_addClient_21 (by decide) (by omega) (by decide) (fun c21 => ?_) (fun c21 => ?_)
  · refine z_aload_n F dX8_addClient_34 rfl 0 rfl ?_
    refine z_get (v := vR (g 7)) F (ci_0 hI) fX8_40 rfl dX8_addClient_35 ?_
    refine z_callV (As := []) (st := []) F (mJx4a65c_size_8abf5 l G N0 h (g 7) ((ρ 40 0).toNat) 0 (ρ 32 0) (ρ 2 0) (fun _ => none) (ci_7 hI)) cvX8_90 (ci_7 hI) (fun r9 h9 => by cases h9; rfl) rfl rfl ⟨Nat.le_of_ble_eq_true rfl, Nat.le_of_ble_eq_true rfl⟩ rfl ⟨Nat.le_of_ble_eq_true rfl, Nat.le_of_ble_eq_true rfl⟩ dX8_addClient_38 ?_
    rintro _ h9 ⟨rfl, hh9⟩
    rw [hh9]
    clear hh9 h9
    show Z _ _ _ _ _ _ _ _ _ _ _ _ _ _ _ _ _ _ _ _ [vI (ρ 2 0)]
    refine z_istore (lv' := [(5, vI (ρ 2 0)), (0, vR (g 0)), (1, vI u9), (2, vI mo), (3, vI le), (4, vI ra)]) F dX8_addClient_41 (by decide) rfl ?_
    refine z_aload_n F dX8_addClient_43 rfl 1 rfl ?_
    refine z_get (v := vR (g 7)) F (ci_0 hI) fX8_40 rfl dX8_addClient_44 ?_
    refine z_new (N := 6) F nwX8_96 (fun r9 h9 => by cases h9; rfl) (Nat.le_of_ble_eq_true rfl) (Nat.le_of_ble_eq_true rfl) dX8_addClient_47 (fun ad1 fad1 => ?_)
    obtain ⟨h2, eh2, Ih2⟩ : ∃ z : Hp, hu h ad1 (eO 5 [vI 0, vI 0, vI 0, vI 0, vI 0, vI 0]) = z ∧ CI G g ρ z := ⟨_, rfl, CI.fresh hI fad1 _⟩
    rw [eh2]
    have g3 : h2 ad1 = some (eO 5 [vI 0, vI 0, vI 0, vI 0, vI 0, vI 0]) := by rw [← eh2]; exact hu_s _ _ _
    refine z_dup F dX8_addClient_50 rfl ?_
    refine z_iload F dX8_addClient_51 0 rfl ?_
    refine z_iload_n F dX8_addClient_53 rfl 2 rfl ?_
    refine z_iload_n F dX8_addClient_54 rfl 3 rfl ?_
    refine z_iload_n F dX8_addClient_55 rfl 4 rfl ?_
    refine z_iload F dX8_addClient_56 5 rfl ?_
    refine z_callI (rm := { frames := 1, cells := 0, slots := 0, locals := 60 }) (As := [vI (ρ 2 0), vI u9, vI mo, vI le, vI ra]) (st := [vR ad1, vR (g 7)]) F (mX0_init l G N0 h2 ad1 (ρ 2 0) u9 mo le ra (g3) (by omega) (by omega)) ciX8_98 rfl rfl ⟨Nat.le_of_ble_eq_true rfl, Nat.le_of_ble_eq_true rfl⟩ rfl ⟨Nat.le_of_ble_eq_true rfl, Nat.le_of_ble_eq_true rfl⟩ dX8_addClient_58 ?_
    rintro _ h4 ⟨rfl, hh9⟩
    have kh4 : h4 = hu h ad1 (eO 5 [vI (ρ 2 0), vI u9, vI mo, vI le, vI ra, vI 0]) := by rw [hh9, ← eh2, hu_hu]
    clear hh9
    have Ih4 : CI G g ρ h4 := by rw [kh4]; exact CI.fresh hI fad1 _
    have gh4 : h4 ad1 = some (eO 5 [vI (ρ 2 0), vI u9, vI mo, vI le, vI ra, vI 0]) := by rw [kh4]; exact hu_s _ _ _
    have nbh4 : ∀ r, CE g ρ r ≠ none → ad g ρ r ≠ ad1 := fun r hr => CI.nobody hI fad1 hr
    show Z _ _ _ _ _ _ _ _ _ _ _ _ _ _ _ _ _ _ _ _ [vR ad1, vR (g 7)]
    refine z_callV (As := [vR ad1]) (st := []) F (cAddC l G N0 h4 g ρ ad1 u9 mo le ra Ih4 nbh4 (gh4) (by omega) (vB.1 _ (Int.le_refl _)) (fun c q0 q1 => (vE c q0 q1).1.2) (fun j q0 q1 => (vJ j q0 (by omega)).2.1.2)) cvX8_101 (ci_7 Ih4) (fun r9 h9 => by cases h9; rfl) rfl rfl ⟨Nat.le_of_ble_eq_true rfl, Nat.le_of_ble_eq_true rfl⟩ rfl ⟨Nat.le_of_ble_eq_true rfl, Nat.le_of_ble_eq_true rfl⟩ dX8_addClient_61 ?_
    rintro _ h5 ⟨rfl, r5, s5, I5⟩
    show Z _ _ _ _ _ _ _ _ _ _ _ _ _ _ _ _ _ _ _ _ [vI 1]
    refine z_pop F dX8_addClient_64 rfl ?_
    refine z_iload F dX8_addClient_65 0 rfl ?_
    exact z_iretX (nf_i _) F hr (Nat.le_of_ble_eq_true rfl) (Nat.le_of_ble_eq_true rfl) dX8_addClient_67 (⟨by omega, by omega, r5, rI (by first | rfl | omega), s5, I5⟩)
  · exact z_throwC (names := ["java/lang/RuntimeException", "java/lang/Exception"]) F htab hl9 ⟨by decide +kernel, fitN⟩ q737 q17 hatS (List.mem_of_getElem? (i := 7) rfl) dX8_addClient_24 dX8_addClient_27 dX8_addClient_28 dX8_addClient_30 dX8_addClient_33 ⟨Nat.le_of_ble_eq_true rfl, Nat.le_of_ble_eq_true rfl, Nat.le_of_ble_eq_true rfl, Nat.le_of_ble_eq_true rfl⟩ (Nat.le_of_ble_eq_true rfl) (Nat.le_of_ble_eq_true rfl) (⟨ρ, SA.refl _, hI, by first | exact Or.inl ⟨rfl, by omega⟩ | exact Or.inr (⟨rfl, by omega, by omega⟩)⟩)
set_option maxRecDepth 100000 in
set_option maxHeartbeats 4000000 in
theorem mX8_waitingMinutes (l : Launch) (G : GG) (N0 : Nat) (h : Hp) (g : Int → Nat) (ρ : Sg) (c9 : Int) (hI : CI G g ρ h) (hV : MC ρ) (hc : 0 ≤ c9 ∧ c9 < ρ 2 0) : Ct l G N0 yX8_waitingMinutes (Cond.code yX8_waitingMinutes cX8_waitingMinutes 5 (some FieldType.int) :: LW) ({ frames := 3, cells := 0, slots := 0, locals := 140 }) [vR (g 0), vR (aC ρ c9)] h (fun r h' => r = some (vI (coS (ρ 27) (ρ 9) (ρ 25) (ρ 26) c9 (ρ 24 0).toNat)) ∧ h' = h) := by
  refine ct_of rfl rfl ?_
  intro p e s m args below meth c F hr hnm
  have F : Fx p s m args meth c RX8 cX8_waitingMinutes 5 G N0 (cA h s.heap.size) := F
  obtain ⟨v0, v1, v2, v8, v16, v24, v39, vC, vE, vJ, vK, vB, vO⟩ := id hV
  obtain ⟨Q, hQ⟩ : ∃ z, z = MQ below (cQc G N0 h s.heap.size (fun r h' => r = some (vI (coS (ρ 27) (ρ 9) (ρ 25) (ρ 26) c9 (ρ 24 0).toNat)) ∧ h' = h)) args s 0 0 (cA h s.heap.size) := ⟨_, rfl⟩
  rw [← hQ]
  show Z _ _ _ _ _ _ _ _ _ _ _ _ _ _ _ _ _ _ _ [(0, vR (g 0)), (1, vR (aC ρ c9))] []
  refine z_iconst F dX8_waitingMinutes_0 ?_
  refine z_istore_n (lv' := [(2, vI 0), (0, vR (g 0)), (1, vR (aC ρ c9))]) F dX8_waitingMinutes_1 rfl (by decide) rfl ?_
  refine z_iconst F dX8_waitingMinutes_2 ?_
  refine z_istore_n (lv' := [(3, vI 0), (2, vI 0), (0, vR (g 0)), (1, vR (aC ρ c9))]) F dX8_waitingMinutes_3 rfl (by decide) rfl ?_
  have L4 : ∀ (fuel : Nat) (s9 : Int) (i9 : Int), (0 ≤ i9 ∧ i9 ≤ ρ 24 0) → (s9 = coS (ρ 27) (ρ 9) (ρ 25) (ρ 26) c9 i9.toNat) → ρ 24 0 - i9 < (fuel : Int) → Z p l e ({ frames := 3, cells := 0, slots := 0, locals := 140 }) s m args below meth c 5 G N0 (cA h s.heap.size) Q h 0 0 4 [(3, vI i9), (2, vI s9), (0, vR (g 0)), (1, vR (aC ρ c9))] [] := by
    intro fuel
    induction fuel with
    | zero => intro s9 i9  ha hs hm; exact absurd hm (by omega)
    | succ fuel ih4 =>
      intro s9 i9  ha hs hm
      refine z_iload_n F dX8_waitingMinutes_4 rfl 0 rfl ?_
      refine z_aload_n F dX8_waitingMinutes_5 rfl 2 rfl ?_
      refine z_get (v := vR (g 11)) F (ci_0 hI) fX8_47 rfl dX8_waitingMinutes_6 ?_
      refine z_callV (As := []) (st := [vI i9]) F (mJx4a65c_size_8abf5 l G N0 h (g 11) ((ρ 40 2).toNat) 0 (ρ 32 2) (ρ 24 0) (fun _ => none) (ci_11 hI)) cvX8_90 (ci_11 hI) (fun r9 h9 => by cases h9; rfl) rfl rfl ⟨Nat.le_of_ble_eq_true rfl, Nat.le_of_ble_eq_true rfl⟩ rfl ⟨Nat.le_of_ble_eq_true rfl, Nat.le_of_ble_eq_true rfl⟩ dX8_waitingMinutes_9 ?_
      rintro _ h9 ⟨rfl, hh9⟩
      rw [hh9]
      clear hh9 h9
      show Z _ _ _ _ _ _ _ _ _ _ _ _ _ _ _ _ _ _ _ _ [vI (ρ 24 0), vI i9]
      refine z_icmp_ge (tgt := 51) F dX8_waitingMinutes_12 (by decide) (by omega) (by omega) (fun c12 => ?_) (fun c12 => ?_)
      · refine z_iload_n F dX8_waitingMinutes_51 rfl 1 rfl ?_
        rw [hQ]
        exact z_iret (nf_i _) F hr (Nat.le_of_ble_eq_true rfl) (Nat.le_of_ble_eq_true rfl) dX8_waitingMinutes_52 (⟨rI (by rw [hs, show i9 = ρ 24 0 by omega]), rfl⟩)
      · have K9 := vK i9 ha.1 (by omega)
        refine z_aload_n F dX8_waitingMinutes_15 rfl 2 rfl ?_
        refine z_get (v := vR (g 11)) F (ci_0 hI) fX8_47 rfl dX8_waitingMinutes_16 ?_
        refine z_iload_n F dX8_waitingMinutes_19 rfl 0 rfl ?_
        refine z_callV (As := [vI i9]) (st := []) F (cGet2 l G N0 h g ρ i9 hI (show 0 ≤ i9 ∧ i9 < ρ 24 0 from by omega)) cvX8_373 (ci_11 hI) (fun r9 h9 => by cases h9; rfl) rfl rfl ⟨Nat.le_of_ble_eq_true rfl, Nat.le_of_ble_eq_true rfl⟩ rfl ⟨Nat.le_of_ble_eq_true rfl, Nat.le_of_ble_eq_true rfl⟩ dX8_waitingMinutes_20 ?_
        rintro _ h9 ⟨rfl, hh9⟩
        rw [hh9]
        clear hh9 h9
        show Z _ _ _ _ _ _ _ _ _ _ _ _ _ _ _ _ _ _ _ _ [vR (aK ρ i9)]
        refine z_cast F (ci_k hI (show 0 ≤ i9 ∧ i9 < ρ 24 0 ∧ i9 < 100 from by omega)) q695 (fun r9 h9 => by cases h9; rfl) dX8_waitingMinutes_23 ?_
        refine z_astore (lv' := [(4, vR (aK ρ i9)), (3, vI i9), (2, vI s9), (0, vR (g 0)), (1, vR (aC ρ c9))]) F dX8_waitingMinutes_26 (by decide) rfl ?_
        refine z_aload F dX8_waitingMinutes_28 0 rfl ?_
        refine z_aload_n F dX8_waitingMinutes_30 rfl 4 rfl ?_
        refine z_callV (As := [vR (aC ρ c9)]) (st := []) F (mX1_waitsFor l G N0 h g ρ i9 c9 hI hV (by omega) (by omega)) cvX8_418 (ci_k hI (show 0 ≤ i9 ∧ i9 < ρ 24 0 ∧ i9 < 100 from by omega)) (fun r9 h9 => by cases h9; rfl) rfl rfl ⟨Nat.le_of_ble_eq_true rfl, Nat.le_of_ble_eq_true rfl⟩ rfl ⟨Nat.le_of_ble_eq_true rfl, Nat.le_of_ble_eq_true rfl⟩ dX8_waitingMinutes_31 ?_
        rintro _ h9 ⟨rfl, hh9⟩
        rw [hh9]
        clear hh9 h9
        show Z _ _ _ _ _ _ _ _ _ _ _ _ _ _ _ _ _ _ _ _ [vI (if ρ 27 i9 = 0 ∧ ρ 9 (ρ 25 i9) = c9 then 1 else 0)]
        generalize ex1 : (if ρ 27 i9 = 0 ∧ ρ 9 (ρ 25 i9) = c9 then (1 : Int) else 0) = x1
        show Z _ _ _ _ _ _ _ _ _ _ _ _ _ _ _ _ _ _ _ _ [vI x1]
        refine z_if_eq (tgt := 45) F dX8_waitingMinutes_34 (by decide) (by omega) (fun c34 => ?_) (fun c34 => ?_)
        · refine z_iinc (lv' := [(3, vI (i9 + 1)), (4, vR (aK ρ i9)), (2, vI s9), (0, vR (g 0)), (1, vR (aC ρ c9))]) F dX8_waitingMinutes_45 1 rfl (by decide) rfl ?_
          refine z_goto (tgt := 4) F dX8_waitingMinutes_48 (by decide) ?_
          refine z_pick (lv' := [(3, vI (i9 + 1)), (2, vI s9), (0, vR (g 0)), (1, vR (aC ρ c9))]) [0, 2, 3, 4] rfl ?_
          exact ih4 s9 (i9 + 1)  (by omega) (by rw [coS_s _ _ _ _ _ ha.1]; omega) (by omega)
        · refine z_iload_n F dX8_waitingMinutes_37 rfl 2 rfl ?_
          refine z_aload F dX8_waitingMinutes_38 0 rfl ?_
          refine z_get (v := vI (ρ 26 i9)) F (ci_k hI (show 0 ≤ i9 ∧ i9 < ρ 24 0 ∧ i9 < 100 from by omega)) fX8_421 rfl dX8_waitingMinutes_40 ?_
          refine z_iadd F dX8_waitingMinutes_43 ?_
          refine z_istore_n (lv' := [(2, vI (s9 + (ρ 26 i9))), (4, vR (aK ρ i9)), (3, vI i9), (0, vR (g 0)), (1, vR (aC ρ c9))]) F dX8_waitingMinutes_44 rfl (by decide) rfl ?_
          refine z_iinc (lv' := [(3, vI (i9 + 1)), (2, vI (s9 + (ρ 26 i9))), (4, vR (aK ρ i9)), (0, vR (g 0)), (1, vR (aC ρ c9))]) F dX8_waitingMinutes_45 2 rfl (by decide) rfl ?_
          refine z_goto (tgt := 4) F dX8_waitingMinutes_48 (by decide) ?_
          refine z_pick (lv' := [(3, vI (i9 + 1)), (2, vI (s9 + (ρ 26 i9))), (0, vR (g 0)), (1, vR (aC ρ c9))]) [0, 1, 3, 4] rfl ?_
          exact ih4 (s9 + (ρ 26 i9)) (i9 + 1)  (by omega) (by rw [coS_s _ _ _ _ _ ha.1]; omega) (by omega)
  exact L4 ((ρ 24 0 - 0 : Int).toNat + 1) 0 0  (by omega) (rfl) (by omega)
set_option maxRecDepth 100000 in
set_option maxHeartbeats 4000000 in
theorem mX8_hasWaitingCorrection (l : Launch) (G : GG) (N0 : Nat) (h : Hp) (g : Int → Nat) (ρ : Sg) (c9 : Int) (hI : CI G g ρ h) (hV : MC ρ) (hc : 0 ≤ c9 ∧ c9 < ρ 2 0) : Ct l G N0 yX8_hasWaitingCorrection (Cond.code yX8_hasWaitingCorrection cX8_hasWaitingCorrection 3 (some FieldType.boolean) :: LW) ({ frames := 3, cells := 0, slots := 0, locals := 140 }) [vR (g 0), vR (aC ρ c9)] h (fun r h' => r = some (vI (hcF ρ c9 (ρ 24 0).toNat)) ∧ h' = h) := by
  refine ct_of rfl rfl ?_
  intro p e s m args below meth c F hr hnm
  have F : Fx p s m args meth c RX8 cX8_hasWaitingCorrection 3 G N0 (cA h s.heap.size) := F
  obtain ⟨v0, v1, v2, v8, v16, v24, v39, vC, vE, vJ, vK, vB, vO⟩ := id hV
  obtain ⟨Q, hQ⟩ : ∃ z, z = MQ below (cQc G N0 h s.heap.size (fun r h' => r = some (vI (hcF ρ c9 (ρ 24 0).toNat)) ∧ h' = h)) args s 0 0 (cA h s.heap.size) := ⟨_, rfl⟩
  rw [← hQ]
  show Z _ _ _ _ _ _ _ _ _ _ _ _ _ _ _ _ _ _ _ [(0, vR (g 0)), (1, vR (aC ρ c9))] []
  refine z_iconst F dX8_hasWaitingCorrection_0 ?_
  refine z_istore_n (lv' := [(2, vI 0), (0, vR (g 0)), (1, vR (aC ρ c9))]) F dX8_hasWaitingCorrection_1 rfl (by decide) rfl ?_
  have L2 : ∀ (fuel : Nat) (i9 : Int), (0 ≤ i9 ∧ i9 ≤ ρ 24 0) → (hcF ρ c9 i9.toNat = 0) → ρ 24 0 - i9 < (fuel : Int) → Z p l e ({ frames := 3, cells := 0, slots := 0, locals := 140 }) s m args below meth c 3 G N0 (cA h s.heap.size) Q h 0 0 2 [(2, vI i9), (0, vR (g 0)), (1, vR (aC ρ c9))] [] := by
    intro fuel
    induction fuel with
    | zero => intro i9  ha hn hm; exact absurd hm (by omega)
    | succ fuel ih2 =>
      intro i9  ha hn hm
      refine z_iload_n F dX8_hasWaitingCorrection_2 rfl 0 rfl ?_
      refine z_aload_n F dX8_hasWaitingCorrection_3 rfl 1 rfl ?_
      refine z_get (v := vR (g 11)) F (ci_0 hI) fX8_47 rfl dX8_hasWaitingCorrection_4 ?_
      refine z_callV (As := []) (st := [vI i9]) F (mJx4a65c_size_8abf5 l G N0 h (g 11) ((ρ 40 2).toNat) 0 (ρ 32 2) (ρ 24 0) (fun _ => none) (ci_11 hI)) cvX8_90 (ci_11 hI) (fun r9 h9 => by cases h9; rfl) rfl rfl ⟨Nat.le_of_ble_eq_true rfl, Nat.le_of_ble_eq_true rfl⟩ rfl ⟨Nat.le_of_ble_eq_true rfl, Nat.le_of_ble_eq_true rfl⟩ dX8_hasWaitingCorrection_7 ?_
      rintro _ h9 ⟨rfl, hh9⟩
      rw [hh9]
      clear hh9 h9
      show Z _ _ _ _ _ _ _ _ _ _ _ _ _ _ _ _ _ _ _ _ [vI (ρ 24 0), vI i9]
      refine z_icmp_ge (tgt := 39) F dX8_hasWaitingCorrection_10 (by decide) (by omega) (by omega) (fun c10 => ?_) (fun c10 => ?_)
      · refine z_iconst F dX8_hasWaitingCorrection_39 ?_
        rw [hQ]
        exact z_iret (nf_z (by omega)) F hr (Nat.le_of_ble_eq_true rfl) (Nat.le_of_ble_eq_true rfl) dX8_hasWaitingCorrection_40 (⟨rI (by rw [show ρ 24 0 = i9 by omega, hn]), rfl⟩)
      · have K9 := vK i9 ha.1 (by omega)
        refine z_aload_n F dX8_hasWaitingCorrection_13 rfl 1 rfl ?_
        refine z_get (v := vR (g 11)) F (ci_0 hI) fX8_47 rfl dX8_hasWaitingCorrection_14 ?_
        refine z_iload_n F dX8_hasWaitingCorrection_17 rfl 0 rfl ?_
        refine z_callV (As := [vI i9]) (st := []) F (cGet2 l G N0 h g ρ i9 hI (show 0 ≤ i9 ∧ i9 < ρ 24 0 from by omega)) cvX8_373 (ci_11 hI) (fun r9 h9 => by cases h9; rfl) rfl rfl ⟨Nat.le_of_ble_eq_true rfl, Nat.le_of_ble_eq_true rfl⟩ rfl ⟨Nat.le_of_ble_eq_true rfl, Nat.le_of_ble_eq_true rfl⟩ dX8_hasWaitingCorrection_18 ?_
        rintro _ h9 ⟨rfl, hh9⟩
        rw [hh9]
        clear hh9 h9
        show Z _ _ _ _ _ _ _ _ _ _ _ _ _ _ _ _ _ _ _ _ [vR (aK ρ i9)]
        refine z_cast F (ci_k hI (show 0 ≤ i9 ∧ i9 < ρ 24 0 ∧ i9 < 100 from by omega)) q695 (fun r9 h9 => by cases h9; rfl) dX8_hasWaitingCorrection_21 ?_
        refine z_aload_n F dX8_hasWaitingCorrection_24 rfl 2 rfl ?_
        refine z_callV (As := [vR (aC ρ c9)]) (st := []) F (mX1_waitsFor l G N0 h g ρ i9 c9 hI hV (by omega) (by omega)) cvX8_418 (ci_k hI (show 0 ≤ i9 ∧ i9 < ρ 24 0 ∧ i9 < 100 from by omega)) (fun r9 h9 => by cases h9; rfl) rfl rfl ⟨Nat.le_of_ble_eq_true rfl, Nat.le_of_ble_eq_true rfl⟩ rfl ⟨Nat.le_of_ble_eq_true rfl, Nat.le_of_ble_eq_true rfl⟩ dX8_hasWaitingCorrection_25 ?_
        rintro _ h9 ⟨rfl, hh9⟩
        rw [hh9]
        clear hh9 h9
        show Z _ _ _ _ _ _ _ _ _ _ _ _ _ _ _ _ _ _ _ _ [vI (if ρ 27 i9 = 0 ∧ ρ 9 (ρ 25 i9) = c9 then 1 else 0)]
        generalize ex1 : (if ρ 27 i9 = 0 ∧ ρ 9 (ρ 25 i9) = c9 then (1 : Int) else 0) = x1
        show Z _ _ _ _ _ _ _ _ _ _ _ _ _ _ _ _ _ _ _ _ [vI x1]
        refine z_if_eq (tgt := 33) F dX8_hasWaitingCorrection_28 (by decide) (by omega) (fun c28 => ?_) (fun c28 => ?_)
        · refine z_iinc (lv' := [(2, vI (i9 + 1)), (0, vR (g 0)), (1, vR (aC ρ c9))]) F dX8_hasWaitingCorrection_33 0 rfl (by decide) rfl ?_
          refine z_goto (tgt := 2) F dX8_hasWaitingCorrection_36 (by decide) ?_
          exact ih2 (i9 + 1)  (by omega) (by rw [hcF_s ρ c9 ha.1, if_neg (by omega)]; exact hn) (by omega)
        · refine z_iconst F dX8_hasWaitingCorrection_31 ?_
          rw [hQ]
          exact z_iret (nf_z (by omega)) F hr (Nat.le_of_ble_eq_true rfl) (Nat.le_of_ble_eq_true rfl) dX8_hasWaitingCorrection_32 (⟨rI (by have z9 : hcF ρ c9 (i9 + 1).toNat = 1 := (by rw [hcF_s ρ c9 ha.1, if_pos (by omega)]); exact (hcF_mono ρ c9 _ _ (by omega) z9).symm), rfl⟩)
  exact L2 ((ρ 24 0 - 0 : Int).toNat + 1) 0  (by omega) (rfl) (by omega)
theorem lnS_c {ρ ρ' : Sg} (h : ρ' 20 = ρ 20) : lnS ρ' = lnS ρ := by funext i n; exact lnS_f h i n
theorem amS_c {ρ ρ' : Sg} (h : ρ' 22 = ρ 22) : amS ρ' = amS ρ := by funext i n; exact amS_f h i n
theorem cst_c {ρ ρ' : Sg} (h : ρ' 12 = ρ 12) : cst ρ' = cst ρ := by funext v n; exact cst_f h v n
/-- the bounds behind a new correction -/
theorem MC_K {ρ : Sg} (hV : MC ρ) {e m : Int} (he : 0 ≤ e ∧ e < ρ 8 0) (hf : ρ 12 e = 102) (hm : -600 ≤ m ∧ m ≤ 600) (h24 : ρ 24 0 < 16) : MC (mkK ρ e m) := by
  obtain ⟨v0, v1, v2, v8, v16, v24, v39, vC, vE, vJ, vK, vB, vO⟩ := hV
  have l1 : lnS (mkK ρ e m) = lnS ρ := lnS_c rfl
  have l2 : amS (mkK ρ e m) = amS ρ := amS_c rfl
  have l3 : cst (mkK ρ e m) = cst ρ := cst_c rfl
  refine ⟨v0, v1, v2, v8, v16, (by show 0 ≤ ρ 24 0 + 1 ∧ ρ 24 0 + 1 ≤ 16; omega), (by rw [l3]; exact v39), vC, vE, (fun i i0 i1 => ?_), (fun c c0 c1 => ?_), ⟨vB.1, vB.2.1, (fun c c0 => vB.2.2.1 c (by have c0 : ρ 24 0 + 1 ≤ c := c0; omega)), vB.2.2.2⟩, vO⟩
  · rw [l1, l2]
    exact vJ i i0 i1
  · have c1 : c < ρ 24 0 + 1 := c1
    show (ρ 27 c = 0 ∨ ρ 27 c = 1) ∧ (0 ≤ su ρ 25 (ρ 24 0) e 25 c ∧ su ρ 25 (ρ 24 0) e 25 c < ρ 8 0) ∧ ρ 12 (su ρ 25 (ρ 24 0) e 25 c) = 102 ∧ (-600 ≤ su ρ 26 (ρ 24 0) m 26 c ∧ su ρ 26 (ρ 24 0) m 26 c ≤ 600)
    by_cases q : c = ρ 24 0
    · subst q
      rw [su_e, su_e]
      exact ⟨Or.inl (vB.2.2.1 _ (Int.le_refl _)), he, hf, hm⟩
    · rw [su_i q, su_i q]
      exact vK c c0 (by omega)
set_option maxRecDepth 100000 in
set_option maxHeartbeats 4000000 in
theorem mX8_correct (l : Launch) (G : GG) (N0 : Nat) (h : Hp) (hl9 : l.stackTraces = false) (g : Int → Nat) (ρ : Sg) (e9 m9 : Int) (hI : CI G g ρ h) (hV : MC ρ) (r_e9 : -2147483648 ≤ e9 ∧ e9 < 2147483648) (r_m9 : -2147483648 ≤ m9 ∧ m9 < 2147483648) : CtX l G N0 yX8_correct (Cond.code yX8_correct cX8_correct 4 (some FieldType.int) :: LW) ({ frames := 9, cells := 6, slots := 140, locals := 460 }) [vR (g 0), vI e9, vI m9] h (fun r h' => ¬ (¬ (0 ≤ e9 ∧ e9 < ρ 8 0)) ∧ ¬ (¬ (-600 ≤ m9 ∧ m9 ≤ 600) ∨ m9 = 0) ∧ ¬ (ρ 12 e9 ≠ 102 ∨ ρ 24 0 = 16) ∧ ∃ ρ', r = some (vI (coS (ρ 27) (ρ 9) (fun j => if j = ρ 24 0 then e9 else ρ 25 j) (fun j => if j = ρ 24 0 then m9 else ρ 26 j) (ρ 9 e9) (ρ 24 0 + 1).toNat)) ∧ SA (mkK ρ e9 m9) ρ' ∧ CI G g ρ' h') (fun E h' => ∃ ρ', SA ρ ρ' ∧ CI G g ρ' h' ∧ ((E = "java/lang/IndexOutOfBoundsException" ∧ (¬ (0 ≤ e9 ∧ e9 < ρ 8 0))) ∨ (E = "java/lang/IllegalArgumentException" ∧ ¬ (¬ (0 ≤ e9 ∧ e9 < ρ 8 0)) ∧ (¬ (-600 ≤ m9 ∧ m9 ≤ 600) ∨ m9 = 0)) ∨ (E = "java/lang/IllegalStateException" ∧ ¬ (¬ (0 ≤ e9 ∧ e9 < ρ 8 0)) ∧ ¬ (¬ (-600 ≤ m9 ∧ m9 ≤ 600) ∨ m9 = 0) ∧ (ρ 12 e9 ≠ 102 ∨ ρ 24 0 = 16)))) := by
  refine ctX_of rfl rfl ?_
  intro p e s m args below meth c F hr htab
  have F : Fx p s m args meth c RX8 cX8_correct 4 G N0 (cA h s.heap.size) := F
  obtain ⟨v0, v1, v2, v8, v16, v24, v39, vC, vE, vJ, vK, vB, vO⟩ := id hV
  have E9 := vE e9
  show Z _ _ _ _ _ _ _ _ _ _ _ _ _ _ _ _ _ _ _ [(0, vR (g 0)), (1, vI e9), (2, vI m9)] []
  refine z_aload_n F dX8_correct_0 rfl 0 rfl ?_
  refine z_iload_n F dX8_correct_1 rfl 1 rfl ?_
  refine z_xcallV (As := [vI e9]) (st := []) F htab (mX8_entryAt l G N0 h hl9 g ρ e9 hI hV (by omega)) cvX8_138 (ci_0 hI) (fun r9 h9 => by cases h9; rfl) rfl rfl ⟨Nat.le_of_ble_eq_true rfl, Nat.le_of_ble_eq_true rfl⟩ rfl ⟨Nat.le_of_ble_eq_true rfl, Nat.le_of_ble_eq_true rfl⟩ dX8_correct_2 (fun E h9 hx => by obtain ⟨e1, rfl⟩ := hx; refine ⟨ρ, SA.refl _, hI, ?_⟩; obtain ⟨rfl, e2⟩ := e1; first | exact Or.inl ⟨rfl, by omega⟩ | exact Or.inr (Or.inl ⟨rfl, by omega, by omega⟩) | exact Or.inr (Or.inr (⟨rfl, by omega, by omega, by omega⟩))) (Nat.le_of_ble_eq_true rfl) (Nat.le_of_ble_eq_true rfl) ?_
  rintro _ h9 ⟨f2_0, rfl, hh9⟩
  rw [hh9]
  clear hh9 h9
  show Z _ _ _ _ _ _ _ _ _ _ _ _ _ _ _ _ _ _ _ _ [vR (aE ρ e9)]
  refine z_astore_n (lv' := [(3, vR (aE ρ e9)), (0, vR (g 0)), (1, vI e9), (2, vI m9)]) F dX8_correct_5 rfl (by decide) rfl ?_
  refine z_iload_n F dX8_correct_6 rfl 3 rfl ?_
  refine z_sipush F dX8_correct_7 (by decide) ?_
  refine z_icmp_lt (tgt := 24) F dX8_correct_10 (by decide) (by omega) (by decide) (fun c10 => ?_) (fun c10 => ?_)
  · exact z_throwCW (names := ["java/lang/RuntimeException", "java/lang/Exception"]) F htab hl9 ⟨by decide +kernel, fitN⟩ q734 q16 hatA (List.mem_of_getElem? (i := 26) rfl) dX8_correct_24 dX8_correct_27 dX8_correct_28 dX8_correct_31 dX8_correct_34 ⟨Nat.le_of_ble_eq_true rfl, Nat.le_of_ble_eq_true rfl, Nat.le_of_ble_eq_true rfl, Nat.le_of_ble_eq_true rfl⟩ (Nat.le_of_ble_eq_true rfl) (Nat.le_of_ble_eq_true rfl) (⟨ρ, SA.refl _, hI, by first | exact Or.inl ⟨rfl, by omega⟩ | exact Or.inr (Or.inl ⟨rfl, by omega, by omega⟩) | exact Or.inr (Or.inr (⟨rfl, by omega, by omega, by omega⟩))⟩)
  · refine z_iload_n F dX8_correct_13 rfl 3 rfl ?_
    refine z_sipush F dX8_correct_14 (by decide) ?_
    refine z_icmp_gt (tgt := 24) F dX8_correct_17 (by decide) (by omega) (by decide) (fun c17 => ?_) (fun c17 => ?_)
    · exact z_throwCW (names := ["java/lang/RuntimeException", "java/lang/Exception"]) F htab hl9 ⟨by decide +kernel, fitN⟩ q734 q16 hatA (List.mem_of_getElem? (i := 26) rfl) dX8_correct_24 dX8_correct_27 dX8_correct_28 dX8_correct_31 dX8_correct_34 ⟨Nat.le_of_ble_eq_true rfl, Nat.le_of_ble_eq_true rfl, Nat.le_of_ble_eq_true rfl, Nat.le_of_ble_eq_true rfl⟩ (Nat.le_of_ble_eq_true rfl) (Nat.le_of_ble_eq_true rfl) (⟨ρ, SA.refl _, hI, by first | exact Or.inl ⟨rfl, by omega⟩ | exact Or.inr (Or.inl ⟨rfl, by omega, by omega⟩) | exact Or.inr (Or.inr (⟨rfl, by omega, by omega, by omega⟩))⟩)
    · refine z_iload_n F dX8_correct_20 rfl 3 rfl ?_
      refine z_if_ne (tgt := 35) F dX8_correct_21 (by decide) (by omega) (fun c21 => ?_) (fun c21 => ?_)
      · refine z_aload_n F dX8_correct_35 rfl 0 rfl ?_
        refine z_get (v := vI (ρ 12 e9)) F (ci_e hI (show 0 ≤ e9 ∧ e9 < ρ 8 0 ∧ e9 < 100 from by omega)) fX8_142 rfl dX8_correct_36 ?_
        refine z_bipush F dX8_correct_39 (by decide) ?_
        refine z_icmp_eq (tgt := 55) F dX8_correct_41 (by decide) (by omega) (by decide) (fun c41 => ?_) (fun c41 => ?_)
        · refine z_aload_n F dX8_correct_55 rfl 1 rfl ?_
          refine z_get (v := vR (g 11)) F (ci_0 hI) fX8_47 rfl dX8_correct_56 ?_
          refine z_callV (As := []) (st := []) F (mJx4a65c_size_8abf5 l G N0 h (g 11) ((ρ 40 2).toNat) 0 (ρ 32 2) (ρ 24 0) (fun _ => none) (ci_11 hI)) cvX8_90 (ci_11 hI) (fun r9 h9 => by cases h9; rfl) rfl rfl ⟨Nat.le_of_ble_eq_true rfl, Nat.le_of_ble_eq_true rfl⟩ rfl ⟨Nat.le_of_ble_eq_true rfl, Nat.le_of_ble_eq_true rfl⟩ dX8_correct_59 ?_
          rintro _ h9 ⟨rfl, hh9⟩
          rw [hh9]
          clear hh9 h9
          show Z _ _ _ _ _ _ _ _ _ _ _ _ _ _ _ _ _ _ _ _ [vI (ρ 24 0)]
          refine z_bipush F dX8_correct_62 (by decide) ?_
          refine z_icmp_lt (tgt := 78) F dX8_correct_64 (by decide) (by omega) (by decide) (fun c64 => ?_) (fun c64 => ?_)
          · refine z_aload_n F dX8_correct_78 rfl 1 rfl ?_
            refine z_get (v := vR (g 11)) F (ci_0 hI) fX8_47 rfl dX8_correct_79 ?_
            refine z_new (N := 3) F nwX8_321 (fun r9 h9 => by cases h9; rfl) (Nat.le_of_ble_eq_true rfl) (Nat.le_of_ble_eq_true rfl) dX8_correct_82 (fun ad1 fad1 => ?_)
            obtain ⟨h2, eh2, Ih2⟩ : ∃ z : Hp, hu h ad1 (eO 6 [vN, vI 0, vI 0]) = z ∧ CI G g ρ z := ⟨_, rfl, CI.fresh hI fad1 _⟩
            rw [eh2]
            have g3 : h2 ad1 = some (eO 6 [vN, vI 0, vI 0]) := by rw [← eh2]; exact hu_s _ _ _
            refine z_dup F dX8_correct_85 rfl ?_
            refine z_aload_n F dX8_correct_86 rfl 0 rfl ?_
            refine z_iload_n F dX8_correct_87 rfl 3 rfl ?_
            refine z_callI (rm := { frames := 1, cells := 0, slots := 0, locals := 60 }) (As := [vR (aE ρ e9), vI m9]) (st := [vR ad1, vR (g 11)]) F (mX1_init l G N0 h2 ad1 (aE ρ e9) m9 (g3)) ciX8_323 rfl rfl ⟨Nat.le_of_ble_eq_true rfl, Nat.le_of_ble_eq_true rfl⟩ rfl ⟨Nat.le_of_ble_eq_true rfl, Nat.le_of_ble_eq_true rfl⟩ dX8_correct_88 ?_
            rintro _ h4 ⟨rfl, hh9⟩
            have kh4 : h4 = hu h ad1 (eO 6 [vR (aE ρ e9), vI m9, vI 0]) := by rw [hh9, ← eh2, hu_hu]
            clear hh9
            have Ih4 : CI G g ρ h4 := by rw [kh4]; exact CI.fresh hI fad1 _
            have gh4 : h4 ad1 = some (eO 6 [vR (aE ρ e9), vI m9, vI 0]) := by rw [kh4]; exact hu_s _ _ _
            have nbh4 : ∀ r, CE g ρ r ≠ none → ad g ρ r ≠ ad1 := fun r hr => CI.nobody hI fad1 hr
            show Z _ _ _ _ _ _ _ _ _ _ _ _ _ _ _ _ _ _ _ _ [vR ad1, vR (g 11)]
            refine z_callV (As := [vR ad1]) (st := []) F (cAddK2 l G N0 h4 g ρ ad1 e9 m9 Ih4 nbh4 (gh4) (by omega) (vB.2.2.1 _ (Int.le_refl _))) cvX8_101 (ci_11 Ih4) (fun r9 h9 => by cases h9; rfl) rfl rfl ⟨Nat.le_of_ble_eq_true rfl, Nat.le_of_ble_eq_true rfl⟩ rfl ⟨Nat.le_of_ble_eq_true rfl, Nat.le_of_ble_eq_true rfl⟩ dX8_correct_91 ?_
            rintro _ h5 ⟨rfl, r5, s5, I5⟩
            have Vr5 : MC r5 := MC.sa (fun k hk => s5 k (by cases e : scrB k with | true => rw [e] at hk; cases hk | false => rfl) (fun z => by rw [z] at hk; cases hk)) (MC_K hV (by omega) (by omega) (by omega) (by omega))
            have ar5 : aE ρ e9 = aE r5 e9 := by show (ρ 44 e9).toNat = (r5 44 e9).toNat; rw [s5 44 rfl (by decide)]; rfl
            have t2r5 : r5 2 0 = ρ 2 0 := congrFun (s5 2 rfl (by decide)) 0
            have t8r5 : r5 8 0 = ρ 8 0 := congrFun (s5 8 rfl (by decide)) 0
            have t9r5 : r5 9 e9 = ρ 9 e9 := congrFun (s5 9 rfl (by decide)) e9
            rw [ar5]
            show Z _ _ _ _ _ _ _ _ _ _ _ _ _ _ _ _ _ _ _ _ [vI 1]
            refine z_pop F dX8_correct_94 rfl ?_
            refine z_aload_n F dX8_correct_95 rfl 1 rfl ?_
            refine z_aload_n F dX8_correct_96 rfl 0 rfl ?_
            refine z_get (v := vR (aC r5 (r5 9 e9))) F (ci_e I5 (show 0 ≤ e9 ∧ e9 < r5 8 0 ∧ e9 < 100 from by omega)) fX8_196 rfl dX8_correct_97 ?_
            refine z_callV (As := [vR (aC r5 (r5 9 e9))]) (st := []) F (mX8_waitingMinutes l G N0 h5 g r5 (r5 9 e9) I5 Vr5 (by omega)) cvX8_326 (ci_0 I5) (fun r9 h9 => by cases h9; rfl) rfl rfl ⟨Nat.le_of_ble_eq_true rfl, Nat.le_of_ble_eq_true rfl⟩ rfl ⟨Nat.le_of_ble_eq_true rfl, Nat.le_of_ble_eq_true rfl⟩ dX8_correct_100 ?_
            rintro _ h9 ⟨rfl, hh9⟩
            rw [hh9]
            clear hh9 h9
            show Z _ _ _ _ _ _ _ _ _ _ _ _ _ _ _ _ _ _ _ _ [vI (coS (r5 27) (r5 9) (r5 25) (r5 26) (r5 9 e9) (r5 24 0).toNat)]
            exact z_iretX (nf_i _) F hr (Nat.le_of_ble_eq_true rfl) (Nat.le_of_ble_eq_true rfl) dX8_correct_103 (⟨by omega, by omega, by omega, r5, rI (by rw [s5 27 rfl (by decide), s5 9 rfl (by decide), s5 25 rfl (by decide), s5 26 rfl (by decide), s5 24 rfl (by decide)]; rfl), (fun k hk => s5 k (by cases e : scrB k with | true => rw [e] at hk; cases hk | false => rfl) (fun z => by rw [z] at hk; cases hk)), I5⟩)
          · exact z_throwCW (names := ["java/lang/RuntimeException", "java/lang/Exception"]) F htab hl9 ⟨by decide +kernel, fitN⟩ q737 q17 hatS (List.mem_of_getElem? (i := 28) rfl) dX8_correct_67 dX8_correct_70 dX8_correct_71 dX8_correct_74 dX8_correct_77 ⟨Nat.le_of_ble_eq_true rfl, Nat.le_of_ble_eq_true rfl, Nat.le_of_ble_eq_true rfl, Nat.le_of_ble_eq_true rfl⟩ (Nat.le_of_ble_eq_true rfl) (Nat.le_of_ble_eq_true rfl) (⟨ρ, SA.refl _, hI, by first | exact Or.inl ⟨rfl, by omega⟩ | exact Or.inr (Or.inl ⟨rfl, by omega, by omega⟩) | exact Or.inr (Or.inr (⟨rfl, by omega, by omega, by omega⟩))⟩)
        · exact z_throwCW (names := ["java/lang/RuntimeException", "java/lang/Exception"]) F htab hl9 ⟨by decide +kernel, fitN⟩ q737 q17 hatS (List.mem_of_getElem? (i := 27) rfl) dX8_correct_44 dX8_correct_47 dX8_correct_48 dX8_correct_51 dX8_correct_54 ⟨Nat.le_of_ble_eq_true rfl, Nat.le_of_ble_eq_true rfl, Nat.le_of_ble_eq_true rfl, Nat.le_of_ble_eq_true rfl⟩ (Nat.le_of_ble_eq_true rfl) (Nat.le_of_ble_eq_true rfl) (⟨ρ, SA.refl _, hI, by first | exact Or.inl ⟨rfl, by omega⟩ | exact Or.inr (Or.inl ⟨rfl, by omega, by omega⟩) | exact Or.inr (Or.inr (⟨rfl, by omega, by omega, by omega⟩))⟩)
      · exact z_throwCW (names := ["java/lang/RuntimeException", "java/lang/Exception"]) F htab hl9 ⟨by decide +kernel, fitN⟩ q734 q16 hatA (List.mem_of_getElem? (i := 26) rfl) dX8_correct_24 dX8_correct_27 dX8_correct_28 dX8_correct_31 dX8_correct_34 ⟨Nat.le_of_ble_eq_true rfl, Nat.le_of_ble_eq_true rfl, Nat.le_of_ble_eq_true rfl, Nat.le_of_ble_eq_true rfl⟩ (Nat.le_of_ble_eq_true rfl) (Nat.le_of_ble_eq_true rfl) (⟨ρ, SA.refl _, hI, by first | exact Or.inl ⟨rfl, by omega⟩ | exact Or.inr (Or.inl ⟨rfl, by omega, by omega⟩) | exact Or.inr (Or.inr (⟨rfl, by omega, by omega, by omega⟩))⟩)
