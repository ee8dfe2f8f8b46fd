set_option maxRecDepth 100000 in
set_option maxHeartbeats 4000000 in
theorem mX9_covers (l : Launch) (G : GG) (N0 : Nat) (h : Hp) (g : Nat → Nat) (σ : Sg) (e9 m9 : Int) (hI : MI g σ h) (hR : RG σ) (he : 0 ≤ e9 ∧ e9 < 24) (r_m9 : -2147483648 ≤ m9 ∧ m9 < 2147483648) : Ct l G N0 yX9_covers (Cond.code yX9_covers cX9_covers 3 (some FieldType.boolean) :: LW) ({ frames := 1, cells := 0, slots := 0, locals := 40 }) [vR (g 0), vI e9, vI m9] h (fun r h' => r = some (vI (cvI σ e9 m9)) ∧ h' = h) := by
  refine ct_of rfl rfl ?_
  intro p e s m args below meth c F hr hnm
  have F : Fx p s m args meth c RX9 cX9_covers 3 G N0 (cA h s.heap.size) := F
  have ren : -2147483648 ≤ enA σ e9 ∧ enA σ e9 < 2147483648 := by unfold enA; have a := hR 0 0; have b := hR 11 e9; split <;> omega
  show Z _ _ _ _ _ _ _ _ _ _ _ _ _ _ _ _ _ _ _ [(0, vR (g 0)), (1, vI e9), (2, vI m9)] []
  refine z_aload_n F dX9_covers_0 rfl 0 rfl ?_
  refine z_get (v := vR (g 12)) F (mI hI 0 rfl) fX9_39 rfl dX9_covers_1 ?_
  refine z_iload_n F dX9_covers_4 rfl 1 rfl ?_
  refine z_caload (N := 24) (f := fun j => σ 12 j) F (mI hI 12 rfl) (by omega) (by omega) (by omega) dX9_covers_5 ?_
  refine z_bipush F dX9_covers_6 (by decide) ?_
  refine z_icmp_eq (tgt := 34) F dX9_covers_8 (by decide) (hR 12 e9) (by decide) (fun c8 => ?_) (fun c8 => ?_)
  · refine z_iconst F dX9_covers_34 ?_
    exact z_iret (nf_z (by omega)) F hr (Nat.le_of_ble_eq_true rfl) (Nat.le_of_ble_eq_true rfl) dX9_covers_35 (⟨rI (by unfold cvI; split <;> omega), rfl⟩)
  · refine z_aload_n F dX9_covers_11 rfl 0 rfl ?_
    refine z_get (v := vR (g 10)) F (mI hI 0 rfl) fX9_33 rfl dX9_covers_12 ?_
    refine z_iload_n F dX9_covers_15 rfl 1 rfl ?_
    refine z_iaload (N := 24) (f := fun j => σ 10 j) F (mI hI 10 rfl) (by omega) (by omega) (by omega) dX9_covers_16 ?_
    refine z_iload_n F dX9_covers_17 rfl 2 rfl ?_
    refine z_icmp_gt (tgt := 34) F dX9_covers_18 (by decide) (hR 10 e9) (by omega) (fun c18 => ?_) (fun c18 => ?_)
    · refine z_iconst F dX9_covers_34 ?_
      exact z_iret (nf_z (by omega)) F hr (Nat.le_of_ble_eq_true rfl) (Nat.le_of_ble_eq_true rfl) dX9_covers_35 (⟨rI (by unfold cvI; split <;> omega), rfl⟩)
    · refine z_iload_n F dX9_covers_21 rfl 2 rfl ?_
      refine z_aload_n F dX9_covers_22 rfl 0 rfl ?_
      refine z_iload_n F dX9_covers_23 rfl 1 rfl ?_
      refine z_callV (As := [vI e9]) (st := [vI m9]) F (mX9_endsAt l G N0 h g σ e9 hI hR (by omega)) cvX9_137 (mI hI 0 rfl) (fun r9 h9 => by cases h9; rfl) rfl rfl ⟨Nat.le_of_ble_eq_true rfl, Nat.le_of_ble_eq_true rfl⟩ rfl ⟨Nat.le_of_ble_eq_true rfl, Nat.le_of_ble_eq_true rfl⟩ dX9_covers_24 ?_
      rintro _ h9 ⟨rfl, hh9⟩
      rw [hh9]
      clear hh9 h9
      generalize ex1 : enA σ e9 = x1
      have fx1 : (if σ 12 e9 = 114 then σ 0 0 else σ 11 e9) = x1 := ex1
      show Z _ _ _ _ _ _ _ _ _ _ _ _ _ _ _ _ _ _ _ _ [vI x1, vI m9]
      refine z_icmp_ge (tgt := 34) F dX9_covers_27 (by decide) (by omega) (by omega) (fun c27 => ?_) (fun c27 => ?_)
      · refine z_iconst F dX9_covers_34 ?_
        exact z_iret (nf_z (by omega)) F hr (Nat.le_of_ble_eq_true rfl) (Nat.le_of_ble_eq_true rfl) dX9_covers_35 (⟨rI (by unfold cvI; split <;> omega), rfl⟩)
      · refine z_iconst F dX9_covers_30 ?_
        refine z_goto (tgt := 35) F dX9_covers_31 (by decide) ?_
        exact z_iret (nf_z (by omega)) F hr (Nat.le_of_ble_eq_true rfl) (Nat.le_of_ble_eq_true rfl) dX9_covers_35 (⟨rI (by unfold cvI; split <;> omega), rfl⟩)
set_option maxRecDepth 100000 in
set_option maxHeartbeats 4000000 in
theorem mX9_share (l : Launch) (G : GG) (N0 : Nat) (h : Hp) (g : Nat → Nat) (σ : Sg) (e9 many rank late : Int) (hI : MI g σ h) (hR : RG σ) (hm : 0 < many ∧ many ≤ 24) (r_k : 0 ≤ rank ∧ rank ≤ 24) (r_e9 : -2147483648 ≤ e9 ∧ e9 < 2147483648) (r_late : -2147483648 ≤ late ∧ late < 2147483648) : Ct l G N0 yX9_share (Cond.code yX9_share cX9_share 5 (some FieldType.int) :: LW) ({ frames := 0, cells := 0, slots := 0, locals := 0 }) [vR (g 0), vI e9, vI many, vI rank, vI late] h (fun r h' => r = some (vI (shR (σ 1 0) e9 many rank late)) ∧ h' = h) := by
  refine ct_of rfl rfl ?_
  intro p e s m args below meth c F hr hnm
  have F : Fx p s m args meth c RX9 cX9_share 5 G N0 (cA h s.heap.size) := F
  have hq0 : 0 ≤ 60 / many := Int.ediv_nonneg (by decide) (by omega)
  have hq1 : 60 / many ≤ 60 := Int.ediv_le_self _ (by decide)
  have hq2 : 0 ≤ 60 % many := Int.emod_nonneg _ (by omega)
  have hq3 : 60 % many < many := Int.emod_lt_of_pos _ (by omega)
  show Z _ _ _ _ _ _ _ _ _ _ _ _ _ _ _ _ _ _ _ [(0, vR (g 0)), (1, vI e9), (2, vI many), (3, vI rank), (4, vI late)] []
  refine z_aload_n F dX9_share_0 rfl 0 rfl ?_
  refine z_get (v := vI (σ 1 0)) F (mI hI 0 rfl) fX9_7 rfl dX9_share_1 ?_
  refine z_bipush F dX9_share_4 (by decide) ?_
  refine z_icmp_ne (tgt := 12) F dX9_share_6 (by decide) (hR 1 0) (by decide) (fun c6 => ?_) (fun c6 => ?_)
  · refine z_aload_n F dX9_share_12 rfl 0 rfl ?_
    refine z_get (v := vI (σ 1 0)) F (mI hI 0 rfl) fX9_7 rfl dX9_share_13 ?_
    refine z_bipush F dX9_share_16 (by decide) ?_
    refine z_icmp_ne (tgt := 34) F dX9_share_18 (by decide) (hR 1 0) (by decide) (fun c18 => ?_) (fun c18 => ?_)
    · refine z_bipush F dX9_share_34 (by decide) ?_
      refine z_iload_n F dX9_share_36 rfl 2 rfl ?_
      refine z_idiv F dX9_share_37 (by omega) (by omega) ?_
      refine z_iload_n F dX9_share_38 rfl 3 rfl ?_
      refine z_bipush F dX9_share_39 (by decide) ?_
      refine z_iload_n F dX9_share_41 rfl 2 rfl ?_
      refine z_irem F dX9_share_42 (by omega) (by omega) ?_
      refine z_icmp_ge (tgt := 50) F dX9_share_43 (by decide) (by omega) (by omega) (fun c43 => ?_) (fun c43 => ?_)
      · refine z_iconst F dX9_share_50 ?_
        refine z_iadd F dX9_share_51 ?_
        exact z_iret (nf_i _) F hr (Nat.le_of_ble_eq_true rfl) (Nat.le_of_ble_eq_true rfl) dX9_share_52 (⟨rI (by unfold shR; omega), rfl⟩)
      · refine z_iconst F dX9_share_46 ?_
        refine z_goto (tgt := 51) F dX9_share_47 (by decide) ?_
        refine z_iadd F dX9_share_51 ?_
        exact z_iret (nf_i _) F hr (Nat.le_of_ble_eq_true rfl) (Nat.le_of_ble_eq_true rfl) dX9_share_52 (⟨rI (by unfold shR; omega), rfl⟩)
    · refine z_iload_n F dX9_share_21 rfl 1 rfl ?_
      refine z_iload F dX9_share_22 4 rfl ?_
      refine z_icmp_ne (tgt := 32) F dX9_share_24 (by decide) (by omega) (by omega) (fun c24 => ?_) (fun c24 => ?_)
      · refine z_iconst F dX9_share_32 ?_
        exact z_iret (nf_i _) F hr (Nat.le_of_ble_eq_true rfl) (Nat.le_of_ble_eq_true rfl) dX9_share_33 (⟨rI (by unfold shR; omega), rfl⟩)
      · refine z_bipush F dX9_share_27 (by decide) ?_
        refine z_goto (tgt := 33) F dX9_share_29 (by decide) ?_
        exact z_iret (nf_i _) F hr (Nat.le_of_ble_eq_true rfl) (Nat.le_of_ble_eq_true rfl) dX9_share_33 (⟨rI (by unfold shR; omega), rfl⟩)
  · refine z_bipush F dX9_share_9 (by decide) ?_
    exact z_iret (nf_i _) F hr (Nat.le_of_ble_eq_true rfl) (Nat.le_of_ble_eq_true rfl) dX9_share_11 (⟨rI (by unfold shR; omega), rfl⟩)
set_option maxRecDepth 100000 in
set_option maxHeartbeats 4000000 in
theorem mX9_counts (l : Launch) (G : GG) (N0 : Nat) (h : Hp) (g : Nat → Nat) (σ : Sg) (hI : MI g σ h) (hR : RG σ) (hV : MV σ) : Ct l G N0 yX9_counts (Cond.code yX9_counts cX9_counts 7 none :: LW) ({ frames := 2, cells := 0, slots := 0, locals := 70 }) [vR (g 0)] h (fun r h' => r = none ∧ ∃ s d : Int → Int, MI g (sw (sw σ 14 s) 15 d) h' ∧ (∀ j, -2147483648 ≤ s j ∧ s j < 2147483648) ∧ (∀ j, -2147483648 ≤ d j ∧ d j < 2147483648) ∧ (∀ e, 0 ≤ e → e < σ 8 0 → s e = secS σ e) ∧ (∀ e dd, 0 ≤ e → e < σ 8 0 → 0 ≤ dd → dd < 5 → d (5 * e + dd) = dayS σ e dd)) := by
  refine ct_of rfl rfl ?_
  intro p e s m args below meth c F hr hnm
  have F : Fx p s m args meth c RX9 cX9_counts 7 G N0 (cA h s.heap.size) := F
  obtain ⟨v0, v1, v2, v8, v16, v24, v29, vC, vE, vL, vK, vT⟩ := id hV
  obtain ⟨Q, hQ⟩ : ∃ z, z = MQ below (cQc G N0 h s.heap.size (fun r h' => r = none ∧ ∃ s d : Int → Int, MI g (sw (sw σ 14 s) 15 d) h' ∧ (∀ j, -2147483648 ≤ s j ∧ s j < 2147483648) ∧ (∀ j, -2147483648 ≤ d j ∧ d j < 2147483648) ∧ (∀ e, 0 ≤ e → e < σ 8 0 → s e = secS σ e) ∧ (∀ e dd, 0 ≤ e → e < σ 8 0 → 0 ≤ dd → dd < 5 → d (5 * e + dd) = dayS σ e dd))) args s 0 0 (cA h s.heap.size) := ⟨_, rfl⟩
  rw [← hQ]
  show Z _ _ _ _ _ _ _ _ _ _ _ _ _ _ _ _ _ _ _ [(0, vR (g 0))] []
  refine z_iconst F dX9_counts_0 ?_
  refine z_istore_n (lv' := [(1, vI 0), (0, vR (g 0))]) F dX9_counts_1 rfl (by decide) rfl ?_
  have L2 : ∀ (fuel : Nat) (i1 : Int) (s1 : Int → Int) (h1 : Hp), (MI g (sw σ 14 s1) h1) → (∀ j, -2147483648 ≤ s1 j ∧ s1 j < 2147483648) → (∀ j, 0 ≤ j → j < i1 → s1 j = 0) → (0 ≤ i1) → (i1 ≤ 24) → 24 - i1 < (fuel : Int) → Z p l e ({ frames := 2, cells := 0, slots := 0, locals := 70 }) s m args below meth c 7 G N0 (cA h s.heap.size) Q h1 0 0 2 [(1, vI i1), (0, vR (g 0))] [] := by
    intro fuel
    induction fuel with
    | zero => intro i1 s1  h1  I1 Rs1 z1 ha hb hm; exact absurd hm (by omega)
    | succ fuel ih2 =>
      intro i1 s1  h1  I1 Rs1 z1 ha hb hm
      refine z_iload_n F dX9_counts_2 rfl 0 rfl ?_
      refine z_bipush F dX9_counts_3 (by decide) ?_
      refine z_icmp_ge (tgt := 21) F dX9_counts_5 (by decide) (by omega) (by decide) (fun c5 => ?_) (fun c5 => ?_)
      · refine z_iconst F dX9_counts_21 ?_
        refine z_istore_n (lv' := [(1, vI 0), (0, vR (g 0))]) F dX9_counts_22 rfl (by decide) rfl ?_
        have L23 : ∀ (fuel : Nat) (i2 : Int) (d1 : Int → Int) (h2 : Hp), (MI g (sw (sw σ 14 s1) 15 d1) h2) → (∀ j, -2147483648 ≤ d1 j ∧ d1 j < 2147483648) → (∀ j, 0 ≤ j → j < i2 → d1 j = 0) → (0 ≤ i2) → (i2 ≤ 120) → 120 - i2 < (fuel : Int) → Z p l e ({ frames := 2, cells := 0, slots := 0, locals := 70 }) s m args below meth c 7 G N0 (cA h s.heap.size) Q h2 0 0 23 [(1, vI i2), (0, vR (g 0))] [] := by
          intro fuel
          induction fuel with
          | zero => intro i2 d1  h2  I2 Rd1 z2 hc hd hm; exact absurd hm (by omega)
          | succ fuel ih23 =>
            intro i2 d1  h2  I2 Rd1 z2 hc hd hm
            refine z_iload_n F dX9_counts_23 rfl 0 rfl ?_
            refine z_bipush F dX9_counts_24 (by decide) ?_
            refine z_icmp_ge (tgt := 42) F dX9_counts_26 (by decide) (by omega) (by decide) (fun c26 => ?_) (fun c26 => ?_)
            · refine z_iconst F dX9_counts_42 ?_
              refine z_istore_n (lv' := [(1, vI 0), (0, vR (g 0))]) F dX9_counts_43 rfl (by decide) rfl ?_
              have L44 : ∀ (fuel : Nat) (m1 : Int) (s2 d2 : Int → Int) (h3 : Hp), (MI g (sw (sw σ 14 s2) 15 d2) h3) → (∀ j, -2147483648 ≤ s2 j ∧ s2 j < 2147483648) → (∀ j, -2147483648 ≤ d2 j ∧ d2 j < 2147483648) → (∀ e, 0 ≤ e → e < σ 8 0 → s2 e = sumI (shI σ e) 0 m1.toNat) → (∀ e dd, 0 ≤ e → e < σ 8 0 → 0 ≤ dd → dd < 5 → d2 (5 * e + dd) = sumI (dayF σ e dd) 0 m1.toNat) → (0 ≤ m1) → (m1 ≤ σ 0 0) → σ 0 0 - m1 < (fuel : Int) → Z p l e ({ frames := 2, cells := 0, slots := 0, locals := 70 }) s m args below meth c 7 G N0 (cA h s.heap.size) Q h3 0 0 44 [(1, vI m1), (0, vR (g 0))] [] := by
                intro fuel
                induction fuel with
                | zero => intro m1 s2 d2  h3  I3 Rs2 Rd2 S2 D2 he hf hm; exact absurd hm (by omega)
                | succ fuel ih44 =>
                  intro m1 s2 d2  h3  I3 Rs2 Rd2 S2 D2 he hf hm
                  refine z_iload_n F dX9_counts_44 rfl 0 rfl ?_
                  refine z_aload_n F dX9_counts_45 rfl 1 rfl ?_
                  refine z_get (v := vI (σ 0 0)) F (mI I3 0 rfl) fX9_100 rfl dX9_counts_46 ?_
                  refine z_icmp_ge (tgt := 200) F dX9_counts_49 (by decide) (by omega) (hR 0 0) (fun c49 => ?_) (fun c49 => ?_)
                  · refine z_iconst F dX9_counts_200 ?_
                    refine z_istore_n (lv' := [(1, vI 0), (0, vR (g 0))]) F dX9_counts_201 rfl (by decide) rfl ?_
                    have L202 : ∀ (fuel : Nat) (e3 : Int) (s4 : Int → Int) (h5 : Hp), (MI g (sw (sw σ 14 s4) 15 d2) h5) → (∀ j, -2147483648 ≤ s4 j ∧ s4 j < 2147483648) → (∀ e, 0 ≤ e → e < σ 8 0 → s4 e = if e < e3 ∧ σ 12 e = 102 then σ 13 e else sumI (shI σ e) 0 (σ 0 0).toNat) → (0 ≤ e3) → (e3 ≤ σ 8 0) → σ 8 0 - e3 < (fuel : Int) → Z p l e ({ frames := 2, cells := 0, slots := 0, locals := 70 }) s m args below meth c 7 G N0 (cA h s.heap.size) Q h5 0 0 202 [(1, vI e3), (0, vR (g 0))] [] := by
                      intro fuel
                      induction fuel with
                      | zero => intro e3 s4  h5  I5 Rs4 S4 hq hs hm; exact absurd hm (by omega)
                      | succ fuel ih202 =>
                        intro e3 s4  h5  I5 Rs4 S4 hq hs hm
                        refine z_iload_n F dX9_counts_202 rfl 0 rfl ?_
                        refine z_aload_n F dX9_counts_203 rfl 1 rfl ?_
                        refine z_get (v := vI (σ 8 0)) F (mI I5 0 rfl) fX9_97 rfl dX9_counts_204 ?_
                        refine z_icmp_ge (tgt := 239) F dX9_counts_207 (by decide) (by omega) (hR 8 0) (fun c207 => ?_) (fun c207 => ?_)
                        · rw [hQ]
                          exact z_vret F hr (Nat.le_of_ble_eq_true rfl) (Nat.le_of_ble_eq_true rfl) dX9_counts_239 (⟨rfl, s4, d2, I5, Rs4, Rd2, fun e q1 q2 => by rw [S4 e q1 q2]; unfold secS; simp only [show e < e3 by omega, true_and], fun e dd q1 q2 q3 q4 => by rw [D2 e dd q1 q2 q3 q4]; unfold dayS; rw [show m1 = σ 0 0 by omega]⟩)
                        · refine z_aload_n F dX9_counts_210 rfl 1 rfl ?_
                          refine z_get (v := vR (g 12)) F (mI I5 0 rfl) fX9_39 rfl dX9_counts_211 ?_
                          refine z_iload_n F dX9_counts_214 rfl 0 rfl ?_
                          refine z_caload (N := 24) (f := fun j => σ 12 j) F (mI I5 12 rfl) (by omega) (by omega) (by omega) dX9_counts_215 ?_
                          refine z_bipush F dX9_counts_216 (by decide) ?_
                          refine z_icmp_ne (tgt := 233) F dX9_counts_218 (by decide) (hR 12 e3) (by decide) (fun c218 => ?_) (fun c218 => ?_)
                          · refine z_iinc (lv' := [(1, vI (e3 + 1)), (0, vR (g 0))]) F dX9_counts_233 0 rfl (by decide) rfl ?_
                            refine z_goto (tgt := 202) F dX9_counts_236 (by decide) ?_
                            have ss8 : ∀ e, 0 ≤ e → e < σ 8 0 → s4 e = if e < e3 + 1 ∧ σ 12 e = 102 then σ 13 e else sumI (shI σ e) 0 (σ 0 0).toNat := fun e q1 q2 => by
                              rw [S4 e q1 q2]
                              by_cases q : e = e3
                              · subst q; rw [if_neg (by omega), if_neg (by omega)]
                              · by_cases q5 : e < e3 ∧ σ 12 e = 102
                                · rw [if_pos q5, if_pos (by omega)]
                                · rw [if_neg q5, if_neg (by omega)]
                            exact ih202 (e3 + 1) s4 h5 (I5) (Rs4) (ss8) (by omega) (by omega) (by omega)
                          · refine z_aload_n F dX9_counts_221 rfl 1 rfl ?_
                            refine z_get (v := vR (g 14)) F (mI I5 0 rfl) fX9_45 rfl dX9_counts_222 ?_
                            refine z_iload_n F dX9_counts_225 rfl 0 rfl ?_
                            refine z_aload_n F dX9_counts_226 rfl 1 rfl ?_
                            refine z_get (v := vR (g 13)) F (mI I5 0 rfl) fX9_42 rfl dX9_counts_227 ?_
                            refine z_iload_n F dX9_counts_230 rfl 0 rfl ?_
                            refine z_iaload (N := 24) (f := fun j => σ 13 j) F (mI I5 13 rfl) (by omega) (by omega) (by omega) dX9_counts_231 ?_
                            obtain ⟨h1, eh1, Ih1⟩ : ∃ z : Hp, hu h5 (g 14) (eA 0 24 (fun j => vI (if j = e3 then σ 13 e3 else s4 j))) = z ∧ MI g (su (sw (sw σ 14 s4) 15 d2) 14 e3 (σ 13 e3)) z := ⟨_, rfl, mP I5 14 rfl rfl e3 (σ 13 e3)⟩
                            refine z_iastore (N := 24) (f := fun j => s4 j) (h' := h1) F (mI I5 14 rfl) (by omega) (by omega) (by omega) dX9_counts_232 eh1 ?_
                            refine z_iinc (lv' := [(1, vI (e3 + 1)), (0, vR (g 0))]) F dX9_counts_233 0 rfl (by decide) rfl ?_
                            refine z_goto (tgt := 202) F dX9_counts_236 (by decide) ?_
                            have ss8 : ∀ e, 0 ≤ e → e < σ 8 0 → (if e = e3 then σ 13 e3 else s4 e) = if e < e3 + 1 ∧ σ 12 e = 102 then σ 13 e else sumI (shI σ e) 0 (σ 0 0).toNat := fun e q1 q2 => by
                              by_cases q : e = e3
                              · subst q; rw [if_pos rfl, if_pos (by omega)]
                              · rw [if_neg q, S4 e q1 q2]
                                by_cases q5 : e < e3 ∧ σ 12 e = 102
                                · rw [if_pos q5, if_pos (by omega)]
                                · rw [if_neg q5, if_neg (by omega)]
                            exact ih202 (e3 + 1) (fun j => if j = e3 then σ 13 e3 else s4 j) h1 (MI_suw2 (by decide) Ih1) (fun j => by have := Rs4 j; have := hR 13 e3; show _ ∧ (if j = e3 then σ 13 e3 else s4 j) < _; split <;> omega) (ss8) (by omega) (by omega) (by omega)
                    exact L202 ((σ 8 0 - 0 : Int).toNat + 1) 0 s2 h3 (I3) (Rs2) (fun e q1 q2 => by rw [if_neg (by omega), S2 e q1 q2, show m1 = σ 0 0 by omega]) (by omega) (by omega) (by omega)
                  · refine z_iconst F dX9_counts_52 ?_
                    refine z_istore_n (lv' := [(2, vI 0), (1, vI m1), (0, vR (g 0))]) F dX9_counts_53 rfl (by decide) rfl ?_
                    refine z_iconst F dX9_counts_54 ?_
                    refine z_istore_n (lv' := [(3, vI 0), (2, vI 0), (1, vI m1), (0, vR (g 0))]) F dX9_counts_55 rfl (by decide) rfl ?_
                    refine z_iconst F dX9_counts_56 ?_
                    refine z_istore (lv' := [(4, vI 0), (3, vI 0), (2, vI 0), (1, vI m1), (0, vR (g 0))]) F dX9_counts_57 (by decide) rfl ?_
                    have L59 : ∀ (fuel : Nat) (many : Int) (lt : Int) (e1 : Int), (many = cnt σ m1 e1.toNat) → (lt = lat σ m1 e1.toNat) → (0 ≤ e1) → (e1 ≤ σ 8 0) → σ 8 0 - e1 < (fuel : Int) → Z p l e ({ frames := 2, cells := 0, slots := 0, locals := 70 }) s m args below meth c 7 G N0 (cA h s.heap.size) Q h3 0 0 59 [(4, vI e1), (3, vI lt), (2, vI many), (1, vI m1), (0, vR (g 0))] [] := by
                      intro fuel
                      induction fuel with
                      | zero => intro many lt e1  hg hl hi1 hj hm; exact absurd hm (by omega)
                      | succ fuel ih59 =>
                        intro many lt e1  hg hl hi1 hj hm
                        have hln := lat_in σ m1 e1.toNat
                        have hcn := cnt_in σ m1 e1.toNat
                        refine z_iload F dX9_counts_59 0 rfl ?_
                        refine z_aload_n F dX9_counts_61 rfl 4 rfl ?_
                        refine z_get (v := vI (σ 8 0)) F (mI I3 0 rfl) fX9_97 rfl dX9_counts_62 ?_
                        refine z_icmp_ge (tgt := 113) F dX9_counts_65 (by decide) (by omega) (hR 8 0) (fun c65 => ?_) (fun c65 => ?_)
                        · refine z_iconst F dX9_counts_113 ?_
                          refine z_istore (lv' := [(4, vI 0), (3, vI lt), (2, vI many), (1, vI m1), (0, vR (g 0))]) F dX9_counts_114 (by decide) rfl ?_
                          refine z_iconst F dX9_counts_116 ?_
                          refine z_istore (lv' := [(5, vI 0), (4, vI 0), (3, vI lt), (2, vI many), (1, vI m1), (0, vR (g 0))]) F dX9_counts_117 (by decide) rfl ?_
                          have L119 : ∀ (fuel : Nat) (rk : Int) (e2 : Int) (s3 d3 : Int → Int) (h4 : Hp), (MI g (sw (sw σ 14 s3) 15 d3) h4) → (∀ j, -2147483648 ≤ s3 j ∧ s3 j < 2147483648) → (∀ j, -2147483648 ≤ d3 j ∧ d3 j < 2147483648) → (∀ e, 0 ≤ e → e < σ 8 0 → s3 e = sumI (shI σ e) 0 m1.toNat + (if e < e2 then shI σ e m1 else 0)) → (∀ e dd, 0 ≤ e → e < σ 8 0 → 0 ≤ dd → dd < 5 → d3 (5 * e + dd) = sumI (dayF σ e dd) 0 m1.toNat + (if e < e2 then dayF σ e dd m1 else 0)) → (rk = cnt σ m1 e2.toNat) → (0 ≤ e2) → (e2 ≤ σ 8 0) → σ 8 0 - e2 < (fuel : Int) → Z p l e ({ frames := 2, cells := 0, slots := 0, locals := 70 }) s m args below meth c 7 G N0 (cA h s.heap.size) Q h4 0 0 119 [(5, vI e2), (4, vI rk), (3, vI lt), (2, vI many), (1, vI m1), (0, vR (g 0))] [] := by
                            intro fuel
                            induction fuel with
                            | zero => intro rk e2 s3 d3  h4  I4 Rs3 Rd3 S3 D3 hk ho hp hm; exact absurd hm (by omega)
                            | succ fuel ih119 =>
                              intro rk e2 s3 d3  h4  I4 Rs3 Rd3 S3 D3 hk ho hp hm
                              refine z_iload F dX9_counts_119 0 rfl ?_
                              refine z_aload_n F dX9_counts_121 rfl 5 rfl ?_
                              refine z_get (v := vI (σ 8 0)) F (mI I4 0 rfl) fX9_97 rfl dX9_counts_122 ?_
                              refine z_icmp_ge (tgt := 194) F dX9_counts_125 (by decide) (by omega) (hR 8 0) (fun c125 => ?_) (fun c125 => ?_)
                              · refine z_iinc (lv' := [(1, vI (m1 + 1)), (5, vI e2), (4, vI rk), (3, vI lt), (2, vI many), (0, vR (g 0))]) F dX9_counts_194 4 rfl (by decide) rfl ?_
                                refine z_goto (tgt := 44) F dX9_counts_197 (by decide) ?_
                                refine z_pick (lv' := [(1, vI (m1 + 1)), (0, vR (g 0))]) [0, 5] rfl ?_
                                exact ih44 (m1 + 1) s3 d3 h4 (I4) (Rs3) (Rd3) (fun e q1 q2 => by rw [S3 e q1 q2, if_pos (by omega), sumI_s _ (by omega)]) (fun e dd q1 q2 q3 q4 => by rw [D3 e dd q1 q2 q3 q4, if_pos (by omega), sumI_s _ (by omega)]) (by omega) (by omega) (by omega)
                              · refine z_aload_n F dX9_counts_128 rfl 5 rfl ?_
                                refine z_iload F dX9_counts_129 0 rfl ?_
                                refine z_iload_n F dX9_counts_131 rfl 4 rfl ?_
                                refine z_callV (As := [vI e2, vI m1]) (st := []) F (mX9_covers l G N0 h4 g (sw (sw σ 14 s3) 15 d3) e2 m1 I4 (rg_sw (rg_sw hR Rs3) Rd3) (by omega) (by omega)) cvX9_140 (mI I4 0 rfl) (fun r9 h9 => by cases h9; rfl) rfl rfl ⟨Nat.le_of_ble_eq_true rfl, Nat.le_of_ble_eq_true rfl⟩ rfl ⟨Nat.le_of_ble_eq_true rfl, Nat.le_of_ble_eq_true rfl⟩ dX9_counts_132 ?_
                                rintro _ h9 ⟨rfl, hh9⟩
                                rw [hh9]
                                clear hh9 h9
                                have q132 := cvI_in σ e2 m1
                                show Z _ _ _ _ _ _ _ _ _ _ _ _ _ _ _ _ _ _ _ _ [vI (cvI σ e2 m1)]
                                refine z_if_ne (tgt := 141) F dX9_counts_135 (by decide) (by omega) (fun c135 => ?_) (fun c135 => ?_)
                                · refine z_aload_n F dX9_counts_141 rfl 5 rfl ?_
                                  refine z_iload F dX9_counts_142 0 rfl ?_
                                  refine z_iload_n F dX9_counts_144 rfl 3 rfl ?_
                                  refine z_iload F dX9_counts_145 1 rfl ?_
                                  refine z_iload_n F dX9_counts_147 rfl 2 rfl ?_
                                  refine z_callV (As := [vI e2, vI many, vI rk, vI lt]) (st := []) F (mX9_share l G N0 h4 g (sw (sw σ 14 s3) 15 d3) e2 many rk lt I4 (rg_sw (rg_sw hR Rs3) Rd3) (by have := cnt_mono σ m1 (e2 + 1).toNat e1.toNat (by omega); have := cnt_s σ m1 ho; have := cnt_in σ m1 e2.toNat; have := cnt_in σ m1 e1.toNat; omega) (by have := cnt_in σ m1 e2.toNat; omega) (by omega) (by have := lat_in σ m1 e1.toNat; omega)) cvX9_144 (mI I4 0 rfl) (fun r9 h9 => by cases h9; rfl) rfl rfl ⟨Nat.le_of_ble_eq_true rfl, Nat.le_of_ble_eq_true rfl⟩ rfl ⟨Nat.le_of_ble_eq_true rfl, Nat.le_of_ble_eq_true rfl⟩ dX9_counts_148 ?_
                                  rintro _ h9 ⟨rfl, hh9⟩
                                  rw [hh9]
                                  clear hh9 h9
                                  obtain ⟨x9, ex9⟩ : ∃ z, z = shI σ e2 m1 := ⟨_, rfl⟩
                                  have ey9 : shR (σ 1 0) e2 many rk lt = x9 := by rw [ex9]; unfold shI; rw [if_pos (by omega), hg, hk, hl, show e1 = σ 8 0 by omega]
                                  show Z _ _ _ _ _ _ _ _ _ _ _ _ _ _ _ _ _ _ _ _ [vI (shR (σ 1 0) e2 many rk lt)]
                                  rw [ey9]
                                  show Z _ _ _ _ _ _ _ _ _ _ _ _ _ _ _ _ _ _ _ _ [vI x9]
                                  refine z_istore (lv' := [(6, vI x9), (5, vI e2), (4, vI rk), (3, vI lt), (2, vI many), (1, vI m1), (0, vR (g 0))]) F dX9_counts_151 (by decide) rfl ?_
                                  refine z_aload_n F dX9_counts_153 rfl 6 rfl ?_
                                  refine z_get (v := vR (g 14)) F (mI I4 0 rfl) fX9_45 rfl dX9_counts_154 ?_
                                  refine z_iload F dX9_counts_157 1 rfl ?_
                                  refine z_dup2 F dX9_counts_159 rfl rfl ?_
                                  refine z_iaload (N := 24) (f := fun j => s3 j) F (mI I4 14 rfl) (by omega) (by omega) (by omega) dX9_counts_160 ?_
                                  refine z_iload F dX9_counts_161 0 rfl ?_
                                  refine z_iadd F dX9_counts_163 ?_
                                  obtain ⟨h2, eh2, Ih2⟩ : ∃ z : Hp, hu h4 (g 14) (eA 0 24 (fun j => vI (if j = e2 then (s3 e2) + x9 else s3 j))) = z ∧ MI g (su (sw (sw σ 14 s3) 15 d3) 14 e2 ((s3 e2) + x9)) z := ⟨_, rfl, mP I4 14 rfl rfl e2 ((s3 e2) + x9)⟩
                                  refine z_iastore (N := 24) (f := fun j => s3 j) (h' := h2) F (mI I4 14 rfl) (by omega) (by omega) (by omega) dX9_counts_164 eh2 ?_
                                  refine z_aload_n F dX9_counts_165 rfl 6 rfl ?_
                                  refine z_get (v := vR (g 15)) F (mI Ih2 0 rfl) fX9_48 rfl dX9_counts_166 ?_
                                  refine z_iconst F dX9_counts_169 ?_
                                  refine z_iload F dX9_counts_170 1 rfl ?_
                                  refine z_imul F dX9_counts_172 ?_
                                  refine z_iload_n F dX9_counts_173 rfl 5 rfl ?_
                                  refine z_sipush F dX9_counts_174 (by decide) ?_
                                  refine z_idiv F dX9_counts_177 (by omega) (by omega) ?_
                                  refine z_iadd F dX9_counts_178 ?_
                                  refine z_dup2 F dX9_counts_179 rfl rfl ?_
                                  refine z_iaload (N := 120) (f := fun j => d3 j) F (mI Ih2 15 rfl) (by omega) (by omega) (by omega) dX9_counts_180 ?_
                                  refine z_iload F dX9_counts_181 0 rfl ?_
                                  refine z_iadd F dX9_counts_183 ?_
                                  obtain ⟨h3, eh3, Ih3⟩ : ∃ z : Hp, hu h2 (g 15) (eA 0 120 (fun j => vI (if j = (5 * e2) + (m1 / 600) then (d3 ((5 * e2) + (m1 / 600))) + x9 else d3 j))) = z ∧ MI g (su (su (sw (sw σ 14 s3) 15 d3) 14 e2 ((s3 e2) + x9)) 15 ((5 * e2) + (m1 / 600)) ((d3 ((5 * e2) + (m1 / 600))) + x9)) z := ⟨_, rfl, mP Ih2 15 rfl rfl ((5 * e2) + (m1 / 600)) ((d3 ((5 * e2) + (m1 / 600))) + x9)⟩
                                  refine z_iastore (N := 120) (f := fun j => d3 j) (h' := h3) F (mI Ih2 15 rfl) (by omega) (by omega) (by omega) dX9_counts_184 eh3 ?_
                                  refine z_iinc (lv' := [(4, vI (rk + 1)), (6, vI x9), (5, vI e2), (3, vI lt), (2, vI many), (1, vI m1), (0, vR (g 0))]) F dX9_counts_185 2 rfl (by decide) rfl ?_
                                  refine z_iinc (lv' := [(5, vI (e2 + 1)), (4, vI (rk + 1)), (6, vI x9), (3, vI lt), (2, vI many), (1, vI m1), (0, vR (g 0))]) F dX9_counts_188 2 rfl (by decide) rfl ?_
                                  refine z_goto (tgt := 119) F dX9_counts_191 (by decide) ?_
                                  refine z_pick (lv' := [(5, vI (e2 + 1)), (4, vI (rk + 1)), (3, vI lt), (2, vI many), (1, vI m1), (0, vR (g 0))]) [0, 1, 3, 4, 5, 6] rfl ?_
                                  have back9 : MI g (sw (sw σ 14 (fun j => if j = e2 then s3 e2 + x9 else s3 j)) 15 (fun j => if j = 5 * e2 + m1 / 600 then d3 (5 * e2 + m1 / 600) + x9 else d3 j)) h3 := MI.to Ih3 (fun k' j => by
                                    unfold su sw
                                    by_cases a : k' = 15
                                    · subst a; rfl
                                    · by_cases b : k' = 14
                                      · subst b; rfl
                                      · simp only [if_neg a, if_neg b])
                                  have bs := shs_in (σ := σ) (e := e2) (by omega) (by omega) m1.toNat
                                  have s3e := S3 e2 (by omega) (by omega)
                                  rw [if_neg (by omega)] at s3e
                                  have bd := dys_in (σ := σ) (e := e2) (d := m1 / 600) (by omega) (by omega) m1.toNat
                                  have d3e := D3 e2 (m1 / 600) (by omega) (by omega) (by omega) (by omega)
                                  rw [if_neg (by omega)] at d3e
                                  have bx := shI_in (σ := σ) (e := e2) (m := m1) (by omega) (by omega)
                                  have rs9 : ∀ j, -2147483648 ≤ (if j = e2 then s3 e2 + x9 else s3 j) ∧ (if j = e2 then s3 e2 + x9 else s3 j) < 2147483648 := fun j => by have := Rs3 j; split <;> omega
                                  have rd9 : ∀ j, -2147483648 ≤ (if j = 5 * e2 + m1 / 600 then d3 (5 * e2 + m1 / 600) + x9 else d3 j) ∧ (if j = 5 * e2 + m1 / 600 then d3 (5 * e2 + m1 / 600) + x9 else d3 j) < 2147483648 := fun j => by have := Rd3 j; split <;> omega
                                  have ss9 : ∀ e, 0 ≤ e → e < σ 8 0 → (if e = e2 then s3 e2 + x9 else s3 e) = sumI (shI σ e) 0 m1.toNat + (if e < e2 + 1 then shI σ e m1 else 0) := fun e q1 q2 => by
                                    by_cases q : e = e2
                                    · subst q; rw [if_pos rfl, if_pos (by omega), s3e, ex9]; omega
                                    · rw [if_neg q, S3 e q1 q2]
                                      by_cases q5 : e < e2
                                      · rw [if_pos q5, if_pos (by omega)]
                                      · rw [if_neg q5, if_neg (by omega)]
                                  have dd9 : ∀ e dd, 0 ≤ e → e < σ 8 0 → 0 ≤ dd → dd < 5 → (if 5 * e + dd = 5 * e2 + m1 / 600 then d3 (5 * e2 + m1 / 600) + x9 else d3 (5 * e + dd)) = sumI (dayF σ e dd) 0 m1.toNat + (if e < e2 + 1 then dayF σ e dd m1 else 0) := fun e dd q1 q2 q3 q4 => by
                                    by_cases q : 5 * e + dd = 5 * e2 + m1 / 600
                                    · have q6 : e = e2 := by omega
                                      have q7 : dd = m1 / 600 := by omega
                                      subst q6 q7
                                      rw [if_pos rfl, if_pos (by omega), d3e, ex9]
                                      unfold dayF
                                      rw [if_pos rfl]
                                      omega
                                    · rw [if_neg q, D3 e dd q1 q2 q3 q4]
                                      by_cases q8 : e = e2
                                      · subst q8
                                        rw [if_neg (by omega), if_pos (by omega)]
                                        unfold dayF
                                        rw [if_neg (by omega)]
                                      · by_cases q5 : e < e2
                                        · rw [if_pos q5, if_pos (by omega)]
                                        · rw [if_neg q5, if_neg (by omega)]
                                  exact ih119 (rk + 1) (e2 + 1) (fun j => if j = e2 then s3 e2 + x9 else s3 j) (fun j => if j = 5 * e2 + m1 / 600 then d3 (5 * e2 + m1 / 600) + x9 else d3 j) h3 (back9) (rs9) (rd9) (ss9) (dd9) (by rw [cnt_s σ m1 ho]; omega) (by omega) (by omega) (by omega)
                                · refine z_goto (tgt := 188) F dX9_counts_138 (by decide) ?_
                                  refine z_iinc (lv' := [(5, vI (e2 + 1)), (4, vI rk), (3, vI lt), (2, vI many), (1, vI m1), (0, vR (g 0))]) F dX9_counts_188 0 rfl (by decide) rfl ?_
                                  refine z_goto (tgt := 119) F dX9_counts_191 (by decide) ?_
                                  have z9 : shI σ e2 m1 = 0 := by unfold shI; exact if_neg (by omega)
                                  have back9 : MI g (sw (sw σ 14 s3) 15 d3) h4 := I4
                                  have rs9 := Rs3
                                  have rd9 := Rd3
                                  have ss9 : ∀ e, 0 ≤ e → e < σ 8 0 → s3 e = sumI (shI σ e) 0 m1.toNat + (if e < e2 + 1 then shI σ e m1 else 0) := fun e q1 q2 => by
                                    rw [S3 e q1 q2]
                                    by_cases q : e = e2
                                    · subst q; rw [if_neg (by omega), if_pos (by omega), z9]
                                    · by_cases q5 : e < e2
                                      · rw [if_pos q5, if_pos (by omega)]
                                      · rw [if_neg q5, if_neg (by omega)]
                                  have dd9 : ∀ e dd, 0 ≤ e → e < σ 8 0 → 0 ≤ dd → dd < 5 → d3 (5 * e + dd) = sumI (dayF σ e dd) 0 m1.toNat + (if e < e2 + 1 then dayF σ e dd m1 else 0) := fun e dd q1 q2 q3 q4 => by
                                    rw [D3 e dd q1 q2 q3 q4]
                                    by_cases q : e = e2
                                    · subst q; rw [if_neg (by omega), if_pos (by omega)]; unfold dayF; rw [z9]; simp
                                    · by_cases q5 : e < e2
                                      · rw [if_pos q5, if_pos (by omega)]
                                      · rw [if_neg q5, if_neg (by omega)]
                                  exact ih119 rk (e2 + 1) s3 d3 h4 (back9) (rs9) (rd9) (ss9) (dd9) (by rw [cnt_s σ m1 ho]; omega) (by omega) (by omega) (by omega)
                          exact L119 ((σ 8 0 - 0 : Int).toNat + 1) 0 0 s2 d2 h3 (I3) (Rs2) (Rd2) (fun e q1 q2 => by rw [S2 e q1 q2, if_neg (by omega)]; omega) (fun e dd q1 q2 q3 q4 => by rw [D2 e dd q1 q2 q3 q4, if_neg (by omega)]; omega) (rfl) (by omega) (by omega) (by omega)
                        · refine z_aload_n F dX9_counts_68 rfl 4 rfl ?_
                          refine z_iload F dX9_counts_69 0 rfl ?_
                          refine z_iload_n F dX9_counts_71 rfl 3 rfl ?_
                          refine z_callV (As := [vI e1, vI m1]) (st := []) F (mX9_covers l G N0 h3 g (sw (sw σ 14 s2) 15 d2) e1 m1 I3 (rg_sw (rg_sw hR Rs2) Rd2) (by omega) (by omega)) cvX9_140 (mI I3 0 rfl) (fun r9 h9 => by cases h9; rfl) rfl rfl ⟨Nat.le_of_ble_eq_true rfl, Nat.le_of_ble_eq_true rfl⟩ rfl ⟨Nat.le_of_ble_eq_true rfl, Nat.le_of_ble_eq_true rfl⟩ dX9_counts_72 ?_
                          rintro _ h9 ⟨rfl, hh9⟩
                          rw [hh9]
                          clear hh9 h9
                          have q72 := cvI_in σ e1 m1
                          show Z _ _ _ _ _ _ _ _ _ _ _ _ _ _ _ _ _ _ _ _ [vI (cvI σ e1 m1)]
                          refine z_if_ne (tgt := 81) F dX9_counts_75 (by decide) (by omega) (fun c75 => ?_) (fun c75 => ?_)
                          · refine z_iload_n F dX9_counts_81 rfl 2 rfl ?_
                            refine z_if_eq (tgt := 101) F dX9_counts_82 (by decide) (by omega) (fun c82 => ?_) (fun c82 => ?_)
                            · refine z_iload F dX9_counts_101 0 rfl ?_
                              refine z_istore_n (lv' := [(3, vI e1), (4, vI e1), (2, vI many), (1, vI m1), (0, vR (g 0))]) F dX9_counts_103 rfl (by decide) rfl ?_
                              refine z_iinc (lv' := [(2, vI (many + 1)), (3, vI e1), (4, vI e1), (1, vI m1), (0, vR (g 0))]) F dX9_counts_104 2 rfl (by decide) rfl ?_
                              refine z_iinc (lv' := [(4, vI (e1 + 1)), (2, vI (many + 1)), (3, vI e1), (1, vI m1), (0, vR (g 0))]) F dX9_counts_107 2 rfl (by decide) rfl ?_
                              refine z_goto (tgt := 59) F dX9_counts_110 (by decide) ?_
                              refine z_pick (lv' := [(4, vI (e1 + 1)), (3, vI e1), (2, vI (many + 1)), (1, vI m1), (0, vR (g 0))]) [0, 2, 1, 3, 4] rfl ?_
                              exact ih59 (many + 1) e1 (e1 + 1)  (by rw [cnt_s σ m1 hi1]; omega) (by rw [lat_s σ m1 hi1, ← hl, ← hg]; first | rw [if_neg (by omega)] | rw [if_pos (by omega)]) (by omega) (by omega) (by omega)
                            · refine z_aload_n F dX9_counts_85 rfl 4 rfl ?_
                              refine z_get (v := vR (g 10)) F (mI I3 0 rfl) fX9_33 rfl dX9_counts_86 ?_
                              refine z_iload F dX9_counts_89 0 rfl ?_
                              refine z_iaload (N := 24) (f := fun j => σ 10 j) F (mI I3 10 rfl) (by omega) (by omega) (by omega) dX9_counts_91 ?_
                              refine z_aload_n F dX9_counts_92 rfl 4 rfl ?_
                              refine z_get (v := vR (g 10)) F (mI I3 0 rfl) fX9_33 rfl dX9_counts_93 ?_
                              refine z_iload_n F dX9_counts_96 rfl 1 rfl ?_
                              refine z_iaload (N := 24) (f := fun j => σ 10 j) F (mI I3 10 rfl) (by omega) (by omega) (by omega) dX9_counts_97 ?_
                              refine z_icmp_lt (tgt := 104) F dX9_counts_98 (by decide) (hR 10 e1) (hR 10 lt) (fun c98 => ?_) (fun c98 => ?_)
                              · refine z_iinc (lv' := [(2, vI (many + 1)), (4, vI e1), (3, vI lt), (1, vI m1), (0, vR (g 0))]) F dX9_counts_104 2 rfl (by decide) rfl ?_
                                refine z_iinc (lv' := [(4, vI (e1 + 1)), (2, vI (many + 1)), (3, vI lt), (1, vI m1), (0, vR (g 0))]) F dX9_counts_107 1 rfl (by decide) rfl ?_
                                refine z_goto (tgt := 59) F dX9_counts_110 (by decide) ?_
                                refine z_pick (lv' := [(4, vI (e1 + 1)), (3, vI lt), (2, vI (many + 1)), (1, vI m1), (0, vR (g 0))]) [0, 2, 1, 3, 4] rfl ?_
                                exact ih59 (many + 1) lt (e1 + 1)  (by rw [cnt_s σ m1 hi1]; omega) (by rw [lat_s σ m1 hi1, ← hl, ← hg]; first | rw [if_neg (by omega)] | rw [if_pos (by omega)]) (by omega) (by omega) (by omega)
                              · refine z_iload F dX9_counts_101 0 rfl ?_
                                refine z_istore_n (lv' := [(3, vI e1), (4, vI e1), (2, vI many), (1, vI m1), (0, vR (g 0))]) F dX9_counts_103 rfl (by decide) rfl ?_
                                refine z_iinc (lv' := [(2, vI (many + 1)), (3, vI e1), (4, vI e1), (1, vI m1), (0, vR (g 0))]) F dX9_counts_104 2 rfl (by decide) rfl ?_
                                refine z_iinc (lv' := [(4, vI (e1 + 1)), (2, vI (many + 1)), (3, vI e1), (1, vI m1), (0, vR (g 0))]) F dX9_counts_107 2 rfl (by decide) rfl ?_
                                refine z_goto (tgt := 59) F dX9_counts_110 (by decide) ?_
                                refine z_pick (lv' := [(4, vI (e1 + 1)), (3, vI e1), (2, vI (many + 1)), (1, vI m1), (0, vR (g 0))]) [0, 2, 1, 3, 4] rfl ?_
                                exact ih59 (many + 1) e1 (e1 + 1)  (by rw [cnt_s σ m1 hi1]; omega) (by rw [lat_s σ m1 hi1, ← hl, ← hg]; first | rw [if_neg (by omega)] | rw [if_pos (by omega)]) (by omega) (by omega) (by omega)
                          · refine z_goto (tgt := 107) F dX9_counts_78 (by decide) ?_
                            refine z_iinc (lv' := [(4, vI (e1 + 1)), (3, vI lt), (2, vI many), (1, vI m1), (0, vR (g 0))]) F dX9_counts_107 0 rfl (by decide) rfl ?_
                            refine z_goto (tgt := 59) F dX9_counts_110 (by decide) ?_
                            exact ih59 many lt (e1 + 1)  (by rw [cnt_s σ m1 hi1]; omega) (by rw [lat_s σ m1 hi1, ← hl, ← hg]; first | rw [if_neg (by omega)] | rw [if_pos (by omega)]) (by omega) (by omega) (by omega)
                    exact L59 ((σ 8 0 - 0 : Int).toNat + 1) 0 0 0  (rfl) (rfl) (by omega) (by omega) (by omega)
              exact L44 ((σ 0 0 - 0 : Int).toNat + 1) 0 s1 d1 h2 (I2) (Rs1) (Rd1) (fun e q1 q2 => by rw [z1 e q1 (by omega)]; rfl) (fun e dd q1 q2 q3 q4 => by rw [z2 (5 * e + dd) (by omega) (by omega)]; rfl) (by omega) (by omega) (by omega)
            · refine z_aload_n F dX9_counts_29 rfl 1 rfl ?_
              refine z_get (v := vR (g 15)) F (mI I2 0 rfl) fX9_48 rfl dX9_counts_30 ?_
              refine z_iload_n F dX9_counts_33 rfl 0 rfl ?_
              refine z_iconst F dX9_counts_34 ?_
              obtain ⟨h4, eh4, Ih4⟩ : ∃ z : Hp, hu h2 (g 15) (eA 0 120 (fun j => vI (if j = i2 then 0 else d1 j))) = z ∧ MI g (su (sw (sw σ 14 s1) 15 d1) 15 i2 0) z := ⟨_, rfl, mP I2 15 rfl rfl i2 0⟩
              refine z_iastore (N := 120) (f := fun j => d1 j) (h' := h4) F (mI I2 15 rfl) (by omega) (by omega) (by omega) dX9_counts_35 eh4 ?_
              refine z_iinc (lv' := [(1, vI (i2 + 1)), (0, vR (g 0))]) F dX9_counts_36 0 rfl (by decide) rfl ?_
              refine z_goto (tgt := 23) F dX9_counts_39 (by decide) ?_
              exact ih23 (i2 + 1) (fun j => if j = i2 then (0 : Int) else d1 j) h4 (MI_suw Ih4) (fun j => by have := Rd1 j; show _ ∧ (if j = i2 then (0 : Int) else d1 j) < _; split <;> omega) (fun j q1 q2 => by show (if j = i2 then (0 : Int) else d1 j) = 0; have := z2 j q1; split <;> omega) (by omega) (by omega) (by omega)
        exact L23 ((120 - 0 : Int).toNat + 1) 0 (σ 15) h1 (MI_sw I1 15) (fun j => hR 15 j) (fun j q1 q2 => by omega) (by omega) (by omega) (by omega)
      · refine z_aload_n F dX9_counts_8 rfl 1 rfl ?_
        refine z_get (v := vR (g 14)) F (mI I1 0 rfl) fX9_45 rfl dX9_counts_9 ?_
        refine z_iload_n F dX9_counts_12 rfl 0 rfl ?_
        refine z_iconst F dX9_counts_13 ?_
        obtain ⟨h5, eh5, Ih5⟩ : ∃ z : Hp, hu h1 (g 14) (eA 0 24 (fun j => vI (if j = i1 then 0 else s1 j))) = z ∧ MI g (su (sw σ 14 s1) 14 i1 0) z := ⟨_, rfl, mP I1 14 rfl rfl i1 0⟩
        refine z_iastore (N := 24) (f := fun j => s1 j) (h' := h5) F (mI I1 14 rfl) (by omega) (by omega) (by omega) dX9_counts_14 eh5 ?_
        refine z_iinc (lv' := [(1, vI (i1 + 1)), (0, vR (g 0))]) F dX9_counts_15 0 rfl (by decide) rfl ?_
        refine z_goto (tgt := 2) F dX9_counts_18 (by decide) ?_
        exact ih2 (i1 + 1) (fun j => if j = i1 then (0 : Int) else s1 j) h5 (MI_suw Ih5) (fun j => by have := Rs1 j; show _ ∧ (if j = i1 then (0 : Int) else s1 j) < _; split <;> omega) (fun j q1 q2 => by show (if j = i1 then (0 : Int) else s1 j) = 0; have := z1 j q1; split <;> omega) (by omega) (by omega) (by omega)
  exact L2 ((24 - 0 : Int).toNat + 1) 0 (σ 14) h (MI_sw hI 14) (fun j => hR 14 j) (fun j q1 q2 => by omega) (by omega) (by omega) (by omega)
