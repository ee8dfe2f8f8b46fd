theorem mx_mx (ρ a b : Sg) : mx (mx ρ a) b = mx ρ b := by
  funext k
  unfold mx
  cases e : scrB k <;> rfl
theorem ceF_r {σ ρ : Sg} (q : CQ σ ρ) : ceF σ = ceF ρ := by
  have h : dayF σ = dayF ρ := by funext e d m; unfold dayF; rw [shI_r q]
  funext a k j
  unfold ceF
  rw [h, q.e 8]
theorem ceF_b {ρ : Sg} (hV : MC ρ) {j : Int} (h0 : 0 ≤ j) (h1 : j < 120) : 0 ≤ ceF ρ 0 (ρ 0 0 - 0).toNat j ∧ ceF ρ 0 (ρ 0 0 - 0).toNat j ≤ 180000 := by
  rw [Int.sub_zero]
  unfold ceF
  by_cases q : j < 5 * ρ 8 0
  · rw [if_pos q]
    exact dayS_b hV (e := j / 5) (d := j % 5) (by omega) (by omega)
  · rw [if_neg q]
    omega
theorem amS_s (ρ : Sg) (i : Int) {q : Int} (h : 0 ≤ q) : FP.fadd (amS ρ i q.toNat) (fb (ρ 22 (40 * i + q))) = amS ρ i (q + 1).toNat := by
  rw [(toN_s h).1, amS, (toN_s h).2]
theorem amS_mg {ρ : Sg} {i : Int} {N : Nat} (hN : N ≤ 40) (hf : ∀ q : Int, 0 ≤ q → q < N → MG 159 (fb (ρ 22 (40 * i + q)))) : ∀ n : Nat, n ≤ N → MG (159 + 2 * n) (amS ρ i n)
  | 0, _ => (show MG 1 (amS ρ i 0) from (by unfold MG; decide : MG 1 0)).le (by omega)
  | n + 1, h => by
    have h1 := amS_mg hN hf n (by omega)
    rw [amS]
    exact (mg_add h1 ((hf (n : Int) (by omega) (by omega)).le (by omega)) (by omega)).le (by omega)
set_option maxRecDepth 100000 in
set_option maxHeartbeats 4000000 in
theorem mX3_sumOfMinutes (l : Launch) (G : GG) (N0 : Nat) (h : Hp) (g : Int → Nat) (ρ : Sg) (i9 : Int) (hI : CI G g ρ h) (hV : MC ρ) (hi : 0 ≤ i9 ∧ i9 < ρ 16 0) : Ct l G N0 yX3_sumOfMinutes (Cond.code yX3_sumOfMinutes cX3_sumOfMinutes 3 (some FieldType.int) :: LW) ({ frames := 3, cells := 0, slots := 0, locals := 140 }) [vR (aI ρ i9)] h (fun r h' => r = some (vI (lnS ρ i9 (ρ 17 i9).toNat)) ∧ h' = h) := by
  refine ct_of rfl rfl ?_
  intro p e s m args below meth c F hr hnm
  have F : Fx p s m args meth c RX3 cX3_sumOfMinutes 3 G N0 (cA h s.heap.size) := F
  obtain ⟨v0, v1, v2, v8, v16, v24, v39, vC, vE, vJ, vK, vB, vO⟩ := id hV
  have J9 := vJ i9 hi.1 hi.2
  obtain ⟨Q, hQ⟩ : ∃ z, z = MQ below (cQc G N0 h s.heap.size (fun r h' => r = some (vI (lnS ρ i9 (ρ 17 i9).toNat)) ∧ h' = h)) args s 0 0 (cA h s.heap.size) := ⟨_, rfl⟩
  rw [← hQ]
  show Z _ _ _ _ _ _ _ _ _ _ _ _ _ _ _ _ _ _ _ [(0, vR (aI ρ i9))] []
  refine z_iconst F dX3_sumOfMinutes_0 ?_
  refine z_istore_n (lv' := [(1, vI 0), (0, vR (aI ρ i9))]) F dX3_sumOfMinutes_1 rfl (by decide) rfl ?_
  refine z_iconst F dX3_sumOfMinutes_2 ?_
  refine z_istore_n (lv' := [(2, vI 0), (1, vI 0), (0, vR (aI ρ i9))]) F dX3_sumOfMinutes_3 rfl (by decide) rfl ?_
  have L4 : ∀ (fuel : Nat) (s9 : Int) (q9 : Int), (0 ≤ q9 ∧ q9 ≤ ρ 17 i9) → (s9 = lnS ρ i9 q9.toNat) → ρ 17 i9 - q9 < (fuel : Int) → Z p l e ({ frames := 3, cells := 0, slots := 0, locals := 140 }) s m args below meth c 3 G N0 (cA h s.heap.size) Q h 0 0 4 [(2, vI q9), (1, vI s9), (0, vR (aI ρ i9))] [] := by
    intro fuel
    induction fuel with
    | zero => intro s9 q9  ha hs hm; exact absurd hm (by omega)
    | succ fuel ih4 =>
      intro s9 q9  ha hs hm
      refine z_iload_n F dX3_sumOfMinutes_4 rfl 0 rfl ?_
      refine z_aload_n F dX3_sumOfMinutes_5 rfl 2 rfl ?_
      refine z_get (v := vR (aL ρ i9)) F (ci_i hI (show 0 ≤ i9 ∧ i9 < ρ 39 0 ∧ i9 < 100 from by omega)) fX3_10 rfl dX3_sumOfMinutes_6 ?_
      refine z_callV (As := []) (st := [vI q9]) F (mJx4a65c_size_8abf5 l G N0 h (aL ρ i9) ((ρ 49 i9).toNat) 0 (ρ 47 i9) (ρ 17 i9) (fun _ => none) (ci_l hI (show 0 ≤ i9 ∧ i9 < ρ 39 0 ∧ i9 < 100 from by omega))) cvX3_43 (ci_l hI (show 0 ≤ i9 ∧ i9 < ρ 39 0 ∧ i9 < 100 from by omega)) (fun r9 h9 => by cases h9; rfl) rfl rfl ⟨Nat.le_of_ble_eq_true rfl, Nat.le_of_ble_eq_true rfl⟩ rfl ⟨Nat.le_of_ble_eq_true rfl, Nat.le_of_ble_eq_true rfl⟩ dX3_sumOfMinutes_9 ?_
      rintro _ h9 ⟨rfl, hh9⟩
      rw [hh9]
      clear hh9 h9
      show Z _ _ _ _ _ _ _ _ _ _ _ _ _ _ _ _ _ _ _ _ [vI (ρ 17 i9), vI q9]
      refine z_icmp_ge (tgt := 38) F dX3_sumOfMinutes_12 (by decide) (by omega) (by omega) (fun c12 => ?_) (fun c12 => ?_)
      · refine z_iload_n F dX3_sumOfMinutes_38 rfl 1 rfl ?_
        rw [hQ]
        exact z_iret (nf_i _) F hr (Nat.le_of_ble_eq_true rfl) (Nat.le_of_ble_eq_true rfl) dX3_sumOfMinutes_39 (⟨rI (by rw [hs, show q9 = ρ 17 i9 by omega]), rfl⟩)
      · refine z_iload_n F dX3_sumOfMinutes_15 rfl 1 rfl ?_
        refine z_aload_n F dX3_sumOfMinutes_16 rfl 2 rfl ?_
        refine z_get (v := vR (aL ρ i9)) F (ci_i hI (show 0 ≤ i9 ∧ i9 < ρ 39 0 ∧ i9 < 100 from by omega)) fX3_10 rfl dX3_sumOfMinutes_17 ?_
        refine z_iload_n F dX3_sumOfMinutes_20 rfl 0 rfl ?_
        refine z_callV (As := [vI q9]) (st := [vI s9]) F (cGetL l G N0 h g ρ i9 q9 (show 0 ≤ i9 ∧ i9 < ρ 39 0 ∧ i9 < 100 from by omega) hI (show 0 ≤ q9 ∧ q9 < ρ 17 i9 from by omega)) cvX3_47 (ci_l hI (show 0 ≤ i9 ∧ i9 < ρ 39 0 ∧ i9 < 100 from by omega)) (fun r9 h9 => by cases h9; rfl) rfl rfl ⟨Nat.le_of_ble_eq_true rfl, Nat.le_of_ble_eq_true rfl⟩ rfl ⟨Nat.le_of_ble_eq_true rfl, Nat.le_of_ble_eq_true rfl⟩ dX3_sumOfMinutes_21 ?_
        rintro _ h9 ⟨rfl, hh9⟩
        rw [hh9]
        clear hh9 h9
        show Z _ _ _ _ _ _ _ _ _ _ _ _ _ _ _ _ _ _ _ _ [vR (aN ρ (40 * i9 + q9)), vI s9]
        refine z_cast F (ci_n hI (show 0 ≤ i9 ∧ i9 < ρ 39 0 ∧ i9 < 8 from by omega) (show 0 ≤ q9 ∧ q9 < ρ 17 i9 ∧ q9 < 40 from by omega)) q707 (fun r9 h9 => by cases h9; rfl) dX3_sumOfMinutes_24 ?_
        refine z_get (v := vI (ρ 20 (40 * i9 + q9))) F (ci_n hI (show 0 ≤ i9 ∧ i9 < ρ 39 0 ∧ i9 < 8 from by omega) (show 0 ≤ q9 ∧ q9 < ρ 17 i9 ∧ q9 < 40 from by omega)) fX3_51 rfl dX3_sumOfMinutes_27 ?_
        refine z_iadd F dX3_sumOfMinutes_30 ?_
        refine z_istore_n (lv' := [(1, vI (s9 + (ρ 20 (40 * i9 + q9)))), (2, vI q9), (0, vR (aI ρ i9))]) F dX3_sumOfMinutes_31 rfl (by decide) rfl ?_
        refine z_iinc (lv' := [(2, vI (q9 + 1)), (1, vI (s9 + (ρ 20 (40 * i9 + q9)))), (0, vR (aI ρ i9))]) F dX3_sumOfMinutes_32 1 rfl (by decide) rfl ?_
        refine z_goto (tgt := 4) F dX3_sumOfMinutes_35 (by decide) ?_
        exact ih4 (s9 + (ρ 20 (40 * i9 + q9))) (q9 + 1)  (by omega) (by rw [lnS_s ρ i9 ha.1]; omega) (by omega)
  exact L4 ((ρ 17 i9 - 0 : Int).toNat + 1) 0 0  (by omega) (rfl) (by omega)
set_option maxRecDepth 100000 in
set_option maxHeartbeats 4000000 in
theorem mX3_sumOfAmounts (l : Launch) (G : GG) (N0 : Nat) (h : Hp) (g : Int → Nat) (ρ : Sg) (i9 : Int) (hI : CI G g ρ h) (hV : MC ρ) (hi : 0 ≤ i9 ∧ i9 < ρ 16 0) : Ct l G N0 yX3_sumOfAmounts (Cond.code yX3_sumOfAmounts cX3_sumOfAmounts 3 (some FieldType.float) :: LW) ({ frames := 3, cells := 0, slots := 0, locals := 140 }) [vR (aI ρ i9)] h (fun r h' => r = some (vF (amS ρ i9 (ρ 17 i9).toNat)) ∧ h' = h) := by
  refine ct_of rfl rfl ?_
  intro p e s m args below meth c F hr hnm
  have F : Fx p s m args meth c RX3 cX3_sumOfAmounts 3 G N0 (cA h s.heap.size) := F
  obtain ⟨v0, v1, v2, v8, v16, v24, v39, vC, vE, vJ, vK, vB, vO⟩ := id hV
  have J9 := vJ i9 hi.1 hi.2
  have hmg := amS_mg (ρ := ρ) (i := i9) (N := (ρ 17 i9).toNat) (by omega) (fun q q0 q1 => (J9.2.2.2.2.2 q q0 (by omega)).2.2)
  obtain ⟨Q, hQ⟩ : ∃ z, z = MQ below (cQc G N0 h s.heap.size (fun r h' => r = some (vF (amS ρ i9 (ρ 17 i9).toNat)) ∧ h' = h)) args s 0 0 (cA h s.heap.size) := ⟨_, rfl⟩
  rw [← hQ]
  show Z _ _ _ _ _ _ _ _ _ _ _ _ _ _ _ _ _ _ _ [(0, vR (aI ρ i9))] []
  refine z_fconst0 F dX3_sumOfAmounts_0 ?_
  refine z_fstore_n (lv' := [(1, vF FP.fconst0), (0, vR (aI ρ i9))]) F dX3_sumOfAmounts_1 rfl (by decide) rfl ?_
  refine z_iconst F dX3_sumOfAmounts_2 ?_
  refine z_istore_n (lv' := [(2, vI 0), (1, vF FP.fconst0), (0, vR (aI ρ i9))]) F dX3_sumOfAmounts_3 rfl (by decide) rfl ?_
  have L4 : ∀ (fuel : Nat) (q9 : Int), (0 ≤ q9 ∧ q9 ≤ ρ 17 i9) → ρ 17 i9 - q9 < (fuel : Int) → Z p l e ({ frames := 3, cells := 0, slots := 0, locals := 140 }) s m args below meth c 3 G N0 (cA h s.heap.size) Q h 0 0 4 [(2, vI q9), (1, vF (amS ρ i9 q9.toNat)), (0, vR (aI ρ i9))] [] := by
    intro fuel
    induction fuel with
    | zero => intro q9  ha hm; exact absurd hm (by omega)
    | succ fuel ih4 =>
      intro q9  ha hm
      refine z_iload_n F dX3_sumOfAmounts_4 rfl 0 rfl ?_
      refine z_aload_n F dX3_sumOfAmounts_5 rfl 2 rfl ?_
      refine z_get (v := vR (aL ρ i9)) F (ci_i hI (show 0 ≤ i9 ∧ i9 < ρ 39 0 ∧ i9 < 100 from by omega)) fX3_10 rfl dX3_sumOfAmounts_6 ?_
      refine z_callV (As := []) (st := [vI q9]) F (mJx4a65c_size_8abf5 l G N0 h (aL ρ i9) ((ρ 49 i9).toNat) 0 (ρ 47 i9) (ρ 17 i9) (fun _ => none) (ci_l hI (show 0 ≤ i9 ∧ i9 < ρ 39 0 ∧ i9 < 100 from by omega))) cvX3_43 (ci_l hI (show 0 ≤ i9 ∧ i9 < ρ 39 0 ∧ i9 < 100 from by omega)) (fun r9 h9 => by cases h9; rfl) rfl rfl ⟨Nat.le_of_ble_eq_true rfl, Nat.le_of_ble_eq_true rfl⟩ rfl ⟨Nat.le_of_ble_eq_true rfl, Nat.le_of_ble_eq_true rfl⟩ dX3_sumOfAmounts_9 ?_
      rintro _ h9 ⟨rfl, hh9⟩
      rw [hh9]
      clear hh9 h9
      show Z _ _ _ _ _ _ _ _ _ _ _ _ _ _ _ _ _ _ _ _ [vI (ρ 17 i9), vI q9]
      refine z_icmp_ge (tgt := 38) F dX3_sumOfAmounts_12 (by decide) (by omega) (by omega) (fun c12 => ?_) (fun c12 => ?_)
      · refine z_fload_n F dX3_sumOfAmounts_38 rfl 1 rfl ?_
        rw [hQ]
        exact z_fret F hr (Nat.le_of_ble_eq_true rfl) (Nat.le_of_ble_eq_true rfl) dX3_sumOfAmounts_39 (⟨by rw [show ρ 17 i9 = q9 by omega], rfl⟩)
      · refine z_fload_n F dX3_sumOfAmounts_15 rfl 1 rfl ?_
        refine z_aload_n F dX3_sumOfAmounts_16 rfl 2 rfl ?_
        refine z_get (v := vR (aL ρ i9)) F (ci_i hI (show 0 ≤ i9 ∧ i9 < ρ 39 0 ∧ i9 < 100 from by omega)) fX3_10 rfl dX3_sumOfAmounts_17 ?_
        refine z_iload_n F dX3_sumOfAmounts_20 rfl 0 rfl ?_
        refine z_callV (As := [vI q9]) (st := [vF (amS ρ i9 q9.toNat)]) F (cGetL l G N0 h g ρ i9 q9 (show 0 ≤ i9 ∧ i9 < ρ 39 0 ∧ i9 < 100 from by omega) hI (show 0 ≤ q9 ∧ q9 < ρ 17 i9 from by omega)) cvX3_47 (ci_l hI (show 0 ≤ i9 ∧ i9 < ρ 39 0 ∧ i9 < 100 from by omega)) (fun r9 h9 => by cases h9; rfl) rfl rfl ⟨Nat.le_of_ble_eq_true rfl, Nat.le_of_ble_eq_true rfl⟩ rfl ⟨Nat.le_of_ble_eq_true rfl, Nat.le_of_ble_eq_true rfl⟩ dX3_sumOfAmounts_21 ?_
        rintro _ h9 ⟨rfl, hh9⟩
        rw [hh9]
        clear hh9 h9
        show Z _ _ _ _ _ _ _ _ _ _ _ _ _ _ _ _ _ _ _ _ [vR (aN ρ (40 * i9 + q9)), vF (amS ρ i9 q9.toNat)]
        refine z_cast F (ci_n hI (show 0 ≤ i9 ∧ i9 < ρ 39 0 ∧ i9 < 8 from by omega) (show 0 ≤ q9 ∧ q9 < ρ 17 i9 ∧ q9 < 40 from by omega)) q707 (fun r9 h9 => by cases h9; rfl) dX3_sumOfAmounts_24 ?_
        refine z_get (v := vF (fb (ρ 22 (40 * i9 + q9)))) F (ci_n hI (show 0 ≤ i9 ∧ i9 < ρ 39 0 ∧ i9 < 8 from by omega) (show 0 ≤ q9 ∧ q9 < ρ 17 i9 ∧ q9 < 40 from by omega)) fX3_52 rfl dX3_sumOfAmounts_27 ?_
        refine z_fadd F dX3_sumOfAmounts_30 (by rw [amS_s ρ i9 ha.1]; exact (hmg (q9 + 1).toNat (by omega)).n (by omega)) ?_
        refine z_fstore_n (lv' := [(1, vF (FP.fadd (amS ρ i9 q9.toNat) (fb (ρ 22 (40 * i9 + q9))))), (2, vI q9), (0, vR (aI ρ i9))]) F dX3_sumOfAmounts_31 rfl (by decide) rfl ?_
        refine z_iinc (lv' := [(2, vI (q9 + 1)), (1, vF (FP.fadd (amS ρ i9 q9.toNat) (fb (ρ 22 (40 * i9 + q9))))), (0, vR (aI ρ i9))]) F dX3_sumOfAmounts_32 1 rfl (by decide) rfl ?_
        refine z_goto (tgt := 4) F dX3_sumOfAmounts_35 (by decide) ?_
        rw [amS_s ρ i9 ha.1]
        exact ih4 (q9 + 1)  (by omega) (by omega)
  exact L4 ((ρ 17 i9 - 0 : Int).toNat + 1) 0  (by omega) (by omega)
set_option maxRecDepth 100000 in
set_option maxHeartbeats 4000000 in
theorem mX8_entriesHold (l : Launch) (G : GG) (N0 : Nat) (h : Hp) (g : Int → Nat) (ρ : Sg) (hI : CI G g ρ h) (hV : MC ρ) : Ct l G N0 yX8_entriesHold (Cond.code yX8_entriesHold cX8_entriesHold 3 (some FieldType.boolean) :: LW) ({ frames := 4, cells := 0, slots := 0, locals := 260 }) [vR (g 0)] h (fun r h' => r = some (vI 1) ∧ h' = h) := by
  refine ct_of rfl rfl ?_
  intro p e s m args below meth c F hr hnm
  have F : Fx p s m args meth c RX8 cX8_entriesHold 3 G N0 (cA h s.heap.size) := F
  obtain ⟨v0, v1, v2, v8, v16, v24, v39, vC, vE, vJ, vK, vB, vO⟩ := id hV
  have c114 := cst_in ρ 114 (ρ 8 0).toNat
  obtain ⟨Q, hQ⟩ : ∃ z, z = MQ below (cQc G N0 h s.heap.size (fun r h' => r = some (vI 1) ∧ h' = h)) args s 0 0 (cA h s.heap.size) := ⟨_, rfl⟩
  rw [← hQ]
  show Z _ _ _ _ _ _ _ _ _ _ _ _ _ _ _ _ _ _ _ [(0, vR (g 0))] []
  refine z_iconst F dX8_entriesHold_0 ?_
  refine z_istore_n (lv' := [(1, vI 0), (0, vR (g 0))]) F dX8_entriesHold_1 rfl (by decide) rfl ?_
  have L2 : ∀ (fuel : Nat) (i9 : Int), (0 ≤ i9 ∧ i9 ≤ ρ 8 0) → ρ 8 0 - i9 < (fuel : Int) → Z p l e ({ frames := 4, cells := 0, slots := 0, locals := 260 }) s m args below meth c 3 G N0 (cA h s.heap.size) Q h 0 0 2 [(1, vI i9), (0, vR (g 0))] [] := by
    intro fuel
    induction fuel with
    | zero => intro i9  ha hm; exact absurd hm (by omega)
    | succ fuel ih2 =>
      intro i9  ha hm
      refine z_iload_n F dX8_entriesHold_2 rfl 0 rfl ?_
      refine z_aload_n F dX8_entriesHold_3 rfl 1 rfl ?_
      refine z_get (v := vR (g 1)) F (ci_0 hI) fX8_10 rfl dX8_entriesHold_4 ?_
      refine z_get (v := vR (g 15)) F (ci_1 hI) fX8_170 rfl dX8_entriesHold_7 ?_
      refine z_callV (As := []) (st := [vI i9]) F (mJx4a65c_size_8abf5 l G N0 h (g 15) ((ρ 40 3).toNat) 0 (ρ 32 3) (ρ 8 0) (fun _ => none) (ci_15 hI)) cvX8_90 (ci_15 hI) (fun r9 h9 => by cases h9; rfl) rfl rfl ⟨Nat.le_of_ble_eq_true rfl, Nat.le_of_ble_eq_true rfl⟩ rfl ⟨Nat.le_of_ble_eq_true rfl, Nat.le_of_ble_eq_true rfl⟩ dX8_entriesHold_10 ?_
      rintro _ h9 ⟨rfl, hh9⟩
      rw [hh9]
      clear hh9 h9
      show Z _ _ _ _ _ _ _ _ _ _ _ _ _ _ _ _ _ _ _ _ [vI (ρ 8 0), vI i9]
      refine z_icmp_ge (tgt := 104) F dX8_entriesHold_13 (by decide) (by omega) (by omega) (fun c13 => ?_) (fun c13 => ?_)
      · refine z_aload_n F dX8_entriesHold_104 rfl 1 rfl ?_
        refine z_get (v := vR (g 1)) F (ci_0 hI) fX8_10 rfl dX8_entriesHold_105 ?_
        refine z_get (v := vI (ρ 0 0)) F (ci_1 hI) fX8_57 rfl dX8_entriesHold_108 ?_
        refine z_sipush F dX8_entriesHold_111 (by decide) ?_
        refine z_icmp_gt (tgt := 147) F dX8_entriesHold_114 (by decide) (by omega) (by decide) (fun c114 => ?_) (fun c114 => ?_)
        · refine z_iconst F dX8_entriesHold_147 ?_
          rw [hQ]
          exact z_iret (nf_z (by omega)) F hr (Nat.le_of_ble_eq_true rfl) (Nat.le_of_ble_eq_true rfl) dX8_entriesHold_148 (⟨rI (by omega), rfl⟩)
        · refine z_aload_n F dX8_entriesHold_117 rfl 1 rfl ?_
          refine z_get (v := vR (g 1)) F (ci_0 hI) fX8_10 rfl dX8_entriesHold_118 ?_
          refine z_get (v := vR (g 15)) F (ci_1 hI) fX8_170 rfl dX8_entriesHold_121 ?_
          refine z_callV (As := []) (st := []) F (mJx4a65c_size_8abf5 l G N0 h (g 15) ((ρ 40 3).toNat) 0 (ρ 32 3) (ρ 8 0) (fun _ => none) (ci_15 hI)) cvX8_90 (ci_15 hI) (fun r9 h9 => by cases h9; rfl) rfl rfl ⟨Nat.le_of_ble_eq_true rfl, Nat.le_of_ble_eq_true rfl⟩ rfl ⟨Nat.le_of_ble_eq_true rfl, Nat.le_of_ble_eq_true rfl⟩ dX8_entriesHold_124 ?_
          rintro _ h9 ⟨rfl, hh9⟩
          rw [hh9]
          clear hh9 h9
          show Z _ _ _ _ _ _ _ _ _ _ _ _ _ _ _ _ _ _ _ _ [vI (ρ 8 0)]
          refine z_bipush F dX8_entriesHold_127 (by decide) ?_
          refine z_icmp_gt (tgt := 147) F dX8_entriesHold_129 (by decide) (by omega) (by decide) (fun c129 => ?_) (fun c129 => ?_)
          · refine z_iconst F dX8_entriesHold_147 ?_
            rw [hQ]
            exact z_iret (nf_z (by omega)) F hr (Nat.le_of_ble_eq_true rfl) (Nat.le_of_ble_eq_true rfl) dX8_entriesHold_148 (⟨rI (by omega), rfl⟩)
          · refine z_aload_n F dX8_entriesHold_132 rfl 1 rfl ?_
            refine z_get (v := vR (g 1)) F (ci_0 hI) fX8_10 rfl dX8_entriesHold_133 ?_
            refine z_callV (As := []) (st := []) F (mX7_runningEntries l G N0 h g ρ hI hV) cvX8_129 (ci_1 hI) (fun r9 h9 => by cases h9; rfl) rfl rfl ⟨Nat.le_of_ble_eq_true rfl, Nat.le_of_ble_eq_true rfl⟩ rfl ⟨Nat.le_of_ble_eq_true rfl, Nat.le_of_ble_eq_true rfl⟩ dX8_entriesHold_136 ?_
            rintro _ h9 ⟨rfl, hh9⟩
            rw [hh9]
            clear hh9 h9
            show Z _ _ _ _ _ _ _ _ _ _ _ _ _ _ _ _ _ _ _ _ [vI (cst ρ 114 (ρ 8 0).toNat)]
            refine z_iconst F dX8_entriesHold_139 ?_
            refine z_icmp_gt (tgt := 147) F dX8_entriesHold_140 (by decide) (by omega) (by decide) (fun c140 => ?_) (fun c140 => ?_)
            · refine z_iconst F dX8_entriesHold_147 ?_
              rw [hQ]
              exact z_iret (nf_z (by omega)) F hr (Nat.le_of_ble_eq_true rfl) (Nat.le_of_ble_eq_true rfl) dX8_entriesHold_148 (⟨rI (by omega), rfl⟩)
            · refine z_iconst F dX8_entriesHold_143 ?_
              refine z_goto (tgt := 148) F dX8_entriesHold_144 (by decide) ?_
              rw [hQ]
              exact z_iret (nf_z (by omega)) F hr (Nat.le_of_ble_eq_true rfl) (Nat.le_of_ble_eq_true rfl) dX8_entriesHold_148 (⟨rI (by omega), rfl⟩)
      · have E9 := vE i9 ha.1 (by omega)
        refine z_aload_n F dX8_entriesHold_16 rfl 1 rfl ?_
        refine z_get (v := vR (g 1)) F (ci_0 hI) fX8_10 rfl dX8_entriesHold_17 ?_
        refine z_get (v := vR (g 15)) F (ci_1 hI) fX8_170 rfl dX8_entriesHold_20 ?_
        refine z_iload_n F dX8_entriesHold_23 rfl 0 rfl ?_
        refine z_callV (As := [vI i9]) (st := []) F (cGet3 l G N0 h g ρ i9 hI (show 0 ≤ i9 ∧ i9 < ρ 8 0 from by omega)) cvX8_373 (ci_15 hI) (fun r9 h9 => by cases h9; rfl) rfl rfl ⟨Nat.le_of_ble_eq_true rfl, Nat.le_of_ble_eq_true rfl⟩ rfl ⟨Nat.le_of_ble_eq_true rfl, Nat.le_of_ble_eq_true rfl⟩ dX8_entriesHold_24 ?_
        rintro _ h9 ⟨rfl, hh9⟩
        rw [hh9]
        clear hh9 h9
        show Z _ _ _ _ _ _ _ _ _ _ _ _ _ _ _ _ _ _ _ _ [vR (aE ρ i9)]
        refine z_cast F (ci_e hI (show 0 ≤ i9 ∧ i9 < ρ 8 0 ∧ i9 < 100 from by omega)) q237 (fun r9 h9 => by cases h9; rfl) dX8_entriesHold_27 ?_
        refine z_astore_n (lv' := [(2, vR (aE ρ i9)), (1, vI i9), (0, vR (g 0))]) F dX8_entriesHold_30 rfl (by decide) rfl ?_
        refine z_aload_n F dX8_entriesHold_31 rfl 0 rfl ?_
        refine z_get (v := vI i9) F (ci_e hI (show 0 ≤ i9 ∧ i9 < ρ 8 0 ∧ i9 < 100 from by omega)) fX8_187 rfl dX8_entriesHold_32 ?_
        refine z_iload_n F dX8_entriesHold_35 rfl 1 rfl ?_
        refine z_icmp_ne (tgt := 71) F dX8_entriesHold_36 (by decide) (by omega) (by omega) (fun c36 => ?_) (fun c36 => ?_)
        · refine z_iconst F dX8_entriesHold_71 ?_
          rw [hQ]
          exact z_iret (nf_z (by omega)) F hr (Nat.le_of_ble_eq_true rfl) (Nat.le_of_ble_eq_true rfl) dX8_entriesHold_72 (⟨rI (by omega), rfl⟩)
        · refine z_aload_n F dX8_entriesHold_39 rfl 0 rfl ?_
          refine z_get (v := vI (ρ 10 i9)) F (ci_e hI (show 0 ≤ i9 ∧ i9 < ρ 8 0 ∧ i9 < 100 from by omega)) fX8_152 rfl dX8_entriesHold_40 ?_
          refine z_if_lt (tgt := 71) F dX8_entriesHold_43 (by decide) (by omega) (fun c43 => ?_) (fun c43 => ?_)
          · refine z_iconst F dX8_entriesHold_71 ?_
            rw [hQ]
            exact z_iret (nf_z (by omega)) F hr (Nat.le_of_ble_eq_true rfl) (Nat.le_of_ble_eq_true rfl) dX8_entriesHold_72 (⟨rI (by omega), rfl⟩)
          · refine z_aload_n F dX8_entriesHold_46 rfl 0 rfl ?_
            refine z_get (v := vI (ρ 11 i9)) F (ci_e hI (show 0 ≤ i9 ∧ i9 < ρ 8 0 ∧ i9 < 100 from by omega)) fX8_149 rfl dX8_entriesHold_47 ?_
            refine z_aload_n F dX8_entriesHold_50 rfl 0 rfl ?_
            refine z_get (v := vI (ρ 10 i9)) F (ci_e hI (show 0 ≤ i9 ∧ i9 < ρ 8 0 ∧ i9 < 100 from by omega)) fX8_152 rfl dX8_entriesHold_51 ?_
            refine z_icmp_lt (tgt := 71) F dX8_entriesHold_54 (by decide) (by omega) (by omega) (fun c54 => ?_) (fun c54 => ?_)
            · refine z_iconst F dX8_entriesHold_71 ?_
              rw [hQ]
              exact z_iret (nf_z (by omega)) F hr (Nat.le_of_ble_eq_true rfl) (Nat.le_of_ble_eq_true rfl) dX8_entriesHold_72 (⟨rI (by omega), rfl⟩)
            · refine z_aload_n F dX8_entriesHold_57 rfl 0 rfl ?_
              refine z_get (v := vI (ρ 11 i9)) F (ci_e hI (show 0 ≤ i9 ∧ i9 < ρ 8 0 ∧ i9 < 100 from by omega)) fX8_149 rfl dX8_entriesHold_58 ?_
              refine z_aload_n F dX8_entriesHold_61 rfl 2 rfl ?_
              refine z_get (v := vR (g 1)) F (ci_0 hI) fX8_10 rfl dX8_entriesHold_62 ?_
              refine z_get (v := vI (ρ 0 0)) F (ci_1 hI) fX8_57 rfl dX8_entriesHold_65 ?_
              refine z_icmp_le (tgt := 73) F dX8_entriesHold_68 (by decide) (by omega) (by omega) (fun c68 => ?_) (fun c68 => ?_)
              · refine z_aload_n F dX8_entriesHold_73 rfl 0 rfl ?_
                refine z_get (v := vI (ρ 12 i9)) F (ci_e hI (show 0 ≤ i9 ∧ i9 < ρ 8 0 ∧ i9 < 100 from by omega)) fX8_142 rfl dX8_entriesHold_74 ?_
                refine z_bipush F dX8_entriesHold_77 (by decide) ?_
                refine z_icmp_ne (tgt := 98) F dX8_entriesHold_79 (by decide) (by omega) (by decide) (fun c79 => ?_) (fun c79 => ?_)
                · refine z_iinc (lv' := [(1, vI (i9 + 1)), (2, vR (aE ρ i9)), (0, vR (g 0))]) F dX8_entriesHold_98 1 rfl (by decide) rfl ?_
                  refine z_goto (tgt := 2) F dX8_entriesHold_101 (by decide) ?_
                  refine z_pick (lv' := [(1, vI (i9 + 1)), (0, vR (g 0))]) [0, 2] rfl ?_
                  exact ih2 (i9 + 1)  (by omega) (by omega)
                · refine z_aload_n F dX8_entriesHold_82 rfl 0 rfl ?_
                  refine z_get (v := vI (ρ 11 i9)) F (ci_e hI (show 0 ≤ i9 ∧ i9 < ρ 8 0 ∧ i9 < 100 from by omega)) fX8_149 rfl dX8_entriesHold_83 ?_
                  refine z_aload_n F dX8_entriesHold_86 rfl 2 rfl ?_
                  refine z_get (v := vR (g 1)) F (ci_0 hI) fX8_10 rfl dX8_entriesHold_87 ?_
                  refine z_get (v := vI (ρ 0 0)) F (ci_1 hI) fX8_57 rfl dX8_entriesHold_90 ?_
                  refine z_icmp_eq (tgt := 98) F dX8_entriesHold_93 (by decide) (by omega) (by omega) (fun c93 => ?_) (fun c93 => ?_)
                  · refine z_iinc (lv' := [(1, vI (i9 + 1)), (2, vR (aE ρ i9)), (0, vR (g 0))]) F dX8_entriesHold_98 1 rfl (by decide) rfl ?_
                    refine z_goto (tgt := 2) F dX8_entriesHold_101 (by decide) ?_
                    refine z_pick (lv' := [(1, vI (i9 + 1)), (0, vR (g 0))]) [0, 2] rfl ?_
                    exact ih2 (i9 + 1)  (by omega) (by omega)
                  · refine z_iconst F dX8_entriesHold_96 ?_
                    rw [hQ]
                    exact z_iret (nf_z (by omega)) F hr (Nat.le_of_ble_eq_true rfl) (Nat.le_of_ble_eq_true rfl) dX8_entriesHold_97 (⟨rI (by omega), rfl⟩)
              · refine z_iconst F dX8_entriesHold_71 ?_
                rw [hQ]
                exact z_iret (nf_z (by omega)) F hr (Nat.le_of_ble_eq_true rfl) (Nat.le_of_ble_eq_true rfl) dX8_entriesHold_72 (⟨rI (by omega), rfl⟩)
  exact L2 ((ρ 8 0 - 0 : Int).toNat + 1) 0  (by omega) (by omega)
set_option maxRecDepth 100000 in
set_option maxHeartbeats 4000000 in
theorem mX8_correctionsHold (l : Launch) (G : GG) (N0 : Nat) (h : Hp) (g : Int → Nat) (ρ : Sg) (hI : CI G g ρ h) (hV : MC ρ) : Ct l G N0 yX8_correctionsHold (Cond.code yX8_correctionsHold cX8_correctionsHold 2 (some FieldType.boolean) :: LW) ({ frames := 3, cells := 0, slots := 0, locals := 140 }) [vR (g 0)] h (fun r h' => r = some (vI 1) ∧ h' = h) := by
  refine ct_of rfl rfl ?_
  intro p e s m args below meth c F hr hnm
  have F : Fx p s m args meth c RX8 cX8_correctionsHold 2 G N0 (cA h s.heap.size) := F
  obtain ⟨v0, v1, v2, v8, v16, v24, v39, vC, vE, vJ, vK, vB, vO⟩ := id hV
  obtain ⟨Q, hQ⟩ : ∃ z, z = MQ below (cQc G N0 h s.heap.size (fun r h' => r = some (vI 1) ∧ h' = h)) args s 0 0 (cA h s.heap.size) := ⟨_, rfl⟩
  rw [← hQ]
  show Z _ _ _ _ _ _ _ _ _ _ _ _ _ _ _ _ _ _ _ [(0, vR (g 0))] []
  refine z_iconst F dX8_correctionsHold_0 ?_
  refine z_istore_n (lv' := [(1, vI 0), (0, vR (g 0))]) F dX8_correctionsHold_1 rfl (by decide) rfl ?_
  have L2 : ∀ (fuel : Nat) (i9 : Int), (0 ≤ i9 ∧ i9 ≤ ρ 24 0) → ρ 24 0 - i9 < (fuel : Int) → Z p l e ({ frames := 3, cells := 0, slots := 0, locals := 140 }) s m args below meth c 2 G N0 (cA h s.heap.size) Q h 0 0 2 [(1, vI i9), (0, vR (g 0))] [] := by
    intro fuel
    induction fuel with
    | zero => intro i9  ha hm; exact absurd hm (by omega)
    | succ fuel ih2 =>
      intro i9  ha hm
      refine z_iload_n F dX8_correctionsHold_2 rfl 0 rfl ?_
      refine z_aload_n F dX8_correctionsHold_3 rfl 1 rfl ?_
      refine z_get (v := vR (g 11)) F (ci_0 hI) fX8_47 rfl dX8_correctionsHold_4 ?_
      refine z_callV (As := []) (st := [vI i9]) F (mJx4a65c_size_8abf5 l G N0 h (g 11) ((ρ 40 2).toNat) 0 (ρ 32 2) (ρ 24 0) (fun _ => none) (ci_11 hI)) cvX8_90 (ci_11 hI) (fun r9 h9 => by cases h9; rfl) rfl rfl ⟨Nat.le_of_ble_eq_true rfl, Nat.le_of_ble_eq_true rfl⟩ rfl ⟨Nat.le_of_ble_eq_true rfl, Nat.le_of_ble_eq_true rfl⟩ dX8_correctionsHold_7 ?_
      rintro _ h9 ⟨rfl, hh9⟩
      rw [hh9]
      clear hh9 h9
      show Z _ _ _ _ _ _ _ _ _ _ _ _ _ _ _ _ _ _ _ _ [vI (ρ 24 0), vI i9]
      refine z_icmp_ge (tgt := 43) F dX8_correctionsHold_10 (by decide) (by omega) (by omega) (fun c10 => ?_) (fun c10 => ?_)
      · refine z_aload_n F dX8_correctionsHold_43 rfl 1 rfl ?_
        refine z_get (v := vR (g 11)) F (ci_0 hI) fX8_47 rfl dX8_correctionsHold_44 ?_
        refine z_callV (As := []) (st := []) F (mJx4a65c_size_8abf5 l G N0 h (g 11) ((ρ 40 2).toNat) 0 (ρ 32 2) (ρ 24 0) (fun _ => none) (ci_11 hI)) cvX8_90 (ci_11 hI) (fun r9 h9 => by cases h9; rfl) rfl rfl ⟨Nat.le_of_ble_eq_true rfl, Nat.le_of_ble_eq_true rfl⟩ rfl ⟨Nat.le_of_ble_eq_true rfl, Nat.le_of_ble_eq_true rfl⟩ dX8_correctionsHold_47 ?_
        rintro _ h9 ⟨rfl, hh9⟩
        rw [hh9]
        clear hh9 h9
        show Z _ _ _ _ _ _ _ _ _ _ _ _ _ _ _ _ _ _ _ _ [vI (ρ 24 0)]
        refine z_bipush F dX8_correctionsHold_50 (by decide) ?_
        refine z_icmp_gt (tgt := 59) F dX8_correctionsHold_52 (by decide) (by omega) (by decide) (fun c52 => ?_) (fun c52 => ?_)
        · refine z_iconst F dX8_correctionsHold_59 ?_
          rw [hQ]
          exact z_iret (nf_z (by omega)) F hr (Nat.le_of_ble_eq_true rfl) (Nat.le_of_ble_eq_true rfl) dX8_correctionsHold_60 (⟨rI (by omega), rfl⟩)
        · refine z_iconst F dX8_correctionsHold_55 ?_
          refine z_goto (tgt := 60) F dX8_correctionsHold_56 (by decide) ?_
          rw [hQ]
          exact z_iret (nf_z (by omega)) F hr (Nat.le_of_ble_eq_true rfl) (Nat.le_of_ble_eq_true rfl) dX8_correctionsHold_60 (⟨rI (by omega), rfl⟩)
      · have K9 := vK i9 ha.1 (by omega)
        refine z_aload_n F dX8_correctionsHold_13 rfl 1 rfl ?_
        refine z_get (v := vR (g 11)) F (ci_0 hI) fX8_47 rfl dX8_correctionsHold_14 ?_
        refine z_iload_n F dX8_correctionsHold_17 rfl 0 rfl ?_
        refine z_callV (As := [vI i9]) (st := []) F (cGet2 l G N0 h g ρ i9 hI (show 0 ≤ i9 ∧ i9 < ρ 24 0 from by omega)) cvX8_373 (ci_11 hI) (fun r9 h9 => by cases h9; rfl) rfl rfl ⟨Nat.le_of_ble_eq_true rfl, Nat.le_of_ble_eq_true rfl⟩ rfl ⟨Nat.le_of_ble_eq_true rfl, Nat.le_of_ble_eq_true rfl⟩ dX8_correctionsHold_18 ?_
        rintro _ h9 ⟨rfl, hh9⟩
        rw [hh9]
        clear hh9 h9
        show Z _ _ _ _ _ _ _ _ _ _ _ _ _ _ _ _ _ _ _ _ [vR (aK ρ i9)]
        refine z_cast F (ci_k hI (show 0 ≤ i9 ∧ i9 < ρ 24 0 ∧ i9 < 100 from by omega)) q695 (fun r9 h9 => by cases h9; rfl) dX8_correctionsHold_21 ?_
        refine z_get (v := vR (aE ρ (ρ 25 i9))) F (ci_k hI (show 0 ≤ i9 ∧ i9 < ρ 24 0 ∧ i9 < 100 from by omega)) fX8_422 rfl dX8_correctionsHold_24 ?_
        refine z_get (v := vI (ρ 12 (ρ 25 i9))) F (ci_e hI (show 0 ≤ ρ 25 i9 ∧ ρ 25 i9 < ρ 8 0 ∧ ρ 25 i9 < 100 from by omega)) fX8_142 rfl dX8_correctionsHold_27 ?_
        refine z_bipush F dX8_correctionsHold_30 (by decide) ?_
        refine z_icmp_eq (tgt := 37) F dX8_correctionsHold_32 (by decide) (by omega) (by decide) (fun c32 => ?_) (fun c32 => ?_)
        · refine z_iinc (lv' := [(1, vI (i9 + 1)), (0, vR (g 0))]) F dX8_correctionsHold_37 0 rfl (by decide) rfl ?_
          refine z_goto (tgt := 2) F dX8_correctionsHold_40 (by decide) ?_
          exact ih2 (i9 + 1)  (by omega) (by omega)
        · refine z_iconst F dX8_correctionsHold_35 ?_
          rw [hQ]
          exact z_iret (nf_z (by omega)) F hr (Nat.le_of_ble_eq_true rfl) (Nat.le_of_ble_eq_true rfl) dX8_correctionsHold_36 (⟨rI (by omega), rfl⟩)
  exact L2 ((ρ 24 0 - 0 : Int).toNat + 1) 0  (by omega) (by omega)
set_option maxRecDepth 100000 in
set_option maxHeartbeats 4000000 in
theorem mX8_invoicesHold (l : Launch) (G : GG) (N0 : Nat) (h : Hp) (g : Int → Nat) (ρ : Sg) (hI : CI G g ρ h) (hV : MC ρ) : Ct l G N0 yX8_invoicesHold (Cond.code yX8_invoicesHold cX8_invoicesHold 3 (some FieldType.boolean) :: LW) ({ frames := 4, cells := 0, slots := 0, locals := 260 }) [vR (g 0)] h (fun r h' => r = some (vI 1) ∧ h' = h) := by
  refine ct_of rfl rfl ?_
  intro p e s m args below meth c F hr hnm
  have F : Fx p s m args meth c RX8 cX8_invoicesHold 3 G N0 (cA h s.heap.size) := F
  obtain ⟨v0, v1, v2, v8, v16, v24, v39, vC, vE, vJ, vK, vB, vO⟩ := id hV
  obtain ⟨Q, hQ⟩ : ∃ z, z = MQ below (cQc G N0 h s.heap.size (fun r h' => r = some (vI 1) ∧ h' = h)) args s 0 0 (cA h s.heap.size) := ⟨_, rfl⟩
  rw [← hQ]
  show Z _ _ _ _ _ _ _ _ _ _ _ _ _ _ _ _ _ _ _ [(0, vR (g 0))] []
  refine z_iconst F dX8_invoicesHold_0 ?_
  refine z_istore_n (lv' := [(1, vI 0), (0, vR (g 0))]) F dX8_invoicesHold_1 rfl (by decide) rfl ?_
  have L2 : ∀ (fuel : Nat) (i9 : Int), (0 ≤ i9 ∧ i9 ≤ ρ 16 0) → ρ 16 0 - i9 < (fuel : Int) → Z p l e ({ frames := 4, cells := 0, slots := 0, locals := 260 }) s m args below meth c 3 G N0 (cA h s.heap.size) Q h 0 0 2 [(1, vI i9), (0, vR (g 0))] [] := by
    intro fuel
    induction fuel with
    | zero => intro i9  ha hm; exact absurd hm (by omega)
    | succ fuel ih2 =>
      intro i9  ha hm
      refine z_iload_n F dX8_invoicesHold_2 rfl 0 rfl ?_
      refine z_aload_n F dX8_invoicesHold_3 rfl 1 rfl ?_
      refine z_get (v := vR (g 9)) F (ci_0 hI) fX8_44 rfl dX8_invoicesHold_4 ?_
      refine z_callV (As := []) (st := [vI i9]) F (mJx4a65c_size_8abf5 l G N0 h (g 9) ((ρ 40 1).toNat) 0 (ρ 32 1) (ρ 16 0) (fun _ => none) (ci_9 hI)) cvX8_90 (ci_9 hI) (fun r9 h9 => by cases h9; rfl) rfl rfl ⟨Nat.le_of_ble_eq_true rfl, Nat.le_of_ble_eq_true rfl⟩ rfl ⟨Nat.le_of_ble_eq_true rfl, Nat.le_of_ble_eq_true rfl⟩ dX8_invoicesHold_7 ?_
      rintro _ h9 ⟨rfl, hh9⟩
      rw [hh9]
      clear hh9 h9
      show Z _ _ _ _ _ _ _ _ _ _ _ _ _ _ _ _ _ _ _ _ [vI (ρ 16 0), vI i9]
      refine z_icmp_ge (tgt := 56) F dX8_invoicesHold_10 (by decide) (by omega) (by omega) (fun c10 => ?_) (fun c10 => ?_)
      · refine z_aload_n F dX8_invoicesHold_56 rfl 1 rfl ?_
        refine z_get (v := vR (g 9)) F (ci_0 hI) fX8_44 rfl dX8_invoicesHold_57 ?_
        refine z_callV (As := []) (st := []) F (mJx4a65c_size_8abf5 l G N0 h (g 9) ((ρ 40 1).toNat) 0 (ρ 32 1) (ρ 16 0) (fun _ => none) (ci_9 hI)) cvX8_90 (ci_9 hI) (fun r9 h9 => by cases h9; rfl) rfl rfl ⟨Nat.le_of_ble_eq_true rfl, Nat.le_of_ble_eq_true rfl⟩ rfl ⟨Nat.le_of_ble_eq_true rfl, Nat.le_of_ble_eq_true rfl⟩ dX8_invoicesHold_60 ?_
        rintro _ h9 ⟨rfl, hh9⟩
        rw [hh9]
        clear hh9 h9
        show Z _ _ _ _ _ _ _ _ _ _ _ _ _ _ _ _ _ _ _ _ [vI (ρ 16 0)]
        refine z_bipush F dX8_invoicesHold_63 (by decide) ?_
        refine z_icmp_gt (tgt := 72) F dX8_invoicesHold_65 (by decide) (by omega) (by decide) (fun c65 => ?_) (fun c65 => ?_)
        · refine z_iconst F dX8_invoicesHold_72 ?_
          rw [hQ]
          exact z_iret (nf_z (by omega)) F hr (Nat.le_of_ble_eq_true rfl) (Nat.le_of_ble_eq_true rfl) dX8_invoicesHold_73 (⟨rI (by omega), rfl⟩)
        · refine z_iconst F dX8_invoicesHold_68 ?_
          refine z_goto (tgt := 73) F dX8_invoicesHold_69 (by decide) ?_
          rw [hQ]
          exact z_iret (nf_z (by omega)) F hr (Nat.le_of_ble_eq_true rfl) (Nat.le_of_ble_eq_true rfl) dX8_invoicesHold_73 (⟨rI (by omega), rfl⟩)
      · have J9 := vJ i9 ha.1 (by omega)
        have hl9 := lnS_in (σ := ρ) (i := i9) (N := (ρ 17 i9).toNat) (fun q q1 q2 => (J9.2.2.2.2.2 q q1 (by omega)).1) (ρ 17 i9).toNat (Nat.le_refl _)
        have hz9 : (Op.cmpValue (FP.fcmp (amS ρ i9 (ρ 17 i9).toNat) (fb (ρ 23 i9))) .l).toInt = 0 := by
          have n := J9.2.2.2.2.1
          rw [J9.2.2.2.1]
          rw [J9.2.2.2.1] at n
          refine nan_f ?_
          rcases n with z | z
          · rw [z]; decide
          · omega
        refine z_aload_n F dX8_invoicesHold_13 rfl 1 rfl ?_
        refine z_get (v := vR (g 9)) F (ci_0 hI) fX8_44 rfl dX8_invoicesHold_14 ?_
        refine z_iload_n F dX8_invoicesHold_17 rfl 0 rfl ?_
        refine z_callV (As := [vI i9]) (st := []) F (cGet1 l G N0 h g ρ i9 hI (show 0 ≤ i9 ∧ i9 < ρ 16 0 from by omega)) cvX8_373 (ci_9 hI) (fun r9 h9 => by cases h9; rfl) rfl rfl ⟨Nat.le_of_ble_eq_true rfl, Nat.le_of_ble_eq_true rfl⟩ rfl ⟨Nat.le_of_ble_eq_true rfl, Nat.le_of_ble_eq_true rfl⟩ dX8_invoicesHold_18 ?_
        rintro _ h9 ⟨rfl, hh9⟩
        rw [hh9]
        clear hh9 h9
        show Z _ _ _ _ _ _ _ _ _ _ _ _ _ _ _ _ _ _ _ _ [vR (aI ρ i9)]
        refine z_cast F (ci_i hI (show 0 ≤ i9 ∧ i9 < ρ 39 0 ∧ i9 < 100 from by omega)) q700 (fun r9 h9 => by cases h9; rfl) dX8_invoicesHold_21 ?_
        refine z_astore_n (lv' := [(2, vR (aI ρ i9)), (1, vI i9), (0, vR (g 0))]) F dX8_invoicesHold_24 rfl (by decide) rfl ?_
        refine z_aload_n F dX8_invoicesHold_25 rfl 0 rfl ?_
        refine z_callV (As := []) (st := []) F (mX3_sumOfAmounts l G N0 h g ρ i9 hI hV (show 0 ≤ i9 ∧ i9 < ρ 16 0 from by omega)) cvX8_431 (ci_i hI (show 0 ≤ i9 ∧ i9 < ρ 39 0 ∧ i9 < 100 from by omega)) (fun r9 h9 => by cases h9; rfl) rfl rfl ⟨Nat.le_of_ble_eq_true rfl, Nat.le_of_ble_eq_true rfl⟩ rfl ⟨Nat.le_of_ble_eq_true rfl, Nat.le_of_ble_eq_true rfl⟩ dX8_invoicesHold_26 ?_
        rintro _ h9 ⟨rfl, hh9⟩
        rw [hh9]
        clear hh9 h9
        show Z _ _ _ _ _ _ _ _ _ _ _ _ _ _ _ _ _ _ _ _ [vF (amS ρ i9 (ρ 17 i9).toNat)]
        refine z_aload_n F dX8_invoicesHold_29 rfl 0 rfl ?_
        refine z_get (v := vF (fb (ρ 23 i9))) F (ci_i hI (show 0 ≤ i9 ∧ i9 < ρ 39 0 ∧ i9 < 100 from by omega)) fX8_308 rfl dX8_invoicesHold_30 ?_
        refine z_fcmp (op := .l) F dX8_invoicesHold_33 ?_
        refine z_if_ne (tgt := 48) F dX8_invoicesHold_34 (by decide) (iI_rng _) (fun c34 => ?_) (fun c34 => ?_)
        · refine z_iconst F dX8_invoicesHold_48 ?_
          rw [hQ]
          exact z_iret (nf_z (by omega)) F hr (Nat.le_of_ble_eq_true rfl) (Nat.le_of_ble_eq_true rfl) dX8_invoicesHold_49 (⟨rI (by omega), rfl⟩)
        · refine z_aload_n F dX8_invoicesHold_37 rfl 0 rfl ?_
          refine z_callV (As := []) (st := []) F (mX3_sumOfMinutes l G N0 h g ρ i9 hI hV (show 0 ≤ i9 ∧ i9 < ρ 16 0 from by omega)) cvX8_435 (ci_i hI (show 0 ≤ i9 ∧ i9 < ρ 39 0 ∧ i9 < 100 from by omega)) (fun r9 h9 => by cases h9; rfl) rfl rfl ⟨Nat.le_of_ble_eq_true rfl, Nat.le_of_ble_eq_true rfl⟩ rfl ⟨Nat.le_of_ble_eq_true rfl, Nat.le_of_ble_eq_true rfl⟩ dX8_invoicesHold_38 ?_
          rintro _ h9 ⟨rfl, hh9⟩
          rw [hh9]
          clear hh9 h9
          show Z _ _ _ _ _ _ _ _ _ _ _ _ _ _ _ _ _ _ _ _ [vI (lnS ρ i9 (ρ 17 i9).toNat)]
          refine z_aload_n F dX8_invoicesHold_41 rfl 0 rfl ?_
          refine z_get (v := vI (ρ 31 i9)) F (ci_i hI (show 0 ≤ i9 ∧ i9 < ρ 39 0 ∧ i9 < 100 from by omega)) fX8_430 rfl dX8_invoicesHold_42 ?_
          refine z_icmp_eq (tgt := 50) F dX8_invoicesHold_45 (by decide) (by omega) (by omega) (fun c45 => ?_) (fun c45 => ?_)
          · refine z_iinc (lv' := [(1, vI (i9 + 1)), (2, vR (aI ρ i9)), (0, vR (g 0))]) F dX8_invoicesHold_50 1 rfl (by decide) rfl ?_
            refine z_goto (tgt := 2) F dX8_invoicesHold_53 (by decide) ?_
            refine z_pick (lv' := [(1, vI (i9 + 1)), (0, vR (g 0))]) [0, 2] rfl ?_
            exact ih2 (i9 + 1)  (by omega) (by omega)
          · refine z_iconst F dX8_invoicesHold_48 ?_
            rw [hQ]
            exact z_iret (nf_z (by omega)) F hr (Nat.le_of_ble_eq_true rfl) (Nat.le_of_ble_eq_true rfl) dX8_invoicesHold_49 (⟨rI (by omega), rfl⟩)
  exact L2 ((ρ 16 0 - 0 : Int).toNat + 1) 0  (by omega) (by omega)
set_option maxRecDepth 100000 in
set_option maxHeartbeats 4000000 in
theorem mX8_clientsHold (l : Launch) (G : GG) (N0 : Nat) (h : Hp) (g : Int → Nat) (ρ : Sg) (hI : CI G g ρ h) (hV : MC ρ) : Ct l G N0 yX8_clientsHold (Cond.code yX8_clientsHold cX8_clientsHold 3 (some FieldType.boolean) :: LW) ({ frames := 8, cells := 120, slots := 12000, locals := 500 }) [vR (g 0)] h (fun r h' => r = some (vI 1) ∧ ∃ a, CI G g (mx ρ a) h') := by
  refine ct_of rfl rfl ?_
  intro p e s m args below meth c F hr hnm
  have F : Fx p s m args meth c RX8 cX8_clientsHold 3 G N0 (cA h s.heap.size) := F
  obtain ⟨v0, v1, v2, v8, v16, v24, v39, vC, vE, vJ, vK, vB, vO⟩ := id hV
  obtain ⟨Q, hQ⟩ : ∃ z, z = MQ below (cQc G N0 h s.heap.size (fun r h' => r = some (vI 1) ∧ ∃ a, CI G g (mx ρ a) h')) args s 120 12000 (cA h s.heap.size) := ⟨_, rfl⟩
  rw [← hQ]
  show Z _ _ _ _ _ _ _ _ _ _ _ _ _ _ _ _ _ _ _ [(0, vR (g 0))] []
  refine z_iconst F dX8_clientsHold_0 ?_
  refine z_istore_n (lv' := [(1, vI 0), (0, vR (g 0))]) F dX8_clientsHold_1 rfl (by decide) rfl ?_
  refine z_widen (k' := 24 * (0 : Int).toNat) (n' := 2400 * (0 : Int).toNat) (by (try simp only []); omega) (by (try simp only []); omega) ?_
  have L2 : ∀ (fuel : Nat) (i9 : Int) (h8 : Hp) (a9 : Sg), (CI G g (mx ρ a9) h8) → (0 ≤ i9 ∧ i9 ≤ ρ 2 0) → ρ 2 0 - i9 < (fuel : Int) → Z p l e ({ frames := 8, cells := 120, slots := 12000, locals := 500 }) s m args below meth c 3 G N0 (cA h s.heap.size) Q h8 (24 * i9.toNat) (2400 * i9.toNat) 2 [(1, vI i9), (0, vR (g 0))] [] := by
    intro fuel
    induction fuel with
    | zero => intro i9 h8  a9  hI8 ha hm; exact absurd hm (by omega)
    | succ fuel ih2 =>
      intro i9 h8  a9  hI8 ha hm
      refine z_iload_n F dX8_clientsHold_2 rfl 0 rfl ?_
      refine z_aload_n F dX8_clientsHold_3 rfl 1 rfl ?_
      refine z_get (v := vR (g 7)) F (ci_0 (ρ := (mx ρ a9)) hI8) fX8_40 rfl dX8_clientsHold_4 ?_
      refine z_callV (As := []) (st := [vI i9]) F (mJx4a65c_size_8abf5 l G N0 h8 (g 7) ((a9 40 0).toNat) 0 (a9 32 0) (ρ 2 0) (fun _ => none) (ci_7 (ρ := (mx ρ a9)) hI8)) cvX8_90 (ci_7 (ρ := (mx ρ a9)) hI8) (fun r9 h9 => by cases h9; rfl) rfl rfl ⟨Nat.le_of_ble_eq_true rfl, Nat.le_of_ble_eq_true rfl⟩ rfl ⟨by (try simp only []); omega, by (try simp only []); omega⟩ dX8_clientsHold_7 ?_
      rintro _ h9 ⟨rfl, hh9⟩
      rw [hh9]
      clear hh9 h9
      show Z _ _ _ _ _ _ _ _ _ _ _ _ _ _ _ _ _ _ _ _ [vI (ρ 2 0), vI i9]
      refine z_icmp_ge (tgt := 69) F dX8_clientsHold_10 (by decide) (by omega) (by omega) (fun c10 => ?_) (fun c10 => ?_)
      · refine z_aload_n F dX8_clientsHold_69 rfl 1 rfl ?_
        refine z_get (v := vR (g 7)) F (ci_0 (ρ := (mx ρ a9)) hI8) fX8_40 rfl dX8_clientsHold_70 ?_
        refine z_callV (As := []) (st := []) F (mJx4a65c_size_8abf5 l G N0 h8 (g 7) ((a9 40 0).toNat) 0 (a9 32 0) (ρ 2 0) (fun _ => none) (ci_7 (ρ := (mx ρ a9)) hI8)) cvX8_90 (ci_7 (ρ := (mx ρ a9)) hI8) (fun r9 h9 => by cases h9; rfl) rfl rfl ⟨Nat.le_of_ble_eq_true rfl, Nat.le_of_ble_eq_true rfl⟩ rfl ⟨by (try simp only []); omega, by (try simp only []); omega⟩ dX8_clientsHold_73 ?_
        rintro _ h9 ⟨rfl, hh9⟩
        rw [hh9]
        clear hh9 h9
        show Z _ _ _ _ _ _ _ _ _ _ _ _ _ _ _ _ _ _ _ _ [vI (ρ 2 0)]
        refine z_iconst F dX8_clientsHold_76 ?_
        refine z_icmp_gt (tgt := 84) F dX8_clientsHold_77 (by decide) (by omega) (by decide) (fun c77 => ?_) (fun c77 => ?_)
        · refine z_iconst F dX8_clientsHold_84 ?_
          rw [hQ]
          exact z_iret (nf_z (by omega)) F hr (by (try simp only []); omega) (by (try simp only []); omega) dX8_clientsHold_85 (⟨rI (by omega), a9, hI8⟩)
        · refine z_iconst F dX8_clientsHold_80 ?_
          refine z_goto (tgt := 85) F dX8_clientsHold_81 (by decide) ?_
          rw [hQ]
          exact z_iret (nf_z (by omega)) F hr (by (try simp only []); omega) (by (try simp only []); omega) dX8_clientsHold_85 (⟨rI (by omega), a9, hI8⟩)
      · refine z_aload_n F dX8_clientsHold_13 rfl 1 rfl ?_
        refine z_get (v := vR (g 7)) F (ci_0 (ρ := (mx ρ a9)) hI8) fX8_40 rfl dX8_clientsHold_14 ?_
        refine z_iload_n F dX8_clientsHold_17 rfl 0 rfl ?_
        refine z_callV (As := [vI i9]) (st := []) F (cGet0 l G N0 h8 g (mx ρ a9) i9 hI8 (show 0 ≤ i9 ∧ i9 < ρ 2 0 from by omega)) cvX8_373 (ci_7 (ρ := (mx ρ a9)) hI8) (fun r9 h9 => by cases h9; rfl) rfl rfl ⟨Nat.le_of_ble_eq_true rfl, Nat.le_of_ble_eq_true rfl⟩ rfl ⟨by (try simp only []); omega, by (try simp only []); omega⟩ dX8_clientsHold_18 ?_
        rintro _ h9 ⟨rfl, hh9⟩
        rw [hh9]
        clear hh9 h9
        show Z _ _ _ _ _ _ _ _ _ _ _ _ _ _ _ _ _ _ _ _ [vR (aC ρ i9)]
        refine z_cast F (ci_c (ρ := (mx ρ a9)) hI8 (show 0 ≤ i9 ∧ i9 < ρ 2 0 ∧ i9 < 100 from by omega)) q249 (fun r9 h9 => by cases h9; rfl) dX8_clientsHold_21 ?_
        refine z_astore_n (lv' := [(2, vR (aC ρ i9)), (1, vI i9), (0, vR (g 0))]) F dX8_clientsHold_24 rfl (by decide) rfl ?_
        refine z_aload_n F dX8_clientsHold_25 rfl 2 rfl ?_
        refine z_get (v := vR (g 6)) F (ci_0 (ρ := (mx ρ a9)) hI8) fX8_33 rfl dX8_clientsHold_26 ?_
        refine z_aload_n F dX8_clientsHold_29 rfl 0 rfl ?_
        refine z_iconst F dX8_clientsHold_30 ?_
        refine z_callV (As := [vR (aC ρ i9), vI 1]) (st := []) F (mX5_pick l G N0 h8 g (mx ρ a9) i9 1 hI8 (MC.sa (mx_sq ρ a9).sa hV) (show 0 ≤ i9 ∧ i9 < ρ 2 0 from by omega) (Or.inr rfl)) cvX8_218 (ci_6 (ρ := (mx ρ a9)) hI8) (fun r9 h9 => by cases h9; rfl) rfl rfl ⟨Nat.le_of_ble_eq_true rfl, Nat.le_of_ble_eq_true rfl⟩ rfl ⟨by (try simp only []); omega, by (try simp only []); omega⟩ dX8_clientsHold_31 ?_
        rintro _ h7 ⟨rfl, a7, I7, O7⟩
        rw [mx_mx] at I7 O7
        have V7 : MC (mx ρ a7) := MC.sa (mx_sq ρ a7).sa hV
        have hb7 := opS_b V7 (c := i9) (show 0 ≤ i9 ∧ i9 < ρ 2 0 from by omega)
        show Z _ _ _ _ _ _ _ _ _ _ _ _ _ _ _ _ _ _ _ _ []
        refine z_aload_n F dX8_clientsHold_34 rfl 0 rfl ?_
        refine z_get (v := vI i9) F (ci_c (ρ := (mx ρ a7)) I7 (show 0 ≤ i9 ∧ i9 < ρ 2 0 ∧ i9 < 100 from by omega)) fX8_200 rfl dX8_clientsHold_35 ?_
        refine z_iload_n F dX8_clientsHold_38 rfl 1 rfl ?_
        refine z_icmp_ne (tgt := 61) F dX8_clientsHold_39 (by decide) (by omega) (by omega) (fun c39 => ?_) (fun c39 => ?_)
        · refine z_iconst F dX8_clientsHold_61 ?_
          rw [hQ]
          exact z_iret (nf_z (by omega)) F hr (by (try simp only []); omega) (by (try simp only []); omega) dX8_clientsHold_62 (⟨rI (by omega), a7, I7⟩)
        · refine z_aload_n F dX8_clientsHold_42 rfl 2 rfl ?_
          refine z_get (v := vR (g 6)) F (ci_0 (ρ := (mx ρ a7)) I7) fX8_33 rfl dX8_clientsHold_43 ?_
          refine z_aload_n F dX8_clientsHold_46 rfl 0 rfl ?_
          refine z_callV (As := [vR (aC ρ i9)]) (st := []) F (mX5_minutesFor l G N0 h7 g (mx ρ a7) i9 1 I7 (MC.sa (mx_sq ρ a7).sa hV) O7 (show 0 ≤ i9 ∧ i9 < ρ 2 0 from by omega) rfl) cvX8_242 (ci_6 (ρ := (mx ρ a7)) I7) (fun r9 h9 => by cases h9; rfl) rfl rfl ⟨Nat.le_of_ble_eq_true rfl, Nat.le_of_ble_eq_true rfl⟩ rfl ⟨by (try simp only []); omega, by (try simp only []); omega⟩ dX8_clientsHold_47 ?_
          rintro _ h9 ⟨rfl, hh9⟩
          rw [hh9]
          clear hh9 h9
          show Z _ _ _ _ _ _ _ _ _ _ _ _ _ _ _ _ _ _ _ _ [vI (opS (mx ρ a7) i9)]
          refine z_aload_n F dX8_clientsHold_50 rfl 2 rfl ?_
          refine z_get (v := vR (g 6)) F (ci_0 (ρ := (mx ρ a7)) I7) fX8_33 rfl dX8_clientsHold_51 ?_
          refine z_aload_n F dX8_clientsHold_54 rfl 0 rfl ?_
          refine z_callV (As := [vR (aC ρ i9)]) (st := [vI (opS (mx ρ a7) i9)]) F (mX5_minutesByLines l G N0 h7 g (mx ρ a7) i9 1 I7 (MC.sa (mx_sq ρ a7).sa hV) O7 (show 0 ≤ i9 ∧ i9 < ρ 2 0 from by omega) rfl) cvX8_246 (ci_6 (ρ := (mx ρ a7)) I7) (fun r9 h9 => by cases h9; rfl) rfl rfl ⟨Nat.le_of_ble_eq_true rfl, Nat.le_of_ble_eq_true rfl⟩ rfl ⟨by (try simp only []); omega, by (try simp only []); omega⟩ dX8_clientsHold_55 ?_
          rintro _ h9 ⟨rfl, hh9⟩
          rw [hh9]
          clear hh9 h9
          show Z _ _ _ _ _ _ _ _ _ _ _ _ _ _ _ _ _ _ _ _ [vI (opS (mx ρ a7) i9), vI (opS (mx ρ a7) i9)]
          refine z_icmp_eq (tgt := 63) F dX8_clientsHold_58 (by decide) (by omega) (by omega) (fun c58 => ?_) (fun c58 => ?_)
          · refine z_iinc (lv' := [(1, vI (i9 + 1)), (2, vR (aC ρ i9)), (0, vR (g 0))]) F dX8_clientsHold_63 1 rfl (by decide) rfl ?_
            refine z_goto (tgt := 2) F dX8_clientsHold_66 (by decide) ?_
            refine z_widen (k' := 24 * (i9 + 1).toNat) (n' := 2400 * (i9 + 1).toNat) (by (try simp only []); omega) (by (try simp only []); omega) ?_
            refine z_pick (lv' := [(1, vI (i9 + 1)), (0, vR (g 0))]) [0, 2] rfl ?_
            refine z_widen (k' := 24 * (i9 + 1).toNat) (n' := 2400 * (i9 + 1).toNat) (by (try simp only []); omega) (by (try simp only []); omega) ?_
            exact ih2 (i9 + 1) h7 a7 (I7) (by omega) (by omega)
          · refine z_iconst F dX8_clientsHold_61 ?_
            rw [hQ]
            exact z_iret (nf_z (by omega)) F hr (by (try simp only []); omega) (by (try simp only []); omega) dX8_clientsHold_62 (⟨rI (by omega), a7, I7⟩)
  exact L2 ((ρ 2 0 - 0 : Int).toNat + 1) 0 h ρ (by rw [mx_of (SQ.refl ρ)]; exact hI) (by omega) (by omega)
set_option maxRecDepth 100000 in
set_option maxHeartbeats 4000000 in
theorem mX8_waysAgree (l : Launch) (G : GG) (N0 : Nat) (h : Hp) (g : Int → Nat) (ρ : Sg) (hI : CI G g ρ h) (hV : MC ρ) : Ct l G N0 yX8_waysAgree (Cond.code yX8_waysAgree cX8_waysAgree 1 (some FieldType.boolean) :: LW) ({ frames := 6, cells := 0, slots := 0, locals := 300 }) [vR (g 0)] h (fun r h' => r = some (vI 1) ∧ ∃ a, CI G g (mx ρ a) h') := by
  refine ct_of rfl rfl ?_
  intro p e s m args below meth c F hr hnm
  have F : Fx p s m args meth c RX8 cX8_waysAgree 1 G N0 (cA h s.heap.size) := F
  obtain ⟨v0, v1, v2, v8, v16, v24, v39, vC, vE, vJ, vK, vB, vO⟩ := id hV
  show Z _ _ _ _ _ _ _ _ _ _ _ _ _ _ _ _ _ _ _ [(0, vR (g 0))] []
  refine z_aload_n F dX8_waysAgree_0 rfl 0 rfl ?_
  refine z_get (v := vR (g 2)) F (ci_0 hI) fX8_21 rfl dX8_waysAgree_1 ?_
  refine z_iconst F dX8_waysAgree_4 ?_
  refine z_aload_n F dX8_waysAgree_5 rfl 0 rfl ?_
  refine z_get (v := vR (g 1)) F (ci_0 hI) fX8_10 rfl dX8_waysAgree_6 ?_
  refine z_get (v := vI (ρ 0 0)) F (ci_1 hI) fX8_57 rfl dX8_waysAgree_9 ?_
  refine z_callV (As := [vI 0, vI (ρ 0 0)]) (st := []) F (mX6_countByIntervals0 l G N0 h g ρ 0 (ρ 0 0) hI hV (by omega)) cvX8_173 (ci_2 hI) (fun r9 h9 => by cases h9; rfl) rfl rfl ⟨Nat.le_of_ble_eq_true rfl, Nat.le_of_ble_eq_true rfl⟩ rfl ⟨Nat.le_of_ble_eq_true rfl, Nat.le_of_ble_eq_true rfl⟩ dX8_waysAgree_12 ?_
  rintro _ h5 ⟨rfl, p5, f5, I5, hf5⟩
  show Z _ _ _ _ _ _ _ _ _ _ _ _ _ _ _ _ _ _ _ _ []
  refine z_aload_n F dX8_waysAgree_15 rfl 0 rfl ?_
  refine z_get (v := vR (g 3)) F (ci_0 (ρ := (sw (sw ρ 34 p5) 14 f5)) I5) fX8_25 rfl dX8_waysAgree_16 ?_
  refine z_iconst F dX8_waysAgree_19 ?_
  refine z_aload_n F dX8_waysAgree_20 rfl 0 rfl ?_
  refine z_get (v := vR (g 1)) F (ci_0 (ρ := (sw (sw ρ 34 p5) 14 f5)) I5) fX8_10 rfl dX8_waysAgree_21 ?_
  refine z_get (v := vI (ρ 0 0)) F (ci_1 (ρ := (sw (sw ρ 34 p5) 14 f5)) I5) fX8_57 rfl dX8_waysAgree_24 ?_
  refine z_callV (As := [vI 0, vI (ρ 0 0)]) (st := []) F (mX6_countByMinutes1 l G N0 h5 g (sw (sw ρ 34 p5) 14 f5) 0 (ρ 0 0) I5 (MC.sa (((SA.refl ρ).sw rfl _).sw rfl _) hV) (show 0 ≤ (0 : Int) ∧ (0 : Int) ≤ 3000 ∧ 0 ≤ ρ 0 0 ∧ ρ 0 0 ≤ 3000 from by omega)) cvX8_181 (ci_3 (ρ := (sw (sw ρ 34 p5) 14 f5)) I5) (fun r9 h9 => by cases h9; rfl) rfl rfl ⟨Nat.le_of_ble_eq_true rfl, Nat.le_of_ble_eq_true rfl⟩ rfl ⟨Nat.le_of_ble_eq_true rfl, Nat.le_of_ble_eq_true rfl⟩ dX8_waysAgree_27 ?_
  rintro _ h6 ⟨rfl, p6, f6, I6, hf6⟩
  have q6 := ceF_r (SA.c ((((SA.refl ρ).sw rfl _).sw rfl _) : SA ρ (sw (sw ρ 34 p5) 14 f5)))
  show Z _ _ _ _ _ _ _ _ _ _ _ _ _ _ _ _ _ _ _ _ []
  refine z_aload_n F dX8_waysAgree_30 rfl 0 rfl ?_
  refine z_get (v := vR (g 2)) F (ci_0 (ρ := (sw (sw (sw (sw ρ 34 p5) 14 f5) 34 p6) 15 f6)) I6) fX8_21 rfl dX8_waysAgree_31 ?_
  refine z_aload_n F dX8_waysAgree_34 rfl 0 rfl ?_
  refine z_get (v := vR (g 3)) F (ci_0 (ρ := (sw (sw (sw (sw ρ 34 p5) 14 f5) 34 p6) 15 f6)) I6) fX8_25 rfl dX8_waysAgree_35 ?_
  have he6 : ∀ j, 0 ≤ j → j < 120 → f5 j = f6 j ∧ -2147483648 ≤ f5 j ∧ f5 j < 2147483648 := fun j j0 j1 => by
    have b := ceF_b hV j0 j1
    rw [hf6 j j0 j1, q6, hf5 j j0 j1]
    exact ⟨rfl, by omega, by omega⟩
  refine z_callV (As := [vR (g 3)]) (st := []) F (mX6_agreesWith l G N0 h6 g (sw (sw (sw (sw ρ 34 p5) 14 f5) 34 p6) 15 f6) I6 he6) cvX8_438 (ci_2 (ρ := (sw (sw (sw (sw ρ 34 p5) 14 f5) 34 p6) 15 f6)) I6) (fun r9 h9 => by cases h9; rfl) rfl rfl ⟨Nat.le_of_ble_eq_true rfl, Nat.le_of_ble_eq_true rfl⟩ rfl ⟨Nat.le_of_ble_eq_true rfl, Nat.le_of_ble_eq_true rfl⟩ dX8_waysAgree_38 ?_
  rintro _ h9 ⟨rfl, hh9⟩
  rw [hh9]
  clear hh9 h9
  show Z _ _ _ _ _ _ _ _ _ _ _ _ _ _ _ _ _ _ _ _ [vI 1]
  exact z_iret (nf_z (by omega)) F hr (Nat.le_of_ble_eq_true rfl) (Nat.le_of_ble_eq_true rfl) dX8_waysAgree_41 (⟨rfl, _, CI.mx I6 (((((SQ.refl ρ).sw rfl _).sw rfl _).sw rfl _).sw rfl _)⟩)
set_option maxRecDepth 100000 in
set_option maxHeartbeats 4000000 in
theorem mX8_isConsistent (l : Launch) (G : GG) (N0 : Nat) (h : Hp) (hl9 : l.stackTraces = false) (g : Int → Nat) (ρ : Sg) (hI : CI G g ρ h) (hV : MC ρ) : Ct l G N0 yX8_isConsistent (Cond.code yX8_isConsistent cX8_isConsistent 1 (some FieldType.boolean) :: LW) ({ frames := 9, cells := 120, slots := 12000, locals := 600 }) [vR (g 0)] h (fun r h' => ∃ ρ', r = some (vI 1) ∧ SA (ρ) ρ' ∧ CI G g ρ' h') := by
  refine ct_of rfl rfl ?_
  intro p e s m args below meth c F hr hnm
  have F : Fx p s m args meth c RX8 cX8_isConsistent 1 G N0 (cA h s.heap.size) := F
  obtain ⟨v0, v1, v2, v8, v16, v24, v39, vC, vE, vJ, vK, vB, vO⟩ := id hV
  show Z _ _ _ _ _ _ _ _ _ _ _ _ _ _ _ _ _ _ _ [(0, vR (g 0))] []
  refine z_aload_n F dX8_isConsistent_0 rfl 0 rfl ?_
  refine z_callV (As := []) (st := []) F (mX8_entriesHold l G N0 h g ρ hI hV) cvX8_356 (ci_0 hI) (fun r9 h9 => by cases h9; rfl) rfl rfl ⟨Nat.le_of_ble_eq_true rfl, Nat.le_of_ble_eq_true rfl⟩ rfl ⟨Nat.le_of_ble_eq_true rfl, Nat.le_of_ble_eq_true rfl⟩ dX8_isConsistent_1 ?_
  rintro _ h9 ⟨rfl, hh9⟩
  rw [hh9]
  clear hh9 h9
  show Z _ _ _ _ _ _ _ _ _ _ _ _ _ _ _ _ _ _ _ _ [vI 1]
  refine z_if_eq (tgt := 39) F dX8_isConsistent_4 (by decide) (by decide) (fun c4 => ?_) (fun c4 => ?_)
  · exact absurd c4 (by decide)
  · refine z_aload_n F dX8_isConsistent_7 rfl 0 rfl ?_
    refine z_callV (As := []) (st := []) F (mX8_clientsHold l G N0 h g ρ hI hV) cvX8_359 (ci_0 hI) (fun r9 h9 => by cases h9; rfl) rfl rfl ⟨Nat.le_of_ble_eq_true rfl, Nat.le_of_ble_eq_true rfl⟩ rfl ⟨Nat.le_of_ble_eq_true rfl, Nat.le_of_ble_eq_true rfl⟩ dX8_isConsistent_8 ?_
    rintro _ h1 ⟨rfl, a1, I1⟩
    show Z _ _ _ _ _ _ _ _ _ _ _ _ _ _ _ _ _ _ _ _ [vI 1]
    refine z_if_eq (tgt := 39) F dX8_isConsistent_11 (by decide) (by decide) (fun c11 => ?_) (fun c11 => ?_)
    · exact absurd c11 (by decide)
    · refine z_aload_n F dX8_isConsistent_14 rfl 0 rfl ?_
      refine z_callV (As := []) (st := []) F (mX8_correctionsHold l G N0 h1 g (mx ρ a1) I1 (MC.sa (mx_sq ρ a1).sa hV)) cvX8_362 (ci_0 (ρ := (mx ρ a1)) I1) (fun r9 h9 => by cases h9; rfl) rfl rfl ⟨Nat.le_of_ble_eq_true rfl, Nat.le_of_ble_eq_true rfl⟩ rfl ⟨Nat.le_of_ble_eq_true rfl, Nat.le_of_ble_eq_true rfl⟩ dX8_isConsistent_15 ?_
      rintro _ h9 ⟨rfl, hh9⟩
      rw [hh9]
      clear hh9 h9
      show Z _ _ _ _ _ _ _ _ _ _ _ _ _ _ _ _ _ _ _ _ [vI 1]
      refine z_if_eq (tgt := 39) F dX8_isConsistent_18 (by decide) (by decide) (fun c18 => ?_) (fun c18 => ?_)
      · exact absurd c18 (by decide)
      · refine z_aload_n F dX8_isConsistent_21 rfl 0 rfl ?_
        refine z_callV (As := []) (st := []) F (mX8_invoicesHold l G N0 h1 g (mx ρ a1) I1 (MC.sa (mx_sq ρ a1).sa hV)) cvX8_365 (ci_0 (ρ := (mx ρ a1)) I1) (fun r9 h9 => by cases h9; rfl) rfl rfl ⟨Nat.le_of_ble_eq_true rfl, Nat.le_of_ble_eq_true rfl⟩ rfl ⟨Nat.le_of_ble_eq_true rfl, Nat.le_of_ble_eq_true rfl⟩ dX8_isConsistent_22 ?_
        rintro _ h9 ⟨rfl, hh9⟩
        rw [hh9]
        clear hh9 h9
        show Z _ _ _ _ _ _ _ _ _ _ _ _ _ _ _ _ _ _ _ _ [vI 1]
        refine z_if_eq (tgt := 39) F dX8_isConsistent_25 (by decide) (by decide) (fun c25 => ?_) (fun c25 => ?_)
        · exact absurd c25 (by decide)
        · refine z_aload_n F dX8_isConsistent_28 rfl 0 rfl ?_
          refine z_callV (As := []) (st := []) F (mX8_waysAgree l G N0 h1 g (mx ρ a1) I1 (MC.sa (mx_sq ρ a1).sa hV)) cvX8_368 (ci_0 (ρ := (mx ρ a1)) I1) (fun r9 h9 => by cases h9; rfl) rfl rfl ⟨Nat.le_of_ble_eq_true rfl, Nat.le_of_ble_eq_true rfl⟩ rfl ⟨Nat.le_of_ble_eq_true rfl, Nat.le_of_ble_eq_true rfl⟩ dX8_isConsistent_29 ?_
          rintro _ h2 ⟨rfl, a2, I2⟩
          rw [mx_mx] at I2
          show Z _ _ _ _ _ _ _ _ _ _ _ _ _ _ _ _ _ _ _ _ [vI 1]
          refine z_if_eq (tgt := 39) F dX8_isConsistent_32 (by decide) (by decide) (fun c32 => ?_) (fun c32 => ?_)
          · exact absurd c32 (by decide)
          · refine z_iconst F dX8_isConsistent_35 ?_
            refine z_goto (tgt := 40) F dX8_isConsistent_36 (by decide) ?_
            exact z_iret (nf_z (by omega)) F hr (Nat.le_of_ble_eq_true rfl) (Nat.le_of_ble_eq_true rfl) dX8_isConsistent_40 (⟨(mx ρ a2), rI (by first | rfl | omega), (mx_sq ρ a2).sa, I2⟩)
