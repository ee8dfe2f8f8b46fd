set_option maxRecDepth 100000 in
set_option maxHeartbeats 4000000 in
theorem mX7_runningEntries (l : Launch) (G : GG) (N0 : Nat) (h : Hp) (g : Int → Nat) (ρ : Sg) (hI : CI G g ρ h) (hV : MC ρ) : Ct l G N0 yX7_runningEntries (Cond.code yX7_runningEntries cX7_runningEntries 3 (some FieldType.int) :: LW) ({ frames := 3, cells := 0, slots := 0, locals := 140 }) [vR (g 1)] h (fun r h' => r = some (vI (cst ρ 114 (ρ 8 0).toNat)) ∧ h' = h) := by
  refine ct_of rfl rfl ?_
  intro p e s m args below meth c F hr hnm
  have F : Fx p s m args meth c RX7 cX7_runningEntries 3 G N0 (cA h s.heap.size) := F
  obtain ⟨v0, v1, v2, v8, v16, v24, v39, vC, vE, vJ, vK, vB, vO⟩ := id hV
  obtain ⟨Q, hQ⟩ : ∃ z, z = MQ below (cQc G N0 h s.heap.size (fun r h' => r = some (vI (cst ρ 114 (ρ 8 0).toNat)) ∧ h' = h)) args s 0 0 (cA h s.heap.size) := ⟨_, rfl⟩
  rw [← hQ]
  show Z _ _ _ _ _ _ _ _ _ _ _ _ _ _ _ _ _ _ _ [(0, vR (g 1))] []
  refine z_iconst F dX7_runningEntries_0 ?_
  refine z_istore_n (lv' := [(1, vI 0), (0, vR (g 1))]) F dX7_runningEntries_1 rfl (by decide) rfl ?_
  refine z_iconst F dX7_runningEntries_2 ?_
  refine z_istore_n (lv' := [(2, vI 0), (1, vI 0), (0, vR (g 1))]) F dX7_runningEntries_3 rfl (by decide) rfl ?_
  have L4 : ∀ (fuel : Nat) (n9 : Int) (i9 : Int), (0 ≤ i9 ∧ i9 ≤ ρ 8 0) → (n9 = cst ρ 114 i9.toNat) → (0 ≤ n9 ∧ n9 ≤ i9) → ρ 8 0 - i9 < (fuel : Int) → Z p l e ({ frames := 3, cells := 0, slots := 0, locals := 140 }) s m args below meth c 3 G N0 (cA h s.heap.size) Q h 0 0 4 [(2, vI i9), (1, vI n9), (0, vR (g 1))] [] := by
    intro fuel
    induction fuel with
    | zero => intro n9 i9  ha hn hn2 hm; exact absurd hm (by omega)
    | succ fuel ih4 =>
      intro n9 i9  ha hn hn2 hm
      have E_i9 := fun q9 => vE i9 (by omega) q9
      have hcs := cst_in ρ 114 i9.toNat
      refine z_iload_n F dX7_runningEntries_4 rfl 0 rfl ?_
      refine z_aload_n F dX7_runningEntries_5 rfl 2 rfl ?_
      refine z_get (v := vR (g 15)) F (ci_1 hI) fX7_12 rfl dX7_runningEntries_6 ?_
      refine z_callV (As := []) (st := [vI i9]) F (mJx4a65c_size_8abf5 l G N0 h (g 15) ((ρ 40 3).toNat) 0 (ρ 32 3) (ρ 8 0) (fun _ => none) (ci_15 hI)) cvX7_26 (ci_15 hI) (fun r9 h9 => by cases h9; rfl) rfl rfl ⟨Nat.le_of_ble_eq_true rfl, Nat.le_of_ble_eq_true rfl⟩ rfl ⟨Nat.le_of_ble_eq_true rfl, Nat.le_of_ble_eq_true rfl⟩ dX7_runningEntries_9 ?_
      rintro _ h9 ⟨rfl, hh9⟩
      rw [hh9]
      clear hh9 h9
      show Z _ _ _ _ _ _ _ _ _ _ _ _ _ _ _ _ _ _ _ _ [vI (ρ 8 0), vI i9]
      refine z_icmp_ge (tgt := 43) F dX7_runningEntries_12 (by decide) (by omega) (by omega) (fun c12 => ?_) (fun c12 => ?_)
      · refine z_iload_n F dX7_runningEntries_43 rfl 1 rfl ?_
        rw [hQ]
        exact z_iret (nf_i _) F hr (Nat.le_of_ble_eq_true rfl) (Nat.le_of_ble_eq_true rfl) dX7_runningEntries_44 (⟨rI (by rw [hn, show i9 = ρ 8 0 by omega]), rfl⟩)
      · refine z_aload_n F dX7_runningEntries_15 rfl 2 rfl ?_
        refine z_get (v := vR (g 15)) F (ci_1 hI) fX7_12 rfl dX7_runningEntries_16 ?_
        refine z_iload_n F dX7_runningEntries_19 rfl 0 rfl ?_
        refine z_callV (As := [vI i9]) (st := []) F (cGet3 l G N0 h g ρ i9 hI (show 0 ≤ i9 ∧ i9 < ρ 8 0 from by omega)) cvX7_30 (ci_15 hI) (fun r9 h9 => by cases h9; rfl) rfl rfl ⟨Nat.le_of_ble_eq_true rfl, Nat.le_of_ble_eq_true rfl⟩ rfl ⟨Nat.le_of_ble_eq_true rfl, Nat.le_of_ble_eq_true rfl⟩ dX7_runningEntries_20 ?_
        rintro _ h9 ⟨rfl, hh9⟩
        rw [hh9]
        clear hh9 h9
        show Z _ _ _ _ _ _ _ _ _ _ _ _ _ _ _ _ _ _ _ _ [vR (aE ρ i9)]
        refine z_cast F (ci_e hI (show 0 ≤ i9 ∧ i9 < ρ 8 0 ∧ i9 < 100 from by omega)) q244 (fun r9 h9 => by cases h9; rfl) dX7_runningEntries_23 ?_
        refine z_get (v := vI (ρ 12 i9)) F (ci_e hI (show 0 ≤ i9 ∧ i9 < ρ 8 0 ∧ i9 < 100 from by omega)) fX7_36 rfl dX7_runningEntries_26 ?_
        refine z_bipush F dX7_runningEntries_29 (by decide) ?_
        refine z_icmp_ne (tgt := 37) F dX7_runningEntries_31 (by decide) (by omega) (by decide) (fun c31 => ?_) (fun c31 => ?_)
        · refine z_iinc (lv' := [(2, vI (i9 + 1)), (1, vI n9), (0, vR (g 1))]) F dX7_runningEntries_37 0 rfl (by decide) rfl ?_
          refine z_goto (tgt := 4) F dX7_runningEntries_40 (by decide) ?_
          exact ih4 n9 (i9 + 1)  (by omega) (by rw [cst_s ρ 114 ha.1]; omega) (by omega) (by omega)
        · refine z_iinc (lv' := [(1, vI (n9 + 1)), (2, vI i9), (0, vR (g 1))]) F dX7_runningEntries_34 1 rfl (by decide) rfl ?_
          refine z_iinc (lv' := [(2, vI (i9 + 1)), (1, vI (n9 + 1)), (0, vR (g 1))]) F dX7_runningEntries_37 1 rfl (by decide) rfl ?_
          refine z_goto (tgt := 4) F dX7_runningEntries_40 (by decide) ?_
          exact ih4 (n9 + 1) (i9 + 1)  (by omega) (by rw [cst_s ρ 114 ha.1]; omega) (by omega) (by omega)
  exact L4 ((ρ 8 0 - 0 : Int).toNat + 1) 0 0  (by omega) (by rfl) (by omega) (by omega)
set_option maxRecDepth 100000 in
set_option maxHeartbeats 4000000 in
theorem mX7_keptEntries (l : Launch) (G : GG) (N0 : Nat) (h : Hp) (g : Int → Nat) (ρ : Sg) (hI : CI G g ρ h) (hV : MC ρ) : Ct l G N0 yX7_keptEntries (Cond.code yX7_keptEntries cX7_keptEntries 3 (some FieldType.int) :: LW) ({ frames := 3, cells := 0, slots := 0, locals := 140 }) [vR (g 1)] h (fun r h' => r = some (vI (keptS ρ)) ∧ h' = h) := by
  refine ct_of rfl rfl ?_
  intro p e s m args below meth c F hr hnm
  have F : Fx p s m args meth c RX7 cX7_keptEntries 3 G N0 (cA h s.heap.size) := F
  obtain ⟨v0, v1, v2, v8, v16, v24, v39, vC, vE, vJ, vK, vB, vO⟩ := id hV
  obtain ⟨Q, hQ⟩ : ∃ z, z = MQ below (cQc G N0 h s.heap.size (fun r h' => r = some (vI (keptS ρ)) ∧ h' = h)) args s 0 0 (cA h s.heap.size) := ⟨_, rfl⟩
  rw [← hQ]
  show Z _ _ _ _ _ _ _ _ _ _ _ _ _ _ _ _ _ _ _ [(0, vR (g 1))] []
  refine z_iconst F dX7_keptEntries_0 ?_
  refine z_istore_n (lv' := [(1, vI 0), (0, vR (g 1))]) F dX7_keptEntries_1 rfl (by decide) rfl ?_
  refine z_iconst F dX7_keptEntries_2 ?_
  refine z_istore_n (lv' := [(2, vI 0), (1, vI 0), (0, vR (g 1))]) F dX7_keptEntries_3 rfl (by decide) rfl ?_
  have L4 : ∀ (fuel : Nat) (n9 : Int) (i9 : Int), (0 ≤ i9 ∧ i9 ≤ ρ 8 0) → (n9 = i9 - cst ρ 120 i9.toNat) → (0 ≤ n9 ∧ n9 ≤ i9) → ρ 8 0 - i9 < (fuel : Int) → Z p l e ({ frames := 3, cells := 0, slots := 0, locals := 140 }) s m args below meth c 3 G N0 (cA h s.heap.size) Q h 0 0 4 [(2, vI i9), (1, vI n9), (0, vR (g 1))] [] := by
    intro fuel
    induction fuel with
    | zero => intro n9 i9  ha hn hn2 hm; exact absurd hm (by omega)
    | succ fuel ih4 =>
      intro n9 i9  ha hn hn2 hm
      have E_i9 := fun q9 => vE i9 (by omega) q9
      have hcs := cst_in ρ 120 i9.toNat
      refine z_iload_n F dX7_keptEntries_4 rfl 0 rfl ?_
      refine z_aload_n F dX7_keptEntries_5 rfl 2 rfl ?_
      refine z_get (v := vR (g 15)) F (ci_1 hI) fX7_12 rfl dX7_keptEntries_6 ?_
      refine z_callV (As := []) (st := [vI i9]) F (mJx4a65c_size_8abf5 l G N0 h (g 15) ((ρ 40 3).toNat) 0 (ρ 32 3) (ρ 8 0) (fun _ => none) (ci_15 hI)) cvX7_26 (ci_15 hI) (fun r9 h9 => by cases h9; rfl) rfl rfl ⟨Nat.le_of_ble_eq_true rfl, Nat.le_of_ble_eq_true rfl⟩ rfl ⟨Nat.le_of_ble_eq_true rfl, Nat.le_of_ble_eq_true rfl⟩ dX7_keptEntries_9 ?_
      rintro _ h9 ⟨rfl, hh9⟩
      rw [hh9]
      clear hh9 h9
      show Z _ _ _ _ _ _ _ _ _ _ _ _ _ _ _ _ _ _ _ _ [vI (ρ 8 0), vI i9]
      refine z_icmp_ge (tgt := 43) F dX7_keptEntries_12 (by decide) (by omega) (by omega) (fun c12 => ?_) (fun c12 => ?_)
      · refine z_iload_n F dX7_keptEntries_43 rfl 1 rfl ?_
        rw [hQ]
        exact z_iret (nf_i _) F hr (Nat.le_of_ble_eq_true rfl) (Nat.le_of_ble_eq_true rfl) dX7_keptEntries_44 (⟨rI (by rw [hn, show i9 = ρ 8 0 by omega]), rfl⟩)
      · refine z_aload_n F dX7_keptEntries_15 rfl 2 rfl ?_
        refine z_get (v := vR (g 15)) F (ci_1 hI) fX7_12 rfl dX7_keptEntries_16 ?_
        refine z_iload_n F dX7_keptEntries_19 rfl 0 rfl ?_
        refine z_callV (As := [vI i9]) (st := []) F (cGet3 l G N0 h g ρ i9 hI (show 0 ≤ i9 ∧ i9 < ρ 8 0 from by omega)) cvX7_30 (ci_15 hI) (fun r9 h9 => by cases h9; rfl) rfl rfl ⟨Nat.le_of_ble_eq_true rfl, Nat.le_of_ble_eq_true rfl⟩ rfl ⟨Nat.le_of_ble_eq_true rfl, Nat.le_of_ble_eq_true rfl⟩ dX7_keptEntries_20 ?_
        rintro _ h9 ⟨rfl, hh9⟩
        rw [hh9]
        clear hh9 h9
        show Z _ _ _ _ _ _ _ _ _ _ _ _ _ _ _ _ _ _ _ _ [vR (aE ρ i9)]
        refine z_cast F (ci_e hI (show 0 ≤ i9 ∧ i9 < ρ 8 0 ∧ i9 < 100 from by omega)) q244 (fun r9 h9 => by cases h9; rfl) dX7_keptEntries_23 ?_
        refine z_get (v := vI (ρ 12 i9)) F (ci_e hI (show 0 ≤ i9 ∧ i9 < ρ 8 0 ∧ i9 < 100 from by omega)) fX7_36 rfl dX7_keptEntries_26 ?_
        refine z_bipush F dX7_keptEntries_29 (by decide) ?_
        refine z_icmp_eq (tgt := 37) F dX7_keptEntries_31 (by decide) (by omega) (by decide) (fun c31 => ?_) (fun c31 => ?_)
        · refine z_iinc (lv' := [(2, vI (i9 + 1)), (1, vI n9), (0, vR (g 1))]) F dX7_keptEntries_37 0 rfl (by decide) rfl ?_
          refine z_goto (tgt := 4) F dX7_keptEntries_40 (by decide) ?_
          exact ih4 n9 (i9 + 1)  (by omega) (by rw [cst_s ρ 120 ha.1]; omega) (by omega) (by omega)
        · refine z_iinc (lv' := [(1, vI (n9 + 1)), (2, vI i9), (0, vR (g 1))]) F dX7_keptEntries_34 1 rfl (by decide) rfl ?_
          refine z_iinc (lv' := [(2, vI (i9 + 1)), (1, vI (n9 + 1)), (0, vR (g 1))]) F dX7_keptEntries_37 1 rfl (by decide) rfl ?_
          refine z_goto (tgt := 4) F dX7_keptEntries_40 (by decide) ?_
          exact ih4 (n9 + 1) (i9 + 1)  (by omega) (by rw [cst_s ρ 120 ha.1]; omega) (by omega) (by omega)
  exact L4 ((ρ 8 0 - 0 : Int).toNat + 1) 0 0  (by omega) (rfl) (by omega) (by omega)
set_option maxRecDepth 100000 in
set_option maxHeartbeats 4000000 in
theorem mX7_nextChange (l : Launch) (G : GG) (N0 : Nat) (h : Hp) (g : Int → Nat) (ρ : Sg) (m9 t9 : Int) (hI : CI G g ρ h) (hV : MC ρ) (hm : 0 ≤ m9 ∧ m9 < t9 ∧ t9 ≤ 3000) : Ct l G N0 yX7_nextChange (Cond.code yX7_nextChange cX7_nextChange 6 (some FieldType.int) :: LW) ({ frames := 3, cells := 0, slots := 0, locals := 140 }) [vR (g 1), vI m9, vI t9] h (fun r h' => (∃ nx, r = some (vI nx) ∧ (m9 < nx ∧ nx ≤ t9 ∧ nx ≤ (m9 / 600 + 1) * 600) ∧ ∀ e, 0 ≤ e → e < ρ 8 0 → ¬ (m9 < ρ 10 e ∧ ρ 10 e < nx) ∧ ¬ (m9 < ρ 11 e ∧ ρ 11 e < nx)) ∧ h' = h) := by
  refine ct_of rfl rfl ?_
  intro p e s m args below meth c F hr hnm
  have F : Fx p s m args meth c RX7 cX7_nextChange 6 G N0 (cA h s.heap.size) := F
  obtain ⟨v0, v1, v2, v8, v16, v24, v39, vC, vE, vJ, vK, vB, vO⟩ := id hV
  obtain ⟨Q, hQ⟩ : ∃ z, z = MQ below (cQc G N0 h s.heap.size (fun r h' => (∃ nx, r = some (vI nx) ∧ (m9 < nx ∧ nx ≤ t9 ∧ nx ≤ (m9 / 600 + 1) * 600) ∧ ∀ e, 0 ≤ e → e < ρ 8 0 → ¬ (m9 < ρ 10 e ∧ ρ 10 e < nx) ∧ ¬ (m9 < ρ 11 e ∧ ρ 11 e < nx)) ∧ h' = h)) args s 0 0 (cA h s.heap.size) := ⟨_, rfl⟩
  rw [← hQ]
  show Z _ _ _ _ _ _ _ _ _ _ _ _ _ _ _ _ _ _ _ [(0, vR (g 1)), (1, vI m9), (2, vI t9)] []
  refine z_iload_n F dX7_nextChange_0 rfl 2 rfl ?_
  refine z_iload_n F dX7_nextChange_1 rfl 1 rfl ?_
  refine z_sipush F dX7_nextChange_2 (by decide) ?_
  refine z_idiv F dX7_nextChange_5 (by omega) (by omega) ?_
  refine z_iconst F dX7_nextChange_6 ?_
  refine z_iadd F dX7_nextChange_7 ?_
  refine z_sipush F dX7_nextChange_8 (by decide) ?_
  refine z_imul F dX7_nextChange_11 ?_
  refine z_mmin F mmX7_49 ⟨Nat.le_of_ble_eq_true rfl, Nat.le_of_ble_eq_true rfl, (Nat.le_of_ble_eq_true rfl), (Nat.le_of_ble_eq_true rfl)⟩ (by omega) (by omega) dX7_nextChange_12 ?_
  generalize ex1 : (if ((m9 / 600) + 1) * 600 < t9 then ((m9 / 600) + 1) * 600 else t9) = x1
  have rx1 := ex1
  refine z_istore_n (lv' := [(3, vI x1), (0, vR (g 1)), (1, vI m9), (2, vI t9)]) F dX7_nextChange_15 rfl (by decide) rfl ?_
  refine z_iconst F dX7_nextChange_16 ?_
  refine z_istore (lv' := [(4, vI 0), (3, vI x1), (0, vR (g 1)), (1, vI m9), (2, vI t9)]) F dX7_nextChange_17 (by decide) rfl ?_
  have L19 : ∀ (fuel : Nat) (nx : Int) (i9 : Int), (0 ≤ i9 ∧ i9 ≤ ρ 8 0) → ((m9 < nx ∧ nx ≤ t9 ∧ nx ≤ (m9 / 600 + 1) * 600) ∧ ∀ e, 0 ≤ e → e < i9 → ¬ (m9 < ρ 10 e ∧ ρ 10 e < nx) ∧ ¬ (m9 < ρ 11 e ∧ ρ 11 e < nx)) → ρ 8 0 - i9 < (fuel : Int) → Z p l e ({ frames := 3, cells := 0, slots := 0, locals := 140 }) s m args below meth c 6 G N0 (cA h s.heap.size) Q h 0 0 19 [(4, vI i9), (3, vI nx), (0, vR (g 1)), (1, vI m9), (2, vI t9)] [] := by
    intro fuel
    induction fuel with
    | zero => intro nx i9  ha hn hm; exact absurd hm (by omega)
    | succ fuel ih19 =>
      intro nx i9  ha hn hm
      have E_i9 := fun q9 => vE i9 (by omega) q9
      obtain ⟨hn1, hn3⟩ := id hn
      refine z_iload F dX7_nextChange_19 0 rfl ?_
      refine z_aload_n F dX7_nextChange_21 rfl 2 rfl ?_
      refine z_get (v := vR (g 15)) F (ci_1 hI) fX7_12 rfl dX7_nextChange_22 ?_
      refine z_callV (As := []) (st := [vI i9]) F (mJx4a65c_size_8abf5 l G N0 h (g 15) ((ρ 40 3).toNat) 0 (ρ 32 3) (ρ 8 0) (fun _ => none) (ci_15 hI)) cvX7_26 (ci_15 hI) (fun r9 h9 => by cases h9; rfl) rfl rfl ⟨Nat.le_of_ble_eq_true rfl, Nat.le_of_ble_eq_true rfl⟩ rfl ⟨Nat.le_of_ble_eq_true rfl, Nat.le_of_ble_eq_true rfl⟩ dX7_nextChange_25 ?_
      rintro _ h9 ⟨rfl, hh9⟩
      rw [hh9]
      clear hh9 h9
      show Z _ _ _ _ _ _ _ _ _ _ _ _ _ _ _ _ _ _ _ _ [vI (ρ 8 0), vI i9]
      refine z_icmp_ge (tgt := 99) F dX7_nextChange_28 (by decide) (by omega) (by omega) (fun c28 => ?_) (fun c28 => ?_)
      · refine z_iload_n F dX7_nextChange_99 rfl 1 rfl ?_
        rw [hQ]
        exact z_iret (nf_i _) F hr (Nat.le_of_ble_eq_true rfl) (Nat.le_of_ble_eq_true rfl) dX7_nextChange_100 (⟨⟨nx, rfl, hn.1, fun e q0 q1 => hn.2 e q0 (by omega)⟩, rfl⟩)
      · refine z_aload_n F dX7_nextChange_31 rfl 2 rfl ?_
        refine z_get (v := vR (g 15)) F (ci_1 hI) fX7_12 rfl dX7_nextChange_32 ?_
        refine z_iload F dX7_nextChange_35 0 rfl ?_
        refine z_callV (As := [vI i9]) (st := []) F (cGet3 l G N0 h g ρ i9 hI (show 0 ≤ i9 ∧ i9 < ρ 8 0 from by omega)) cvX7_30 (ci_15 hI) (fun r9 h9 => by cases h9; rfl) rfl rfl ⟨Nat.le_of_ble_eq_true rfl, Nat.le_of_ble_eq_true rfl⟩ rfl ⟨Nat.le_of_ble_eq_true rfl, Nat.le_of_ble_eq_true rfl⟩ dX7_nextChange_37 ?_
        rintro _ h9 ⟨rfl, hh9⟩
        rw [hh9]
        clear hh9 h9
        show Z _ _ _ _ _ _ _ _ _ _ _ _ _ _ _ _ _ _ _ _ [vR (aE ρ i9)]
        refine z_cast F (ci_e hI (show 0 ≤ i9 ∧ i9 < ρ 8 0 ∧ i9 < 100 from by omega)) q244 (fun r9 h9 => by cases h9; rfl) dX7_nextChange_40 ?_
        refine z_astore (lv' := [(5, vR (aE ρ i9)), (4, vI i9), (3, vI nx), (0, vR (g 1)), (1, vI m9), (2, vI t9)]) F dX7_nextChange_43 (by decide) rfl ?_
        refine z_aload F dX7_nextChange_45 0 rfl ?_
        refine z_get (v := vI (ρ 10 i9)) F (ci_e hI (show 0 ≤ i9 ∧ i9 < ρ 8 0 ∧ i9 < 100 from by omega)) fX7_55 rfl dX7_nextChange_47 ?_
        refine z_iload_n F dX7_nextChange_50 rfl 4 rfl ?_
        refine z_icmp_le (tgt := 69) F dX7_nextChange_51 (by decide) (by omega) (by omega) (fun c51 => ?_) (fun c51 => ?_)
        · refine z_aload F dX7_nextChange_69 0 rfl ?_
          refine z_get (v := vI (ρ 11 i9)) F (ci_e hI (show 0 ≤ i9 ∧ i9 < ρ 8 0 ∧ i9 < 100 from by omega)) fX7_39 rfl dX7_nextChange_71 ?_
          refine z_iload_n F dX7_nextChange_74 rfl 4 rfl ?_
          refine z_icmp_le (tgt := 93) F dX7_nextChange_75 (by decide) (by omega) (by omega) (fun c75 => ?_) (fun c75 => ?_)
          · refine z_iinc (lv' := [(4, vI (i9 + 1)), (5, vR (aE ρ i9)), (3, vI nx), (0, vR (g 1)), (1, vI m9), (2, vI t9)]) F dX7_nextChange_93 1 rfl (by decide) rfl ?_
            refine z_goto (tgt := 19) F dX7_nextChange_96 (by decide) ?_
            refine z_pick (lv' := [(4, vI (i9 + 1)), (3, vI nx), (0, vR (g 1)), (1, vI m9), (2, vI t9)]) [0, 2, 3, 4, 5] rfl ?_
            exact ih19 nx (i9 + 1)  (by omega) (⟨by omega, fun e q0 q1 => by
              by_cases q2 : e = i9
              · rw [q2]; omega
              · have := hn.2 e q0 (by omega); omega⟩) (by omega)
          · refine z_aload F dX7_nextChange_78 0 rfl ?_
            refine z_get (v := vI (ρ 11 i9)) F (ci_e hI (show 0 ≤ i9 ∧ i9 < ρ 8 0 ∧ i9 < 100 from by omega)) fX7_39 rfl dX7_nextChange_80 ?_
            refine z_iload_n F dX7_nextChange_83 rfl 2 rfl ?_
            refine z_icmp_ge (tgt := 93) F dX7_nextChange_84 (by decide) (by omega) (by omega) (fun c84 => ?_) (fun c84 => ?_)
            · refine z_iinc (lv' := [(4, vI (i9 + 1)), (5, vR (aE ρ i9)), (3, vI nx), (0, vR (g 1)), (1, vI m9), (2, vI t9)]) F dX7_nextChange_93 1 rfl (by decide) rfl ?_
              refine z_goto (tgt := 19) F dX7_nextChange_96 (by decide) ?_
              refine z_pick (lv' := [(4, vI (i9 + 1)), (3, vI nx), (0, vR (g 1)), (1, vI m9), (2, vI t9)]) [0, 2, 3, 4, 5] rfl ?_
              exact ih19 nx (i9 + 1)  (by omega) (⟨by omega, fun e q0 q1 => by
                by_cases q2 : e = i9
                · rw [q2]; omega
                · have := hn.2 e q0 (by omega); omega⟩) (by omega)
            · refine z_aload F dX7_nextChange_87 0 rfl ?_
              refine z_get (v := vI (ρ 11 i9)) F (ci_e hI (show 0 ≤ i9 ∧ i9 < ρ 8 0 ∧ i9 < 100 from by omega)) fX7_39 rfl dX7_nextChange_89 ?_
              refine z_istore_n (lv' := [(3, vI (ρ 11 i9)), (5, vR (aE ρ i9)), (4, vI i9), (0, vR (g 1)), (1, vI m9), (2, vI t9)]) F dX7_nextChange_92 rfl (by decide) rfl ?_
              refine z_iinc (lv' := [(4, vI (i9 + 1)), (3, vI (ρ 11 i9)), (5, vR (aE ρ i9)), (0, vR (g 1)), (1, vI m9), (2, vI t9)]) F dX7_nextChange_93 2 rfl (by decide) rfl ?_
              refine z_goto (tgt := 19) F dX7_nextChange_96 (by decide) ?_
              refine z_pick (lv' := [(4, vI (i9 + 1)), (3, vI (ρ 11 i9)), (0, vR (g 1)), (1, vI m9), (2, vI t9)]) [0, 1, 3, 4, 5] rfl ?_
              exact ih19 (ρ 11 i9) (i9 + 1)  (by omega) (⟨by omega, fun e q0 q1 => by
                by_cases q2 : e = i9
                · rw [q2]; omega
                · have := hn.2 e q0 (by omega); omega⟩) (by omega)
        · refine z_aload F dX7_nextChange_54 0 rfl ?_
          refine z_get (v := vI (ρ 10 i9)) F (ci_e hI (show 0 ≤ i9 ∧ i9 < ρ 8 0 ∧ i9 < 100 from by omega)) fX7_55 rfl dX7_nextChange_56 ?_
          refine z_iload_n F dX7_nextChange_59 rfl 2 rfl ?_
          refine z_icmp_ge (tgt := 69) F dX7_nextChange_60 (by decide) (by omega) (by omega) (fun c60 => ?_) (fun c60 => ?_)
          · refine z_aload F dX7_nextChange_69 0 rfl ?_
            refine z_get (v := vI (ρ 11 i9)) F (ci_e hI (show 0 ≤ i9 ∧ i9 < ρ 8 0 ∧ i9 < 100 from by omega)) fX7_39 rfl dX7_nextChange_71 ?_
            refine z_iload_n F dX7_nextChange_74 rfl 4 rfl ?_
            refine z_icmp_le (tgt := 93) F dX7_nextChange_75 (by decide) (by omega) (by omega) (fun c75 => ?_) (fun c75 => ?_)
            · refine z_iinc (lv' := [(4, vI (i9 + 1)), (5, vR (aE ρ i9)), (3, vI nx), (0, vR (g 1)), (1, vI m9), (2, vI t9)]) F dX7_nextChange_93 1 rfl (by decide) rfl ?_
              refine z_goto (tgt := 19) F dX7_nextChange_96 (by decide) ?_
              refine z_pick (lv' := [(4, vI (i9 + 1)), (3, vI nx), (0, vR (g 1)), (1, vI m9), (2, vI t9)]) [0, 2, 3, 4, 5] rfl ?_
              exact ih19 nx (i9 + 1)  (by omega) (⟨by omega, fun e q0 q1 => by
                by_cases q2 : e = i9
                · rw [q2]; omega
                · have := hn.2 e q0 (by omega); omega⟩) (by omega)
            · refine z_aload F dX7_nextChange_78 0 rfl ?_
              refine z_get (v := vI (ρ 11 i9)) F (ci_e hI (show 0 ≤ i9 ∧ i9 < ρ 8 0 ∧ i9 < 100 from by omega)) fX7_39 rfl dX7_nextChange_80 ?_
              refine z_iload_n F dX7_nextChange_83 rfl 2 rfl ?_
              refine z_icmp_ge (tgt := 93) F dX7_nextChange_84 (by decide) (by omega) (by omega) (fun c84 => ?_) (fun c84 => ?_)
              · refine z_iinc (lv' := [(4, vI (i9 + 1)), (5, vR (aE ρ i9)), (3, vI nx), (0, vR (g 1)), (1, vI m9), (2, vI t9)]) F dX7_nextChange_93 1 rfl (by decide) rfl ?_
                refine z_goto (tgt := 19) F dX7_nextChange_96 (by decide) ?_
                refine z_pick (lv' := [(4, vI (i9 + 1)), (3, vI nx), (0, vR (g 1)), (1, vI m9), (2, vI t9)]) [0, 2, 3, 4, 5] rfl ?_
                exact ih19 nx (i9 + 1)  (by omega) (⟨by omega, fun e q0 q1 => by
                  by_cases q2 : e = i9
                  · rw [q2]; omega
                  · have := hn.2 e q0 (by omega); omega⟩) (by omega)
              · refine z_aload F dX7_nextChange_87 0 rfl ?_
                refine z_get (v := vI (ρ 11 i9)) F (ci_e hI (show 0 ≤ i9 ∧ i9 < ρ 8 0 ∧ i9 < 100 from by omega)) fX7_39 rfl dX7_nextChange_89 ?_
                refine z_istore_n (lv' := [(3, vI (ρ 11 i9)), (5, vR (aE ρ i9)), (4, vI i9), (0, vR (g 1)), (1, vI m9), (2, vI t9)]) F dX7_nextChange_92 rfl (by decide) rfl ?_
                refine z_iinc (lv' := [(4, vI (i9 + 1)), (3, vI (ρ 11 i9)), (5, vR (aE ρ i9)), (0, vR (g 1)), (1, vI m9), (2, vI t9)]) F dX7_nextChange_93 2 rfl (by decide) rfl ?_
                refine z_goto (tgt := 19) F dX7_nextChange_96 (by decide) ?_
                refine z_pick (lv' := [(4, vI (i9 + 1)), (3, vI (ρ 11 i9)), (0, vR (g 1)), (1, vI m9), (2, vI t9)]) [0, 1, 3, 4, 5] rfl ?_
                exact ih19 (ρ 11 i9) (i9 + 1)  (by omega) (⟨by omega, fun e q0 q1 => by
                  by_cases q2 : e = i9
                  · rw [q2]; omega
                  · have := hn.2 e q0 (by omega); omega⟩) (by omega)
          · refine z_aload F dX7_nextChange_63 0 rfl ?_
            refine z_get (v := vI (ρ 10 i9)) F (ci_e hI (show 0 ≤ i9 ∧ i9 < ρ 8 0 ∧ i9 < 100 from by omega)) fX7_55 rfl dX7_nextChange_65 ?_
            refine z_istore_n (lv' := [(3, vI (ρ 10 i9)), (5, vR (aE ρ i9)), (4, vI i9), (0, vR (g 1)), (1, vI m9), (2, vI t9)]) F dX7_nextChange_68 rfl (by decide) rfl ?_
            refine z_aload F dX7_nextChange_69 1 rfl ?_
            refine z_get (v := vI (ρ 11 i9)) F (ci_e hI (show 0 ≤ i9 ∧ i9 < ρ 8 0 ∧ i9 < 100 from by omega)) fX7_39 rfl dX7_nextChange_71 ?_
            refine z_iload_n F dX7_nextChange_74 rfl 4 rfl ?_
            refine z_icmp_le (tgt := 93) F dX7_nextChange_75 (by decide) (by omega) (by omega) (fun c75 => ?_) (fun c75 => ?_)
            · refine z_iinc (lv' := [(4, vI (i9 + 1)), (3, vI (ρ 10 i9)), (5, vR (aE ρ i9)), (0, vR (g 1)), (1, vI m9), (2, vI t9)]) F dX7_nextChange_93 2 rfl (by decide) rfl ?_
              refine z_goto (tgt := 19) F dX7_nextChange_96 (by decide) ?_
              refine z_pick (lv' := [(4, vI (i9 + 1)), (3, vI (ρ 10 i9)), (0, vR (g 1)), (1, vI m9), (2, vI t9)]) [0, 1, 3, 4, 5] rfl ?_
              exact ih19 (ρ 10 i9) (i9 + 1)  (by omega) (⟨by omega, fun e q0 q1 => by
                by_cases q2 : e = i9
                · rw [q2]; omega
                · have := hn.2 e q0 (by omega); omega⟩) (by omega)
            · refine z_aload F dX7_nextChange_78 1 rfl ?_
              refine z_get (v := vI (ρ 11 i9)) F (ci_e hI (show 0 ≤ i9 ∧ i9 < ρ 8 0 ∧ i9 < 100 from by omega)) fX7_39 rfl dX7_nextChange_80 ?_
              refine z_iload_n F dX7_nextChange_83 rfl 0 rfl ?_
              refine z_icmp_ge (tgt := 93) F dX7_nextChange_84 (by decide) (by omega) (by omega) (fun c84 => ?_) (fun c84 => ?_)
              · refine z_iinc (lv' := [(4, vI (i9 + 1)), (3, vI (ρ 10 i9)), (5, vR (aE ρ i9)), (0, vR (g 1)), (1, vI m9), (2, vI t9)]) F dX7_nextChange_93 2 rfl (by decide) rfl ?_
                refine z_goto (tgt := 19) F dX7_nextChange_96 (by decide) ?_
                refine z_pick (lv' := [(4, vI (i9 + 1)), (3, vI (ρ 10 i9)), (0, vR (g 1)), (1, vI m9), (2, vI t9)]) [0, 1, 3, 4, 5] rfl ?_
                exact ih19 (ρ 10 i9) (i9 + 1)  (by omega) (⟨by omega, fun e q0 q1 => by
                  by_cases q2 : e = i9
                  · rw [q2]; omega
                  · have := hn.2 e q0 (by omega); omega⟩) (by omega)
              · refine z_aload F dX7_nextChange_87 1 rfl ?_
                refine z_get (v := vI (ρ 11 i9)) F (ci_e hI (show 0 ≤ i9 ∧ i9 < ρ 8 0 ∧ i9 < 100 from by omega)) fX7_39 rfl dX7_nextChange_89 ?_
                refine z_istore_n (lv' := [(3, vI (ρ 11 i9)), (5, vR (aE ρ i9)), (4, vI i9), (0, vR (g 1)), (1, vI m9), (2, vI t9)]) F dX7_nextChange_92 rfl (by decide) rfl ?_
                refine z_iinc (lv' := [(4, vI (i9 + 1)), (3, vI (ρ 11 i9)), (5, vR (aE ρ i9)), (0, vR (g 1)), (1, vI m9), (2, vI t9)]) F dX7_nextChange_93 2 rfl (by decide) rfl ?_
                refine z_goto (tgt := 19) F dX7_nextChange_96 (by decide) ?_
                refine z_pick (lv' := [(4, vI (i9 + 1)), (3, vI (ρ 11 i9)), (0, vR (g 1)), (1, vI m9), (2, vI t9)]) [0, 1, 3, 4, 5] rfl ?_
                exact ih19 (ρ 11 i9) (i9 + 1)  (by omega) (⟨by omega, fun e q0 q1 => by
                  by_cases q2 : e = i9
                  · rw [q2]; omega
                  · have := hn.2 e q0 (by omega); omega⟩) (by omega)
  exact L19 ((ρ 8 0 - 0 : Int).toNat + 1) x1 0  (by omega) (⟨by omega, fun e q0 q1 => absurd q1 (by omega)⟩) (by omega)
set_option maxRecDepth 100000 in
set_option maxHeartbeats 4000000 in
theorem mX1_waitsFor (l : Launch) (G : GG) (N0 : Nat) (h : Hp) (g : Int → Nat) (ρ : Sg) (k9 c9 : Int) (hI : CI G g ρ h) (hV : MC ρ) (hk : 0 ≤ k9 ∧ k9 < ρ 24 0) (hc : 0 ≤ c9 ∧ c9 < ρ 2 0) : Ct l G N0 yX1_waitsFor (Cond.code yX1_waitsFor cX1_waitsFor 2 (some FieldType.boolean) :: LW) ({ frames := 0, cells := 0, slots := 0, locals := 0 }) [vR (aK ρ k9), vR (aC ρ c9)] h (fun r h' => r = some (vI (if ρ 27 k9 = 0 ∧ ρ 9 (ρ 25 k9) = c9 then 1 else 0)) ∧ h' = h) := by
  refine ct_of rfl rfl ?_
  intro p e s m args below meth c F hr hnm
  have F : Fx p s m args meth c RX1 cX1_waitsFor 2 G N0 (cA h s.heap.size) := F
  obtain ⟨v0, v1, v2, v8, v16, v24, v39, vC, vE, vJ, vK, vB, vO⟩ := id hV
  have K9 := vK k9 (by omega) (by omega)
  have E9 := vE (ρ 25 k9) (by omega) (by omega)
  obtain ⟨Q, hQ⟩ : ∃ z, z = MQ below (cQc G N0 h s.heap.size (fun r h' => r = some (vI (if ρ 27 k9 = 0 ∧ ρ 9 (ρ 25 k9) = c9 then 1 else 0)) ∧ h' = h)) args s 0 0 (cA h s.heap.size) := ⟨_, rfl⟩
  rw [← hQ]
  show Z _ _ _ _ _ _ _ _ _ _ _ _ _ _ _ _ _ _ _ [(0, vR (aK ρ k9)), (1, vR (aC ρ c9))] []
  refine z_aload_n F dX1_waitsFor_0 rfl 0 rfl ?_
  refine z_get (v := vI (ρ 27 k9)) F (ci_k hI (show 0 ≤ k9 ∧ k9 < ρ 24 0 ∧ k9 < 100 from by omega)) fX1_17 rfl dX1_waitsFor_1 ?_
  refine z_if_ne (tgt := 22) F dX1_waitsFor_4 (by decide) (by omega) (fun c4 => ?_) (fun c4 => ?_)
  · refine z_iconst F dX1_waitsFor_22 ?_
    rw [hQ]
    exact z_iret (nf_z (by omega)) F hr (Nat.le_of_ble_eq_true rfl) (Nat.le_of_ble_eq_true rfl) dX1_waitsFor_23 (⟨rI (by omega), rfl⟩)
  · refine z_aload_n F dX1_waitsFor_7 rfl 0 rfl ?_
    refine z_get (v := vR (aE ρ (ρ 25 k9))) F (ci_k hI (show 0 ≤ k9 ∧ k9 < ρ 24 0 ∧ k9 < 100 from by omega)) fX1_7 rfl dX1_waitsFor_8 ?_
    refine z_get (v := vR (aC ρ (ρ 9 (ρ 25 k9)))) F (ci_e hI (show 0 ≤ ρ 25 k9 ∧ ρ 25 k9 < ρ 8 0 ∧ ρ 25 k9 < 100 from by omega)) fX1_21 rfl dX1_waitsFor_11 ?_
    refine z_aload_n F dX1_waitsFor_14 rfl 1 rfl ?_
    refine z_acmp_ne (rx := some (aC ρ (ρ 9 (ρ 25 k9)))) (ry := some (aC ρ c9)) (tgt := 22) F dX1_waitsFor_15 (by decide) (fun c15 => ?_) (fun c15 => ?_)
    · have d15 : ρ 9 (ρ 25 k9) ≠ c9 := fun z => c15 (by rw [z])
      refine z_iconst F dX1_waitsFor_22 ?_
      rw [hQ]
      exact z_iret (nf_z (by omega)) F hr (Nat.le_of_ble_eq_true rfl) (Nat.le_of_ble_eq_true rfl) dX1_waitsFor_23 (⟨rI (by omega), rfl⟩)
    · have d15 : ρ 9 (ρ 25 k9) = c9 := (ci_cc hI (show 0 ≤ ρ 9 (ρ 25 k9) ∧ ρ 9 (ρ 25 k9) < ρ 2 0 ∧ ρ 9 (ρ 25 k9) < 100 from by omega) (show 0 ≤ c9 ∧ c9 < ρ 2 0 ∧ c9 < 100 from by omega)).mp (Option.some.inj c15)
      refine z_iconst F dX1_waitsFor_18 ?_
      refine z_goto (tgt := 23) F dX1_waitsFor_19 (by decide) ?_
      rw [hQ]
      exact z_iret (nf_z (by omega)) F hr (Nat.le_of_ble_eq_true rfl) (Nat.le_of_ble_eq_true rfl) dX1_waitsFor_23 (⟨rI (by omega), rfl⟩)
theorem CI.n1 {G : GG} {g : Int → Nat} {ρ ρ' : Sg} {h : Hp} (H : CI G g ρ' h) (a : Nat) (q : ∀ k, k ≠ a → ρ' k = ρ k) : CI G g (sw ρ a (ρ' a)) h := H.to (fun k j => by
  unfold sw
  by_cases z : k = a
  · subst z; simp
  · simp [z, q k z])
theorem CI.suw {G : GG} {g : Int → Nat} {ρ : Sg} {h : Hp} {k : Nat} {f : Int → Int} {i v : Int} (H : CI G g (su (sw ρ k f) k i v) h) : CI G g (sw ρ k (fun j => if j = i then v else f j)) h := H.to (fun k' j => by
  unfold su sw
  by_cases q : k' = k
  · simp only [if_pos q]
  · simp only [if_neg q])
theorem ceF_step {ρ : Sg} (hV : MC ρ) {a b fr : Int} (h0 : 0 ≤ fr ∧ fr ≤ a) (hab : a < b) (hd : b ≤ (a / 600 + 1) * 600) (hs : ∀ e, 0 ≤ e → e < ρ 8 0 → ¬ (a < ρ 10 e ∧ ρ 10 e < b) ∧ ¬ (a < ρ 11 e ∧ ρ 11 e < b)) {j : Int} (hj : 0 ≤ j) : ceF ρ fr (b - fr).toNat j = ceF ρ fr (a - fr).toNat j + (if (0 ≤ j ∧ j < 5 * ρ 8 0) ∧ j % 5 = a / 600 then (b - a) * shI ρ (j / 5) a else 0) := by
  unfold ceF
  by_cases q : j < 5 * ρ 8 0
  · rw [if_pos q, if_pos q, show (b - fr).toNat = (a - fr).toNat + (b - a).toNat by omega, sumI_add, show fr + ((a - fr).toNat : Int) = a by omega, stretch hV hab hd hs (by omega) (by omega)]
    by_cases w : j % 5 = a / 600
    · rw [if_pos w, if_pos ⟨⟨hj, q⟩, w⟩]
    · rw [if_neg w, if_neg (fun z => w z.2)]
  · rw [if_neg q, if_neg q, if_neg (fun z => q z.1.2)]
    rfl
theorem ceF_min {ρ : Sg} {a fr : Int} (h0 : 0 ≤ fr ∧ fr ≤ a) {j : Int} (hj : 0 ≤ j) : ceF ρ fr (a + 1 - fr).toNat j = ceF ρ fr (a - fr).toNat j + (if (0 ≤ j ∧ j < 5 * ρ 8 0) ∧ j % 5 = a / 600 then 1 * shI ρ (j / 5) a else 0) := by
  unfold ceF
  by_cases q : j < 5 * ρ 8 0
  · rw [if_pos q, if_pos q, show (a + 1 - fr).toNat = (a - fr).toNat + 1 by omega, sumI_add, show fr + ((a - fr).toNat : Int) = a by omega, minute1]
    by_cases w : j % 5 = a / 600
    · rw [if_pos w, if_pos ⟨⟨hj, q⟩, w⟩]
    · rw [if_neg w, if_neg (fun z => w z.2)]
  · rw [if_neg q, if_neg q, if_neg (fun z => q z.1.2)]
    rfl
/-- an entry's counted seconds by the cells as they stand -/
def sOf (ρ : Sg) (k : Nat) (e : Int) : Int := if ρ 12 e = 102 then ρ 13 e else sumI (ρ k) (5 * e) 5
set_option maxRecDepth 100000 in
set_option maxHeartbeats 4000000 in
theorem mX6_survey0 (l : Launch) (G : GG) (N0 : Nat) (h : Hp) (g : Int → Nat) (ρ : Sg) (m9 : Int) (hI : CI G g ρ h) (hV : MC ρ) (hm : 0 ≤ m9 ∧ m9 < 3000) : Ct l G N0 yX6_survey (Cond.code yX6_survey cX6_survey 5 none :: LW) ({ frames := 3, cells := 0, slots := 0, locals := 140 }) [vR (g 2), vI m9] h (fun r h' => r = none ∧ ∃ p9, CI G g (sw ρ 34 p9) h' ∧ p9 0 = cnt ρ m9 (ρ 8 0).toNat ∧ (0 < cnt ρ m9 (ρ 8 0).toNat → p9 1 = lat ρ m9 (ρ 8 0).toNat) ∧ -1 ≤ p9 1 ∧ p9 1 < 24) := by
  refine ct_of rfl rfl ?_
  intro p e s m args below meth c F hr hnm
  have F : Fx p s m args meth c RX6 cX6_survey 5 G N0 (cA h s.heap.size) := F
  obtain ⟨v0, v1, v2, v8, v16, v24, v39, vC, vE, vJ, vK, vB, vO⟩ := id hV
  obtain ⟨Q, hQ⟩ : ∃ z, z = MQ below (cQc G N0 h s.heap.size (fun r h' => r = none ∧ ∃ p9, CI G g (sw ρ 34 p9) h' ∧ p9 0 = cnt ρ m9 (ρ 8 0).toNat ∧ (0 < cnt ρ m9 (ρ 8 0).toNat → p9 1 = lat ρ m9 (ρ 8 0).toNat) ∧ -1 ≤ p9 1 ∧ p9 1 < 24)) args s 0 0 (cA h s.heap.size) := ⟨_, rfl⟩
  rw [← hQ]
  show Z _ _ _ _ _ _ _ _ _ _ _ _ _ _ _ _ _ _ _ [(0, vR (g 2)), (1, vI m9)] []
  refine z_aload_n F dX6_survey_0 rfl 0 rfl ?_
  refine z_iconst F dX6_survey_1 ?_
  obtain ⟨h1, eh1, Ih1⟩ : ∃ z : Hp, hu h (g 2) (eO 11 [vR (g 1), vR (g 4), vI 0, vI (ρ 34 1)]) = z ∧ CI G g (su ρ 34 0 0) z := ⟨_, rfl, cPf34_0 hI 0⟩
  refine z_put (fs := [vR (g 1), vR (g 4), vI (ρ 34 0), vI (ρ 34 1)]) (fs' := [vR (g 1), vR (g 4), vI 0, vI (ρ 34 1)]) (h' := h1) F (ci_2 hI) fX6_54 ftX6_2 (nf_i _) (Nat.le_of_ble_eq_true rfl) rfl dX6_survey_2 eh1 ?_
  refine z_aload_n F dX6_survey_5 rfl 0 rfl ?_
  refine z_iconst F dX6_survey_6 ?_
  obtain ⟨h2, eh2, Ih2⟩ : ∃ z : Hp, hu h1 (g 2) (eO 11 [vR (g 1), vR (g 4), vI 0, vI (-1)]) = z ∧ CI G g (su (su ρ 34 0 0) 34 1 (-1)) z := ⟨_, rfl, cPf34_1 Ih1 (-1)⟩
  refine z_put (fs := [vR (g 1), vR (g 4), vI 0, vI (ρ 34 1)]) (fs' := [vR (g 1), vR (g 4), vI 0, vI (-1)]) (h' := h2) F (ci_2 (ρ := (su ρ 34 0 0)) Ih1) fX6_74 ftX6_3 (nf_i _) (Nat.le_of_ble_eq_true rfl) rfl dX6_survey_7 eh2 ?_
  refine z_iconst F dX6_survey_10 ?_
  refine z_istore_n (lv' := [(2, vI (-1)), (0, vR (g 2)), (1, vI m9)]) F dX6_survey_11 rfl (by decide) rfl ?_
  refine z_iconst F dX6_survey_12 ?_
  refine z_istore_n (lv' := [(3, vI 0), (2, vI (-1)), (0, vR (g 2)), (1, vI m9)]) F dX6_survey_13 rfl (by decide) rfl ?_
  have L14 : ∀ (fuel : Nat) (ls9 : Int) (i9 : Int) (h9 : Hp) (p9 : Int → Int), (CI G g (sw ρ 34 p9) h9) → (0 ≤ i9 ∧ i9 ≤ ρ 8 0) → (p9 0 = cnt ρ m9 i9.toNat) → (-1 ≤ p9 1 ∧ p9 1 < 24) → ((p9 0 = 0 ∧ ls9 = -1) ∨ (0 < p9 0 ∧ p9 1 = lat ρ m9 i9.toNat ∧ ls9 = ρ 10 (lat ρ m9 i9.toNat) ∧ 0 ≤ p9 1 ∧ p9 1 < i9)) → ρ 8 0 - i9 < (fuel : Int) → Z p l e ({ frames := 3, cells := 0, slots := 0, locals := 140 }) s m args below meth c 5 G N0 (cA h s.heap.size) Q h9 0 0 14 [(3, vI i9), (2, vI ls9), (0, vR (g 2)), (1, vI m9)] [] := by
    intro fuel
    induction fuel with
    | zero => intro ls9 i9 h9  p9  hI9 ha hc hb hl hm; exact absurd hm (by omega)
    | succ fuel ih14 =>
      intro ls9 i9 h9  p9  hI9 ha hc hb hl hm
      have E_i9 := fun q9 => vE i9 (by omega) q9
      have hcn := cnt_in ρ m9 i9.toNat
      have hlt : (0 < p9 0 → 0 ≤ p9 1 ∧ p9 1 < ρ 8 0) := fun q => by omega
      have hst : 0 < p9 0 → 0 ≤ ρ 10 (lat ρ m9 i9.toNat) ∧ ρ 10 (lat ρ m9 i9.toNat) ≤ 2999 := fun q => by
        have := vE (lat ρ m9 i9.toNat) (by omega) (by omega)
        omega
      refine z_iload_n F dX6_survey_14 rfl 0 rfl ?_
      refine z_aload_n F dX6_survey_15 rfl 2 rfl ?_
      refine z_get (v := vR (g 1)) F (ci_2 (ρ := (sw ρ 34 p9)) hI9) fX6_15 rfl dX6_survey_16 ?_
      refine z_get (v := vR (g 15)) F (ci_1 (ρ := (sw ρ 34 p9)) hI9) fX6_44 rfl dX6_survey_19 ?_
      refine z_callV (As := []) (st := [vI i9]) F (mJx4a65c_size_8abf5 l G N0 h9 (g 15) ((ρ 40 3).toNat) 0 (ρ 32 3) (ρ 8 0) (fun _ => none) (ci_15 (ρ := (sw ρ 34 p9)) hI9)) cvX6_48 (ci_15 (ρ := (sw ρ 34 p9)) hI9) (fun r9 h9 => by cases h9; rfl) rfl rfl ⟨Nat.le_of_ble_eq_true rfl, Nat.le_of_ble_eq_true rfl⟩ rfl ⟨Nat.le_of_ble_eq_true rfl, Nat.le_of_ble_eq_true rfl⟩ dX6_survey_22 ?_
      rintro _ h9 ⟨rfl, hh9⟩
      rw [hh9]
      clear hh9 h9
      show Z _ _ _ _ _ _ _ _ _ _ _ _ _ _ _ _ _ _ _ _ [vI (ρ 8 0), vI i9]
      refine z_icmp_ge (tgt := 89) F dX6_survey_25 (by decide) (by omega) (by omega) (fun c25 => ?_) (fun c25 => ?_)
      · rw [hQ]
        exact z_vret F hr (Nat.le_of_ble_eq_true rfl) (Nat.le_of_ble_eq_true rfl) dX6_survey_89 (⟨rfl, p9, hI9, by rw [hc, show i9 = ρ 8 0 by omega], fun q => by rw [show ρ 8 0 = i9 by omega] at q ⊢; omega, hb⟩)
      · refine z_aload_n F dX6_survey_28 rfl 2 rfl ?_
        refine z_get (v := vR (g 1)) F (ci_2 (ρ := (sw ρ 34 p9)) hI9) fX6_15 rfl dX6_survey_29 ?_
        refine z_get (v := vR (g 15)) F (ci_1 (ρ := (sw ρ 34 p9)) hI9) fX6_44 rfl dX6_survey_32 ?_
        refine z_iload_n F dX6_survey_35 rfl 0 rfl ?_
        refine z_callV (As := [vI i9]) (st := []) F (cGet3 l G N0 h9 g (sw ρ 34 p9) i9 hI9 (show 0 ≤ i9 ∧ i9 < ρ 8 0 from by omega)) cvX6_58 (ci_15 (ρ := (sw ρ 34 p9)) hI9) (fun r9 h9 => by cases h9; rfl) rfl rfl ⟨Nat.le_of_ble_eq_true rfl, Nat.le_of_ble_eq_true rfl⟩ rfl ⟨Nat.le_of_ble_eq_true rfl, Nat.le_of_ble_eq_true rfl⟩ dX6_survey_36 ?_
        rintro _ h9 ⟨rfl, hh9⟩
        rw [hh9]
        clear hh9 h9
        show Z _ _ _ _ _ _ _ _ _ _ _ _ _ _ _ _ _ _ _ _ [vR (aE ρ i9)]
        refine z_cast F (ci_e (ρ := (sw ρ 34 p9)) hI9 (show 0 ≤ i9 ∧ i9 < ρ 8 0 ∧ i9 < 100 from by omega)) q645 (fun r9 h9 => by cases h9; rfl) dX6_survey_39 ?_
        refine z_astore (lv' := [(4, vR (aE ρ i9)), (3, vI i9), (2, vI ls9), (0, vR (g 2)), (1, vI m9)]) F dX6_survey_42 (by decide) rfl ?_
        refine z_aload F dX6_survey_44 0 rfl ?_
        refine z_iload_n F dX6_survey_46 rfl 4 rfl ?_
        have cv47 := cvI_in ρ i9 m9
        refine z_callV (As := [vI m9]) (st := []) F (mX2_covers l G N0 h9 (aE ρ i9) i9 (aC ρ (ρ 9 i9)) (ρ 10 i9) (ρ 11 i9) (ρ 12 i9) (ρ 13 i9) m9 (ci_e (ρ := (sw ρ 34 p9)) hI9 (show 0 ≤ i9 ∧ i9 < ρ 8 0 ∧ i9 < 100 from by omega)) (by omega) (by omega) (by omega) (by omega)) cvX6_64 (ci_e (ρ := (sw ρ 34 p9)) hI9 (show 0 ≤ i9 ∧ i9 < ρ 8 0 ∧ i9 < 100 from by omega)) (fun r9 h9 => by cases h9; rfl) rfl rfl ⟨Nat.le_of_ble_eq_true rfl, Nat.le_of_ble_eq_true rfl⟩ rfl ⟨Nat.le_of_ble_eq_true rfl, Nat.le_of_ble_eq_true rfl⟩ dX6_survey_47 ?_
        rintro _ h9 ⟨rfl, hh9⟩
        rw [hh9]
        clear hh9 h9
        rw [cvI_a hV (e := i9) (m := m9) (by omega) (by omega)]
        show Z _ _ _ _ _ _ _ _ _ _ _ _ _ _ _ _ _ _ _ _ [vI (cvI ρ i9 m9)]
        refine z_if_eq (tgt := 83) F dX6_survey_50 (by decide) (by omega) (fun c50 => ?_) (fun c50 => ?_)
        · refine z_iinc (lv' := [(3, vI (i9 + 1)), (4, vR (aE ρ i9)), (2, vI ls9), (0, vR (g 2)), (1, vI m9)]) F dX6_survey_83 1 rfl (by decide) rfl ?_
          refine z_goto (tgt := 14) F dX6_survey_86 (by decide) ?_
          refine z_pick (lv' := [(3, vI (i9 + 1)), (2, vI ls9), (0, vR (g 2)), (1, vI m9)]) [0, 2, 3, 4] rfl ?_
          exact ih14 ls9 (i9 + 1) h9 ((sw ρ 34 p9) 34) (CI.n1 hI9 34 (fun k hk => by funext j; simp [su, sw, hk])) (by omega) ((show p9 0 = cnt ρ m9 (i9 + 1).toNat from by rw [cnt_s ρ m9 (by omega)]; omega)) ((show -1 ≤ p9 1 ∧ p9 1 < 24 from by omega)) ((show (p9 0 = 0 ∧ ls9 = -1) ∨ (0 < p9 0 ∧ p9 1 = lat ρ m9 (i9 + 1).toNat ∧ ls9 = ρ 10 (lat ρ m9 (i9 + 1).toNat) ∧ 0 ≤ p9 1 ∧ p9 1 < i9 + 1) from by rw [lat_s ρ m9 (by omega)]; first | (rw [if_pos (show cvI ρ i9 m9 = 1 ∧ (cnt ρ m9 i9.toNat = 0 ∨ ρ 10 (lat ρ m9 i9.toNat) ≤ ρ 10 i9) from by omega)]; omega) | (rw [if_neg (show ¬ (cvI ρ i9 m9 = 1 ∧ (cnt ρ m9 i9.toNat = 0 ∨ ρ 10 (lat ρ m9 i9.toNat) ≤ ρ 10 i9)) from by omega)]; omega))) (by omega)
        · refine z_aload_n F dX6_survey_53 rfl 3 rfl ?_
          refine z_dup F dX6_survey_54 rfl ?_
          refine z_get (v := vI (p9 0)) F (ci_2 (ρ := (sw ρ 34 p9)) hI9) fX6_54 rfl dX6_survey_55 ?_
          refine z_iconst F dX6_survey_58 ?_
          refine z_iadd F dX6_survey_59 ?_
          obtain ⟨h3, eh3, Ih3⟩ : ∃ z : Hp, hu h9 (g 2) (eO 11 [vR (g 1), vR (g 4), vI ((p9 0) + 1), vI (p9 1)]) = z ∧ CI G g (su (sw ρ 34 p9) 34 0 ((p9 0) + 1)) z := ⟨_, rfl, cPf34_0 hI9 ((p9 0) + 1)⟩
          refine z_put (fs := [vR (g 1), vR (g 4), vI (p9 0), vI (p9 1)]) (fs' := [vR (g 1), vR (g 4), vI ((p9 0) + 1), vI (p9 1)]) (h' := h3) F (ci_2 (ρ := (sw ρ 34 p9)) hI9) fX6_54 ftX6_2 (nf_i _) (Nat.le_of_ble_eq_true rfl) rfl dX6_survey_60 eh3 ?_
          refine z_aload F dX6_survey_63 0 rfl ?_
          refine z_get (v := vI (ρ 10 i9)) F (ci_e (ρ := (su (sw ρ 34 p9) 34 0 ((p9 0) + 1))) Ih3 (show 0 ≤ i9 ∧ i9 < ρ 8 0 ∧ i9 < 100 from by omega)) fX6_77 rfl dX6_survey_65 ?_
          refine z_iload_n F dX6_survey_68 rfl 2 rfl ?_
          refine z_icmp_lt (tgt := 83) F dX6_survey_69 (by decide) (by omega) (by omega) (fun c69 => ?_) (fun c69 => ?_)
          · refine z_iinc (lv' := [(3, vI (i9 + 1)), (4, vR (aE ρ i9)), (2, vI ls9), (0, vR (g 2)), (1, vI m9)]) F dX6_survey_83 1 rfl (by decide) rfl ?_
            refine z_goto (tgt := 14) F dX6_survey_86 (by decide) ?_
            refine z_pick (lv' := [(3, vI (i9 + 1)), (2, vI ls9), (0, vR (g 2)), (1, vI m9)]) [0, 2, 3, 4] rfl ?_
            exact ih14 ls9 (i9 + 1) h3 ((su (sw ρ 34 p9) 34 0 ((p9 0) + 1)) 34) (CI.n1 Ih3 34 (fun k hk => by funext j; simp [su, sw, hk])) (by omega) ((show (p9 0) + 1 = cnt ρ m9 (i9 + 1).toNat from by rw [cnt_s ρ m9 (by omega)]; omega)) ((show -1 ≤ p9 1 ∧ p9 1 < 24 from by omega)) ((show ((p9 0) + 1 = 0 ∧ ls9 = -1) ∨ (0 < (p9 0) + 1 ∧ p9 1 = lat ρ m9 (i9 + 1).toNat ∧ ls9 = ρ 10 (lat ρ m9 (i9 + 1).toNat) ∧ 0 ≤ p9 1 ∧ p9 1 < i9 + 1) from by rw [lat_s ρ m9 (by omega)]; first | (rw [if_pos (show cvI ρ i9 m9 = 1 ∧ (cnt ρ m9 i9.toNat = 0 ∨ ρ 10 (lat ρ m9 i9.toNat) ≤ ρ 10 i9) from by omega)]; omega) | (rw [if_neg (show ¬ (cvI ρ i9 m9 = 1 ∧ (cnt ρ m9 i9.toNat = 0 ∨ ρ 10 (lat ρ m9 i9.toNat) ≤ ρ 10 i9)) from by omega)]; omega))) (by omega)
          · refine z_aload_n F dX6_survey_72 rfl 3 rfl ?_
            refine z_iload_n F dX6_survey_73 rfl 1 rfl ?_
            obtain ⟨h4, eh4, Ih4⟩ : ∃ z : Hp, hu h3 (g 2) (eO 11 [vR (g 1), vR (g 4), vI ((p9 0) + 1), vI i9]) = z ∧ CI G g (su (su (sw ρ 34 p9) 34 0 ((p9 0) + 1)) 34 1 i9) z := ⟨_, rfl, cPf34_1 Ih3 i9⟩
            refine z_put (fs := [vR (g 1), vR (g 4), vI ((p9 0) + 1), vI (p9 1)]) (fs' := [vR (g 1), vR (g 4), vI ((p9 0) + 1), vI i9]) (h' := h4) F (ci_2 (ρ := (su (sw ρ 34 p9) 34 0 ((p9 0) + 1))) Ih3) fX6_74 ftX6_3 (nf_i _) (Nat.le_of_ble_eq_true rfl) rfl dX6_survey_74 eh4 ?_
            refine z_aload F dX6_survey_77 0 rfl ?_
            refine z_get (v := vI (ρ 10 i9)) F (ci_e (ρ := (su (su (sw ρ 34 p9) 34 0 ((p9 0) + 1)) 34 1 i9)) Ih4 (show 0 ≤ i9 ∧ i9 < ρ 8 0 ∧ i9 < 100 from by omega)) fX6_77 rfl dX6_survey_79 ?_
            refine z_istore_n (lv' := [(2, vI (ρ 10 i9)), (4, vR (aE ρ i9)), (3, vI i9), (0, vR (g 2)), (1, vI m9)]) F dX6_survey_82 rfl (by decide) rfl ?_
            refine z_iinc (lv' := [(3, vI (i9 + 1)), (2, vI (ρ 10 i9)), (4, vR (aE ρ i9)), (0, vR (g 2)), (1, vI m9)]) F dX6_survey_83 2 rfl (by decide) rfl ?_
            refine z_goto (tgt := 14) F dX6_survey_86 (by decide) ?_
            refine z_pick (lv' := [(3, vI (i9 + 1)), (2, vI (ρ 10 i9)), (0, vR (g 2)), (1, vI m9)]) [0, 1, 3, 4] rfl ?_
            exact ih14 (ρ 10 i9) (i9 + 1) h4 ((su (su (sw ρ 34 p9) 34 0 ((p9 0) + 1)) 34 1 i9) 34) (CI.n1 Ih4 34 (fun k hk => by funext j; simp [su, sw, hk])) (by omega) ((show (p9 0) + 1 = cnt ρ m9 (i9 + 1).toNat from by rw [cnt_s ρ m9 (by omega)]; omega)) ((show -1 ≤ i9 ∧ i9 < 24 from by omega)) ((show ((p9 0) + 1 = 0 ∧ (ρ 10 i9) = -1) ∨ (0 < (p9 0) + 1 ∧ i9 = lat ρ m9 (i9 + 1).toNat ∧ (ρ 10 i9) = ρ 10 (lat ρ m9 (i9 + 1).toNat) ∧ 0 ≤ i9 ∧ i9 < i9 + 1) from by rw [lat_s ρ m9 (by omega)]; first | (rw [if_pos (show cvI ρ i9 m9 = 1 ∧ (cnt ρ m9 i9.toNat = 0 ∨ ρ 10 (lat ρ m9 i9.toNat) ≤ ρ 10 i9) from by omega)]; omega) | (rw [if_neg (show ¬ (cvI ρ i9 m9 = 1 ∧ (cnt ρ m9 i9.toNat = 0 ∨ ρ 10 (lat ρ m9 i9.toNat) ≤ ρ 10 i9)) from by omega)]; omega))) (by omega)
  exact L14 ((ρ 8 0 - 0 : Int).toNat + 1) (-1) 0 h2 ((su (su ρ 34 0 0) 34 1 (-1)) 34) (CI.n1 Ih2 34 (fun k hk => by funext j; simp [su, sw, hk])) (by omega) (rfl) ((show -1 ≤ (-1 : Int) ∧ (-1 : Int) < 24 from by decide)) (Or.inl ⟨rfl, rfl⟩) (by omega)
set_option maxRecDepth 100000 in
set_option maxHeartbeats 4000000 in
theorem mX6_secondsAt0 (l : Launch) (G : GG) (N0 : Nat) (h : Hp) (g : Int → Nat) (ρ : Sg) (pl n9 : Int) (hI : CI G g ρ h) (hru : ρ 1 0 = 102 ∨ ρ 1 0 = 108 ∨ ρ 1 0 = 115) (hac : 0 < ρ 34 0 ∧ ρ 34 0 ≤ 24) (hla : -1 ≤ ρ 34 1 ∧ ρ 34 1 < 24) (hpl : 0 ≤ pl ∧ pl ≤ 24) (hn9 : 0 ≤ n9 ∧ n9 < 24) : Ct l G N0 yX6_secondsAt (Cond.code yX6_secondsAt cX6_secondsAt 4 (some FieldType.int) :: LW) ({ frames := 0, cells := 0, slots := 0, locals := 0 }) [vR (g 2), vI pl, vI n9] h (fun r h' => r = some (vI (shR (ρ 1 0) n9 (ρ 34 0) pl (ρ 34 1))) ∧ h' = h) := by
  refine ct_of rfl rfl ?_
  intro p e s m args below meth c F hr hnm
  have F : Fx p s m args meth c RX6 cX6_secondsAt 4 G N0 (cA h s.heap.size) := F
  obtain ⟨qd, hQd⟩ : ∃ z, 60 / ρ 34 0 = z := ⟨_, rfl⟩
  obtain ⟨qm, hQm⟩ : ∃ z, 60 % ρ 34 0 = z := ⟨_, rfl⟩
  have hqm : 0 ≤ qm ∧ qm < 60 := by rw [← hQm]; exact ⟨Int.emod_nonneg _ (by omega), Int.lt_of_lt_of_le (Int.emod_lt_of_pos _ hac.1) (by omega)⟩
  obtain ⟨Q, hQ⟩ : ∃ z, z = MQ below (cQc G N0 h s.heap.size (fun r h' => r = some (vI (shR (ρ 1 0) n9 (ρ 34 0) pl (ρ 34 1))) ∧ h' = h)) args s 0 0 (cA h s.heap.size) := ⟨_, rfl⟩
  rw [← hQ]
  show Z _ _ _ _ _ _ _ _ _ _ _ _ _ _ _ _ _ _ _ [(0, vR (g 2)), (1, vI pl), (2, vI n9)] []
  refine z_aload_n F dX6_secondsAt_0 rfl 0 rfl ?_
  refine z_get (v := vR (g 1)) F (ci_2 hI) fX6_15 rfl dX6_secondsAt_1 ?_
  refine z_get (v := vI (ρ 1 0)) F (ci_1 hI) fX6_80 rfl dX6_secondsAt_4 ?_
  refine z_bipush F dX6_secondsAt_7 (by decide) ?_
  refine z_icmp_ne (tgt := 15) F dX6_secondsAt_9 (by decide) (by omega) (by decide) (fun c9 => ?_) (fun c9 => ?_)
  · refine z_aload_n F dX6_secondsAt_15 rfl 0 rfl ?_
    refine z_get (v := vR (g 1)) F (ci_2 hI) fX6_15 rfl dX6_secondsAt_16 ?_
    refine z_get (v := vI (ρ 1 0)) F (ci_1 hI) fX6_80 rfl dX6_secondsAt_19 ?_
    refine z_bipush F dX6_secondsAt_22 (by decide) ?_
    refine z_icmp_ne (tgt := 42) F dX6_secondsAt_24 (by decide) (by omega) (by decide) (fun c24 => ?_) (fun c24 => ?_)
    · refine z_aload_n F dX6_secondsAt_42 rfl 0 rfl ?_
      refine z_get (v := vI (ρ 34 0)) F (ci_2 hI) fX6_54 rfl dX6_secondsAt_43 ?_
      refine z_if_gt (tgt := 51) F dX6_secondsAt_46 (by decide) (by omega) (fun c46 => ?_) (fun c46 => ?_)
      · refine z_iload_n F dX6_secondsAt_51 rfl 1 rfl ?_
        refine z_bipush F dX6_secondsAt_52 (by decide) ?_
        refine z_aload_n F dX6_secondsAt_54 rfl 0 rfl ?_
        refine z_get (v := vI (ρ 34 0)) F (ci_2 hI) fX6_54 rfl dX6_secondsAt_55 ?_
        refine z_irem F dX6_secondsAt_58 (by decide) (by omega) ?_
        show Z _ _ _ _ _ _ _ _ _ _ _ _ _ _ _ _ _ _ _ _ [vI (60 % ρ 34 0), vI pl]
        rw [hQm]
        refine z_icmp_ge (tgt := 66) F dX6_secondsAt_59 (by decide) (by omega) (by omega) (fun c59 => ?_) (fun c59 => ?_)
        · refine z_iconst F dX6_secondsAt_66 ?_
          refine z_istore_n (lv' := [(3, vI 0), (0, vR (g 2)), (1, vI pl), (2, vI n9)]) F dX6_secondsAt_67 rfl (by decide) rfl ?_
          refine z_bipush F dX6_secondsAt_68 (by decide) ?_
          refine z_aload_n F dX6_secondsAt_70 rfl 1 rfl ?_
          refine z_get (v := vI (ρ 34 0)) F (ci_2 hI) fX6_54 rfl dX6_secondsAt_71 ?_
          refine z_idiv F dX6_secondsAt_74 (by decide) (by omega) ?_
          show Z _ _ _ _ _ _ _ _ _ _ _ _ _ _ _ _ _ _ _ _ [vI (60 / ρ 34 0)]
          rw [hQd]
          refine z_iload_n F dX6_secondsAt_75 rfl 0 rfl ?_
          refine z_iadd F dX6_secondsAt_76 ?_
          rw [hQ]
          exact z_iret (nf_i _) F hr (Nat.le_of_ble_eq_true rfl) (Nat.le_of_ble_eq_true rfl) dX6_secondsAt_77 (⟨rI (by unfold shR; simp only [hQd, hQm] at *; omega), rfl⟩)
        · refine z_iconst F dX6_secondsAt_62 ?_
          refine z_goto (tgt := 67) F dX6_secondsAt_63 (by decide) ?_
          refine z_istore_n (lv' := [(3, vI 1), (0, vR (g 2)), (1, vI pl), (2, vI n9)]) F dX6_secondsAt_67 rfl (by decide) rfl ?_
          refine z_bipush F dX6_secondsAt_68 (by decide) ?_
          refine z_aload_n F dX6_secondsAt_70 rfl 1 rfl ?_
          refine z_get (v := vI (ρ 34 0)) F (ci_2 hI) fX6_54 rfl dX6_secondsAt_71 ?_
          refine z_idiv F dX6_secondsAt_74 (by decide) (by omega) ?_
          show Z _ _ _ _ _ _ _ _ _ _ _ _ _ _ _ _ _ _ _ _ [vI (60 / ρ 34 0)]
          rw [hQd]
          refine z_iload_n F dX6_secondsAt_75 rfl 0 rfl ?_
          refine z_iadd F dX6_secondsAt_76 ?_
          rw [hQ]
          exact z_iret (nf_i _) F hr (Nat.le_of_ble_eq_true rfl) (Nat.le_of_ble_eq_true rfl) dX6_secondsAt_77 (⟨rI (by unfold shR; simp only [hQd, hQm] at *; omega), rfl⟩)
      · exfalso; omega
    · refine z_iload_n F dX6_secondsAt_27 rfl 2 rfl ?_
      refine z_aload_n F dX6_secondsAt_28 rfl 0 rfl ?_
      refine z_get (v := vI (ρ 34 1)) F (ci_2 hI) fX6_74 rfl dX6_secondsAt_29 ?_
      refine z_icmp_ne (tgt := 40) F dX6_secondsAt_32 (by decide) (by omega) (by omega) (fun c32 => ?_) (fun c32 => ?_)
      · refine z_iconst F dX6_secondsAt_40 ?_
        rw [hQ]
        exact z_iret (nf_i _) F hr (Nat.le_of_ble_eq_true rfl) (Nat.le_of_ble_eq_true rfl) dX6_secondsAt_41 (⟨rI (by unfold shR; simp only [hQd, hQm] at *; omega), rfl⟩)
      · refine z_bipush F dX6_secondsAt_35 (by decide) ?_
        refine z_goto (tgt := 41) F dX6_secondsAt_37 (by decide) ?_
        rw [hQ]
        exact z_iret (nf_i _) F hr (Nat.le_of_ble_eq_true rfl) (Nat.le_of_ble_eq_true rfl) dX6_secondsAt_41 (⟨rI (by unfold shR; simp only [hQd, hQm] at *; omega), rfl⟩)
  · refine z_bipush F dX6_secondsAt_12 (by decide) ?_
    rw [hQ]
    exact z_iret (nf_i _) F hr (Nat.le_of_ble_eq_true rfl) (Nat.le_of_ble_eq_true rfl) dX6_secondsAt_14 (⟨rI (by unfold shR; simp only [hQd, hQm] at *; omega), rfl⟩)
set_option maxRecDepth 100000 in
set_option maxHeartbeats 4000000 in
theorem mX6_addToCell0 (l : Launch) (G : GG) (N0 : Nat) (h : Hp) (g : Int → Nat) (ρ : Sg) (c9 s9 : Int) (hI : CI G g ρ h) (hc : 0 ≤ c9 ∧ c9 < 120) : Ct l G N0 yX6_addToCell (Cond.code yX6_addToCell cX6_addToCell 3 none :: LW) ({ frames := 0, cells := 0, slots := 0, locals := 0 }) [vR (g 2), vI c9, vI s9] h (fun r h' => r = none ∧ CI G g (su ρ 14 c9 (ρ 14 c9 + s9)) h') := by
  refine ct_of rfl rfl ?_
  intro p e s m args below meth c F hr hnm
  have F : Fx p s m args meth c RX6 cX6_addToCell 3 G N0 (cA h s.heap.size) := F
  obtain ⟨Q, hQ⟩ : ∃ z, z = MQ below (cQc G N0 h s.heap.size (fun r h' => r = none ∧ CI G g (su ρ 14 c9 (ρ 14 c9 + s9)) h')) args s 0 0 (cA h s.heap.size) := ⟨_, rfl⟩
  rw [← hQ]
  show Z _ _ _ _ _ _ _ _ _ _ _ _ _ _ _ _ _ _ _ [(0, vR (g 2)), (1, vI c9), (2, vI s9)] []
  refine z_iload_n F dX6_addToCell_0 rfl 1 rfl ?_
  refine z_if_lt (tgt := 23) F dX6_addToCell_1 (by decide) (by omega) (fun c1 => ?_) (fun c1 => ?_)
  · exfalso; omega
  · refine z_iload_n F dX6_addToCell_4 rfl 1 rfl ?_
    refine z_aload_n F dX6_addToCell_5 rfl 0 rfl ?_
    refine z_get (v := vR (g 4)) F (ci_2 hI) fX6_9 rfl dX6_addToCell_6 ?_
    refine z_alen F (ci_4 hI) (by decide) dX6_addToCell_9 ?_
    refine z_icmp_ge (tgt := 23) F dX6_addToCell_10 (by decide) (by omega) (by decide) (fun c10 => ?_) (fun c10 => ?_)
    · exfalso; omega
    · refine z_aload_n F dX6_addToCell_13 rfl 0 rfl ?_
      refine z_get (v := vR (g 4)) F (ci_2 hI) fX6_9 rfl dX6_addToCell_14 ?_
      refine z_iload_n F dX6_addToCell_17 rfl 1 rfl ?_
      refine z_dup2 F dX6_addToCell_18 rfl rfl ?_
      refine z_iaload (N := 120) (f := fun j => ρ 14 j) F (ci_4 hI) (by omega) (by omega) (by omega) dX6_addToCell_19 ?_
      refine z_iload_n F dX6_addToCell_20 rfl 2 rfl ?_
      refine z_iadd F dX6_addToCell_21 ?_
      obtain ⟨h1, eh1, Ih1⟩ : ∃ z : Hp, hu h (g 4) (eA 0 120 (fun j => vI (if j = c9 then (ρ 14 c9) + s9 else ρ 14 j))) = z ∧ CI G g (su ρ 14 c9 ((ρ 14 c9) + s9)) z := ⟨_, rfl, cPsu14 hI c9 ((ρ 14 c9) + s9)⟩
      refine z_iastore (N := 120) (f := fun j => ρ 14 j) (h' := h1) F (ci_4 hI) (by omega) (by omega) (by omega) dX6_addToCell_22 eh1 ?_
      rw [hQ]
      exact z_vret F hr (Nat.le_of_ble_eq_true rfl) (Nat.le_of_ble_eq_true rfl) dX6_addToCell_23 (⟨rfl, Ih1⟩)
set_option maxRecDepth 100000 in
set_option maxHeartbeats 4000000 in
theorem mX6_addStretch0 (l : Launch) (G : GG) (N0 : Nat) (h : Hp) (g : Int → Nat) (ρ : Sg) (m9 k9 : Int) (hI : CI G g ρ h) (hV : MC ρ) (hm : 0 ≤ m9 ∧ m9 < 3000) (hk : 1 ≤ k9 ∧ k9 ≤ 3000) : Ct l G N0 yX6_addStretch (Cond.code yX6_addStretch cX6_addStretch 5 none :: LW) ({ frames := 4, cells := 0, slots := 0, locals := 180 }) [vR (g 2), vI m9, vI k9] h (fun r h' => r = none ∧ ∃ pv f9, CI G g (sw (sw ρ 34 pv) 14 f9) h' ∧ ∀ j, f9 j = ρ 14 j + (if (0 ≤ j ∧ j < 5 * ρ 8 0) ∧ j % 5 = m9 / 600 then k9 * shI ρ (j / 5) m9 else 0)) := by
  refine ct_of rfl rfl ?_
  intro p e s m args below meth c F hr hnm
  have F : Fx p s m args meth c RX6 cX6_addStretch 5 G N0 (cA h s.heap.size) := F
  obtain ⟨v0, v1, v2, v8, v16, v24, v39, vC, vE, vJ, vK, vB, vO⟩ := id hV
  obtain ⟨Q, hQ⟩ : ∃ z, z = MQ below (cQc G N0 h s.heap.size (fun r h' => r = none ∧ ∃ pv f9, CI G g (sw (sw ρ 34 pv) 14 f9) h' ∧ ∀ j, f9 j = ρ 14 j + (if (0 ≤ j ∧ j < 5 * ρ 8 0) ∧ j % 5 = m9 / 600 then k9 * shI ρ (j / 5) m9 else 0))) args s 0 0 (cA h s.heap.size) := ⟨_, rfl⟩
  rw [← hQ]
  show Z _ _ _ _ _ _ _ _ _ _ _ _ _ _ _ _ _ _ _ [(0, vR (g 2)), (1, vI m9), (2, vI k9)] []
  refine z_aload_n F dX6_addStretch_0 rfl 0 rfl ?_
  refine z_iload_n F dX6_addStretch_1 rfl 1 rfl ?_
  refine z_callV (As := [vI m9]) (st := []) F (mX6_survey0 l G N0 h g ρ m9 hI hV hm) cvX6_40 (ci_2 hI) (fun r9 h9 => by cases h9; rfl) rfl rfl ⟨Nat.le_of_ble_eq_true rfl, Nat.le_of_ble_eq_true rfl⟩ rfl ⟨Nat.le_of_ble_eq_true rfl, Nat.le_of_ble_eq_true rfl⟩ dX6_addStretch_2 ?_
  rintro _ h7 ⟨rfl, pv, I7, hpa, hpb, hpr⟩
  have hcn := cnt_in ρ m9 (ρ 8 0).toNat
  show Z _ _ _ _ _ _ _ _ _ _ _ _ _ _ _ _ _ _ _ _ []
  refine z_iconst F dX6_addStretch_5 ?_
  refine z_istore_n (lv' := [(3, vI 0), (0, vR (g 2)), (1, vI m9), (2, vI k9)]) F dX6_addStretch_6 rfl (by decide) rfl ?_
  refine z_iconst F dX6_addStretch_7 ?_
  refine z_istore (lv' := [(4, vI 0), (3, vI 0), (0, vR (g 2)), (1, vI m9), (2, vI k9)]) F dX6_addStretch_8 (by decide) rfl ?_
  have L10 : ∀ (fuel : Nat) (pl9 : Int) (i9 : Int) (h8 : Hp) (f9 : Int → Int), (CI G g (sw (sw ρ 34 pv) 14 f9) h8) → (0 ≤ i9 ∧ i9 ≤ ρ 8 0) → (pl9 = cnt ρ m9 i9.toNat) → (∀ j, f9 j = ρ 14 j + (if (0 ≤ j ∧ j < 5 * i9) ∧ j % 5 = m9 / 600 then k9 * shI ρ (j / 5) m9 else 0)) → ρ 8 0 - i9 < (fuel : Int) → Z p l e ({ frames := 4, cells := 0, slots := 0, locals := 180 }) s m args below meth c 5 G N0 (cA h s.heap.size) Q h8 0 0 10 [(4, vI i9), (3, vI pl9), (0, vR (g 2)), (1, vI m9), (2, vI k9)] [] := by
    intro fuel
    induction fuel with
    | zero => intro pl9 i9 h8  f9  hI8 ha hpl hf hm; exact absurd hm (by omega)
    | succ fuel ih10 =>
      intro pl9 i9 h8  f9  hI8 ha hpl hf hm
      have E_i9 := fun q9 => vE i9 (by omega) q9
      have hci := cnt_in ρ m9 i9.toNat
      have hcm := cnt_mono ρ m9 i9.toNat (ρ 8 0).toNat (by omega)
      refine z_iload F dX6_addStretch_10 0 rfl ?_
      refine z_aload_n F dX6_addStretch_12 rfl 2 rfl ?_
      refine z_get (v := vR (g 1)) F (ci_2 (ρ := (sw (sw ρ 34 pv) 14 f9)) hI8) fX6_15 rfl dX6_addStretch_13 ?_
      refine z_get (v := vR (g 15)) F (ci_1 (ρ := (sw (sw ρ 34 pv) 14 f9)) hI8) fX6_44 rfl dX6_addStretch_16 ?_
      refine z_callV (As := []) (st := [vI i9]) F (mJx4a65c_size_8abf5 l G N0 h8 (g 15) ((ρ 40 3).toNat) 0 (ρ 32 3) (ρ 8 0) (fun _ => none) (ci_15 (ρ := (sw (sw ρ 34 pv) 14 f9)) hI8)) cvX6_48 (ci_15 (ρ := (sw (sw ρ 34 pv) 14 f9)) hI8) (fun r9 h9 => by cases h9; rfl) rfl rfl ⟨Nat.le_of_ble_eq_true rfl, Nat.le_of_ble_eq_true rfl⟩ rfl ⟨Nat.le_of_ble_eq_true rfl, Nat.le_of_ble_eq_true rfl⟩ dX6_addStretch_19 ?_
      rintro _ h9 ⟨rfl, hh9⟩
      rw [hh9]
      clear hh9 h9
      show Z _ _ _ _ _ _ _ _ _ _ _ _ _ _ _ _ _ _ _ _ [vI (ρ 8 0), vI i9]
      refine z_icmp_ge (tgt := 87) F dX6_addStretch_22 (by decide) (by omega) (by omega) (fun c22 => ?_) (fun c22 => ?_)
      · rw [hQ]
        exact z_vret F hr (Nat.le_of_ble_eq_true rfl) (Nat.le_of_ble_eq_true rfl) dX6_addStretch_87 (⟨rfl, pv, f9, hI8, fun j => by
                  rw [hf]
                  by_cases q2 : (0 ≤ j ∧ j < 5 * i9) ∧ j % 5 = m9 / 600
                  · rw [if_pos q2, if_pos (by omega)]
                  · rw [if_neg q2]
                    by_cases q3 : (0 ≤ j ∧ j < 5 * ρ 8 0) ∧ j % 5 = m9 / 600
                    · rw [if_pos q3, shI_n (cnt_z (e := j / 5) (n := (ρ 8 0).toNat) (k := i9.toNat) (by omega) (by omega) (by omega) (by omega)), Int.mul_zero]
                    · rw [if_neg q3]⟩)
      · refine z_iload_n F dX6_addStretch_25 rfl 1 rfl ?_
        refine z_aload_n F dX6_addStretch_26 rfl 2 rfl ?_
        refine z_get (v := vI (pv 0)) F (ci_2 (ρ := (sw (sw ρ 34 pv) 14 f9)) hI8) fX6_54 rfl dX6_addStretch_27 ?_
        refine z_icmp_ge (tgt := 87) F dX6_addStretch_30 (by decide) (by omega) (by omega) (fun c30 => ?_) (fun c30 => ?_)
        · rw [hQ]
          exact z_vret F hr (Nat.le_of_ble_eq_true rfl) (Nat.le_of_ble_eq_true rfl) dX6_addStretch_87 (⟨rfl, pv, f9, hI8, fun j => by
                      rw [hf]
                      by_cases q2 : (0 ≤ j ∧ j < 5 * i9) ∧ j % 5 = m9 / 600
                      · rw [if_pos q2, if_pos (by omega)]
                      · rw [if_neg q2]
                        by_cases q3 : (0 ≤ j ∧ j < 5 * ρ 8 0) ∧ j % 5 = m9 / 600
                        · rw [if_pos q3, shI_n (cnt_z (e := j / 5) (n := (ρ 8 0).toNat) (k := i9.toNat) (by omega) (by omega) (by omega) (by omega)), Int.mul_zero]
                        · rw [if_neg q3]⟩)
        · refine z_aload_n F dX6_addStretch_33 rfl 2 rfl ?_
          refine z_get (v := vR (g 1)) F (ci_2 (ρ := (sw (sw ρ 34 pv) 14 f9)) hI8) fX6_15 rfl dX6_addStretch_34 ?_
          refine z_get (v := vR (g 15)) F (ci_1 (ρ := (sw (sw ρ 34 pv) 14 f9)) hI8) fX6_44 rfl dX6_addStretch_37 ?_
          refine z_iload F dX6_addStretch_40 0 rfl ?_
          refine z_callV (As := [vI i9]) (st := []) F (cGet3 l G N0 h8 g (sw (sw ρ 34 pv) 14 f9) i9 hI8 (show 0 ≤ i9 ∧ i9 < ρ 8 0 from by omega)) cvX6_58 (ci_15 (ρ := (sw (sw ρ 34 pv) 14 f9)) hI8) (fun r9 h9 => by cases h9; rfl) rfl rfl ⟨Nat.le_of_ble_eq_true rfl, Nat.le_of_ble_eq_true rfl⟩ rfl ⟨Nat.le_of_ble_eq_true rfl, Nat.le_of_ble_eq_true rfl⟩ dX6_addStretch_42 ?_
          rintro _ h9 ⟨rfl, hh9⟩
          rw [hh9]
          clear hh9 h9
          show Z _ _ _ _ _ _ _ _ _ _ _ _ _ _ _ _ _ _ _ _ [vR (aE ρ i9)]
          refine z_cast F (ci_e (ρ := (sw (sw ρ 34 pv) 14 f9)) hI8 (show 0 ≤ i9 ∧ i9 < ρ 8 0 ∧ i9 < 100 from by omega)) q645 (fun r9 h9 => by cases h9; rfl) dX6_addStretch_45 ?_
          refine z_iload_n F dX6_addStretch_48 rfl 3 rfl ?_
          have cv49 := cvI_in ρ i9 m9
          refine z_callV (As := [vI m9]) (st := []) F (mX2_covers l G N0 h8 (aE ρ i9) i9 (aC ρ (ρ 9 i9)) (ρ 10 i9) (ρ 11 i9) (ρ 12 i9) (ρ 13 i9) m9 (ci_e (ρ := (sw (sw ρ 34 pv) 14 f9)) hI8 (show 0 ≤ i9 ∧ i9 < ρ 8 0 ∧ i9 < 100 from by omega)) (by omega) (by omega) (by omega) (by omega)) cvX6_64 (ci_e (ρ := (sw (sw ρ 34 pv) 14 f9)) hI8 (show 0 ≤ i9 ∧ i9 < ρ 8 0 ∧ i9 < 100 from by omega)) (fun r9 h9 => by cases h9; rfl) rfl rfl ⟨Nat.le_of_ble_eq_true rfl, Nat.le_of_ble_eq_true rfl⟩ rfl ⟨Nat.le_of_ble_eq_true rfl, Nat.le_of_ble_eq_true rfl⟩ dX6_addStretch_49 ?_
          rintro _ h9 ⟨rfl, hh9⟩
          rw [hh9]
          clear hh9 h9
          rw [cvI_a hV (e := i9) (m := m9) (by omega) (by omega)]
          show Z _ _ _ _ _ _ _ _ _ _ _ _ _ _ _ _ _ _ _ _ [vI (cvI ρ i9 m9)]
          refine z_if_eq (tgt := 81) F dX6_addStretch_52 (by decide) (by omega) (fun c52 => ?_) (fun c52 => ?_)
          · refine z_iinc (lv' := [(4, vI (i9 + 1)), (3, vI pl9), (0, vR (g 2)), (1, vI m9), (2, vI k9)]) F dX6_addStretch_81 0 rfl (by decide) rfl ?_
            refine z_goto (tgt := 10) F dX6_addStretch_84 (by decide) ?_
            exact ih10 pl9 (i9 + 1) h8 f9 (hI8) (by omega) (by rw [cnt_s ρ m9 (by omega)]; omega) ((fun j => by
                          rw [hf]
                          by_cases q2 : (0 ≤ j ∧ j < 5 * i9) ∧ j % 5 = m9 / 600
                          · rw [if_pos q2, if_pos (by omega)]
                          · rw [if_neg q2]
                            by_cases q3 : (0 ≤ j ∧ j < 5 * (i9 + 1)) ∧ j % 5 = m9 / 600
                            · rw [if_pos q3, show j / 5 = i9 by omega, shI_n (show cvI ρ i9 m9 = 0 by omega), Int.mul_zero]
                            · rw [if_neg q3])) (by omega)
          · refine z_aload_n F dX6_addStretch_55 rfl 2 rfl ?_
            refine z_iload F dX6_addStretch_56 0 rfl ?_
            refine z_iconst F dX6_addStretch_58 ?_
            refine z_imul F dX6_addStretch_59 ?_
            refine z_iload_n F dX6_addStretch_60 rfl 3 rfl ?_
            refine z_sipush F dX6_addStretch_61 (by decide) ?_
            refine z_idiv F dX6_addStretch_64 (by omega) (by omega) ?_
            refine z_iadd F dX6_addStretch_65 ?_
            refine z_iload_n F dX6_addStretch_66 rfl 4 rfl ?_
            refine z_aload_n F dX6_addStretch_67 rfl 2 rfl ?_
            refine z_iload_n F dX6_addStretch_68 rfl 1 rfl ?_
            refine z_iload F dX6_addStretch_69 0 rfl ?_
            refine z_callV (As := [vI pl9, vI i9]) (st := [vI k9, vI ((i9 * 5) + (m9 / 600)), vR (g 2)]) F (mX6_secondsAt0 l G N0 h8 g (sw (sw ρ 34 pv) 14 f9) pl9 i9 hI8 (show ρ 1 0 = 102 ∨ ρ 1 0 = 108 ∨ ρ 1 0 = 115 from v1) (show 0 < pv 0 ∧ pv 0 ≤ 24 from by omega) (show -1 ≤ pv 1 ∧ pv 1 < 24 from hpr) (by omega) (by omega)) cvX6_68 (ci_2 (ρ := (sw (sw ρ 34 pv) 14 f9)) hI8) (fun r9 h9 => by cases h9; rfl) rfl rfl ⟨Nat.le_of_ble_eq_true rfl, Nat.le_of_ble_eq_true rfl⟩ rfl ⟨Nat.le_of_ble_eq_true rfl, Nat.le_of_ble_eq_true rfl⟩ dX6_addStretch_71 ?_
            rintro _ h9 ⟨rfl, hh9⟩
            rw [hh9]
            clear hh9 h9
            show Z _ _ _ _ _ _ _ _ _ _ _ _ _ _ _ _ _ _ _ _ [vI (shR (ρ 1 0) i9 (pv 0) pl9 (pv 1)), vI k9, vI ((i9 * 5) + (m9 / 600)), vR (g 2)]
            refine z_imul F dX6_addStretch_74 ?_
            refine z_callV (As := [vI ((i9 * 5) + (m9 / 600)), vI (k9 * (shR (ρ 1 0) i9 (pv 0) pl9 (pv 1)))]) (st := []) F (mX6_addToCell0 l G N0 h8 g (sw (sw ρ 34 pv) 14 f9) ((i9 * 5) + (m9 / 600)) (k9 * (shR (ρ 1 0) i9 (pv 0) pl9 (pv 1))) hI8 (by omega)) cvX6_71 (ci_2 (ρ := (sw (sw ρ 34 pv) 14 f9)) hI8) (fun r9 h9 => by cases h9; rfl) rfl rfl ⟨Nat.le_of_ble_eq_true rfl, Nat.le_of_ble_eq_true rfl⟩ rfl ⟨Nat.le_of_ble_eq_true rfl, Nat.le_of_ble_eq_true rfl⟩ dX6_addStretch_75 ?_
            rintro _ h1 ⟨rfl, Ih1⟩
            show Z _ _ _ _ _ _ _ _ _ _ _ _ _ _ _ _ _ _ _ _ []
            refine z_iinc (lv' := [(3, vI (pl9 + 1)), (4, vI i9), (0, vR (g 2)), (1, vI m9), (2, vI k9)]) F dX6_addStretch_78 1 rfl (by decide) rfl ?_
            refine z_iinc (lv' := [(4, vI (i9 + 1)), (3, vI (pl9 + 1)), (0, vR (g 2)), (1, vI m9), (2, vI k9)]) F dX6_addStretch_81 1 rfl (by decide) rfl ?_
            refine z_goto (tgt := 10) F dX6_addStretch_84 (by decide) ?_
            exact ih10 (pl9 + 1) (i9 + 1) h1 (fun j => if j = (i9 * 5) + (m9 / 600) then f9 ((i9 * 5) + (m9 / 600)) + (k9 * (shR (ρ 1 0) i9 (pv 0) pl9 (pv 1))) else f9 j) (CI.suw Ih1) (by omega) (by rw [cnt_s ρ m9 (by omega)]; omega) ((fun j => by
                          have hsh : shR (ρ 1 0) i9 (pv 0) pl9 (pv 1) = shI ρ i9 m9 := by
                            unfold shI
                            rw [if_pos (show cvI ρ i9 m9 = 1 by omega), ← hpa, ← hpb (by omega), ← hpl]
                          show (if j = (i9 * 5) + (m9 / 600) then f9 ((i9 * 5) + (m9 / 600)) + k9 * shR (ρ 1 0) i9 (pv 0) pl9 (pv 1) else f9 j) = _
                          by_cases q : j = (i9 * 5) + (m9 / 600)
                          · rw [if_pos q, hf, hsh, if_neg (by omega), if_pos (by omega), q, show ((i9 * 5) + (m9 / 600)) / 5 = i9 by omega]; omega
                          · rw [if_neg q, hf]
                            by_cases q2 : (0 ≤ j ∧ j < 5 * i9) ∧ j % 5 = m9 / 600
                            · rw [if_pos q2, if_pos (by omega)]
                            · rw [if_neg q2, if_neg (by omega)])) (by omega)
  exact L10 ((ρ 8 0 - 0 : Int).toNat + 1) 0 0 h7 (ρ 14) (CI.n1 I7 14 (fun k hk => rfl)) (by omega) (rfl) (fun j => by rw [if_neg (by omega)]; exact (Int.add_zero _).symm) (by omega)
set_option maxRecDepth 100000 in
set_option maxHeartbeats 4000000 in
theorem mX6_countByIntervals0 (l : Launch) (G : GG) (N0 : Nat) (h : Hp) (g : Int → Nat) (ρ : Sg) (fr to : Int) (hI : CI G g ρ h) (hV : MC ρ) (hft : 0 ≤ fr ∧ fr ≤ 3000 ∧ 0 ≤ to ∧ to ≤ 3000) : Ct l G N0 yX6_countByIntervals (Cond.code yX6_countByIntervals cX6_countByIntervals 5 none :: LW) ({ frames := 5, cells := 0, slots := 0, locals := 220 }) [vR (g 2), vI fr, vI to] h (fun r h' => r = none ∧ ∃ p9 f9, CI G g (sw (sw ρ 34 p9) 14 f9) h' ∧ ∀ j, 0 ≤ j → j < 120 → f9 j = ceF ρ fr (to - fr).toNat j) := by
  refine ct_of rfl rfl ?_
  intro p e s m args below meth c F hr hnm
  have F : Fx p s m args meth c RX6 cX6_countByIntervals 5 G N0 (cA h s.heap.size) := F
  obtain ⟨v0, v1, v2, v8, v16, v24, v39, vC, vE, vJ, vK, vB, vO⟩ := id hV
  obtain ⟨Q, hQ⟩ : ∃ z, z = MQ below (cQc G N0 h s.heap.size (fun r h' => r = none ∧ ∃ p9 f9, CI G g (sw (sw ρ 34 p9) 14 f9) h' ∧ ∀ j, 0 ≤ j → j < 120 → f9 j = ceF ρ fr (to - fr).toNat j)) args s 0 0 (cA h s.heap.size) := ⟨_, rfl⟩
  rw [← hQ]
  show Z _ _ _ _ _ _ _ _ _ _ _ _ _ _ _ _ _ _ _ [(0, vR (g 2)), (1, vI fr), (2, vI to)] []
  refine z_aload_n F dX6_countByIntervals_0 rfl 0 rfl ?_
  refine z_get (v := vR (g 4)) F (ci_2 hI) fX6_9 rfl dX6_countByIntervals_1 ?_
  refine z_iconst F dX6_countByIntervals_4 ?_
  refine z_callS (As := [vR (g 4), vI 0]) (st := []) F (mJ7_fill_53178 l G N0 h (g 4) 120 (ρ 14) 0 (ci_4 hI) (by decide)) csX6_19 rfl rfl ⟨Nat.le_of_ble_eq_true rfl, Nat.le_of_ble_eq_true rfl⟩ rfl ⟨Nat.le_of_ble_eq_true rfl, Nat.le_of_ble_eq_true rfl⟩ dX6_countByIntervals_5 ?_
  rintro _ h7 ⟨rfl, hh7⟩
  have I7 : CI G g (sw ρ 14 (fun j => if 0 ≤ j ∧ j < ((120 : Nat) : Int) then 0 else ρ 14 j)) h7 := by rw [hh7]; exact cPsw14 hI _
  show Z _ _ _ _ _ _ _ _ _ _ _ _ _ _ _ _ _ _ _ _ []
  refine z_iload_n F dX6_countByIntervals_8 rfl 1 rfl ?_
  refine z_istore_n (lv' := [(3, vI fr), (0, vR (g 2)), (1, vI fr), (2, vI to)]) F dX6_countByIntervals_9 rfl (by decide) rfl ?_
  have L10 : ∀ (fuel : Nat) (m9 : Int) (h8 : Hp) (p9 f9 : Int → Int), (CI G g (sw (sw ρ 34 p9) 14 f9) h8) → (fr ≤ m9 ∧ (m9 ≤ to ∨ m9 = fr)) → (∀ j, 0 ≤ j → j < 120 → f9 j = ceF ρ fr (m9 - fr).toNat j) → (if to < m9 then 0 else to - m9) < (fuel : Int) → Z p l e ({ frames := 5, cells := 0, slots := 0, locals := 220 }) s m args below meth c 5 G N0 (cA h s.heap.size) Q h8 0 0 10 [(3, vI m9), (0, vR (g 2)), (1, vI fr), (2, vI to)] [] := by
    intro fuel
    induction fuel with
    | zero => intro m9 h8  p9 f9  hI8 ha hf hm; exact absurd hm (by omega)
    | succ fuel ih10 =>
      intro m9 h8  p9 f9  hI8 ha hf hm
      refine z_iload_n F dX6_countByIntervals_10 rfl 0 rfl ?_
      refine z_iload_n F dX6_countByIntervals_11 rfl 3 rfl ?_
      refine z_icmp_ge (tgt := 47) F dX6_countByIntervals_12 (by decide) (by omega) (by omega) (fun c12 => ?_) (fun c12 => ?_)
      · rw [hQ]
        exact z_vret F hr (Nat.le_of_ble_eq_true rfl) (Nat.le_of_ble_eq_true rfl) dX6_countByIntervals_47 (⟨rfl, p9, f9, hI8, fun j q0 q1 => by
              rw [hf j q0 q1]
              by_cases q : m9 ≤ to
              · rw [show m9 = to by omega]
              · rw [show (m9 - fr).toNat = (to - fr).toNat by omega]⟩)
      · refine z_iload_n F dX6_countByIntervals_15 rfl 0 rfl ?_
        refine z_iconst F dX6_countByIntervals_16 ?_
        refine z_iadd F dX6_countByIntervals_17 ?_
        refine z_aload_n F dX6_countByIntervals_18 rfl 1 rfl ?_
        refine z_get (v := vR (g 1)) F (ci_2 (ρ := (sw (sw ρ 34 p9) 14 f9)) hI8) fX6_15 rfl dX6_countByIntervals_19 ?_
        refine z_iload_n F dX6_countByIntervals_22 rfl 0 rfl ?_
        refine z_iload_n F dX6_countByIntervals_23 rfl 3 rfl ?_
        refine z_callV (As := [vI m9, vI to]) (st := [vI (m9 + 1)]) F (mX7_nextChange l G N0 h8 g (sw (sw ρ 34 p9) 14 f9) m9 to hI8 (MC.sa (((SA.refl ρ).sw rfl _).sw rfl _) hV) (by omega)) cvX6_25 (ci_1 (ρ := (sw (sw ρ 34 p9) 14 f9)) hI8) (fun r9 h9 => by cases h9; rfl) rfl rfl ⟨Nat.le_of_ble_eq_true rfl, Nat.le_of_ble_eq_true rfl⟩ rfl ⟨Nat.le_of_ble_eq_true rfl, Nat.le_of_ble_eq_true rfl⟩ dX6_countByIntervals_24 ?_
        rintro _ h9 ⟨⟨nx1, rfl, bnx1, snx1⟩, hh9⟩
        rw [hh9]
        clear hh9 h9
        show Z _ _ _ _ _ _ _ _ _ _ _ _ _ _ _ _ _ _ _ _ [vI nx1, vI (m9 + 1)]
        refine z_mmax F mmX6_31 ⟨Nat.le_of_ble_eq_true rfl, Nat.le_of_ble_eq_true rfl, (Nat.le_of_ble_eq_true rfl), (Nat.le_of_ble_eq_true rfl)⟩ (by omega) (by omega) dX6_countByIntervals_27 ?_
        generalize ex2 : (if m9 + 1 < nx1 then nx1 else m9 + 1) = x2
        have rx2 := ex2
        have hxx2 : x2 = nx1 := by omega
        refine z_istore (lv' := [(4, vI x2), (3, vI m9), (0, vR (g 2)), (1, vI fr), (2, vI to)]) F dX6_countByIntervals_30 (by decide) rfl ?_
        refine z_aload_n F dX6_countByIntervals_32 rfl 2 rfl ?_
        refine z_iload_n F dX6_countByIntervals_33 rfl 1 rfl ?_
        refine z_iload F dX6_countByIntervals_34 0 rfl ?_
        refine z_iload_n F dX6_countByIntervals_36 rfl 1 rfl ?_
        refine z_isub F dX6_countByIntervals_37 ?_
        refine z_callV (As := [vI m9, vI (x2 - m9)]) (st := []) F (mX6_addStretch0 l G N0 h8 g (sw (sw ρ 34 p9) 14 f9) m9 (x2 - m9) hI8 (MC.sa (((SA.refl ρ).sw rfl _).sw rfl _) hV) (by omega) (by omega)) cvX6_36 (ci_2 (ρ := (sw (sw ρ 34 p9) 14 f9)) hI8) (fun r9 h9 => by cases h9; rfl) rfl rfl ⟨Nat.le_of_ble_eq_true rfl, Nat.le_of_ble_eq_true rfl⟩ rfl ⟨Nat.le_of_ble_eq_true rfl, Nat.le_of_ble_eq_true rfl⟩ dX6_countByIntervals_38 ?_
        rintro _ h6 ⟨rfl, p7, f7, I7, hf7⟩
        rw [shI_r (SA.c (((SA.refl ρ).sw rfl _).sw rfl _))] at hf7
        have hf7 : ∀ j, f7 j = f9 j + (if (0 ≤ j ∧ j < 5 * ρ 8 0) ∧ j % 5 = m9 / 600 then (x2 - m9) * shI ρ (j / 5) m9 else 0) := hf7
        have I6 : CI G g (sw (sw ρ 34 p7) 14 f7) h6 := CI.n2 I7 34 14 (fun k h1 h2 => by funext j; simp [sw, h1, h2])
        show Z _ _ _ _ _ _ _ _ _ _ _ _ _ _ _ _ _ _ _ _ []
        refine z_iload F dX6_countByIntervals_41 0 rfl ?_
        refine z_istore_n (lv' := [(3, vI x2), (4, vI x2), (0, vR (g 2)), (1, vI fr), (2, vI to)]) F dX6_countByIntervals_43 rfl (by decide) rfl ?_
        refine z_goto (tgt := 10) F dX6_countByIntervals_44 (by decide) ?_
        refine z_pick (lv' := [(3, vI x2), (0, vR (g 2)), (1, vI fr), (2, vI to)]) [0, 2, 3, 4] rfl ?_
        exact ih10 x2 h6 p7 f7 (I6) (by omega) (fun j q0 q1 => by rw [hf7, hf j q0 q1, show x2 = nx1 by omega]; exact (ceF_step hV (by omega) bnx1.1 bnx1.2.2 snx1 q0).symm) (by omega)
  exact L10 (((if to < fr then 0 else to - fr) : Int).toNat + 1) fr h7 (ρ 34) ((sw ρ 14 (fun j => if 0 ≤ j ∧ j < ((120 : Nat) : Int) then 0 else ρ 14 j)) 14) (CI.n2 I7 34 14 (fun k h1 h2 => by funext j; simp [sw, h1, h2])) (by omega) (fun j q0 q1 => by
    rw [show (fr - fr).toNat = 0 by omega, ceF_zero]
    show (if 0 ≤ j ∧ j < ((120 : Nat) : Int) then (0 : Int) else ρ 14 j) = 0
    exact if_pos ⟨q0, q1⟩) (by omega)
set_option maxRecDepth 100000 in
set_option maxHeartbeats 4000000 in
theorem mX6_secondsInDay0 (l : Launch) (G : GG) (N0 : Nat) (h : Hp) (g : Int → Nat) (ρ : Sg) (e9 d9 : Int) (hI : CI G g ρ h) (he : 0 ≤ e9 ∧ e9 < ρ 8 0) (hd : 0 ≤ d9 ∧ d9 < 5) (h8 : ρ 8 0 ≤ 24) : Ct l G N0 yX6_secondsInDay (Cond.code yX6_secondsInDay cX6_secondsInDay 4 (some FieldType.int) :: LW) ({ frames := 0, cells := 0, slots := 0, locals := 0 }) [vR (g 2), vR (aE ρ e9), vI d9] h (fun r h' => r = some (vI (ρ 14 (5 * e9 + d9))) ∧ h' = h) := by
  refine ct_of rfl rfl ?_
  intro p e s m args below meth c F hr hnm
  have F : Fx p s m args meth c RX6 cX6_secondsInDay 4 G N0 (cA h s.heap.size) := F
  obtain ⟨Q, hQ⟩ : ∃ z, z = MQ below (cQc G N0 h s.heap.size (fun r h' => r = some (vI (ρ 14 (5 * e9 + d9))) ∧ h' = h)) args s 0 0 (cA h s.heap.size) := ⟨_, rfl⟩
  rw [← hQ]
  show Z _ _ _ _ _ _ _ _ _ _ _ _ _ _ _ _ _ _ _ [(0, vR (g 2)), (1, vR (aE ρ e9)), (2, vI d9)] []
  refine z_aload_n F dX6_secondsInDay_0 rfl 1 rfl ?_
  refine z_get (v := vI e9) F (ci_e hI (show 0 ≤ e9 ∧ e9 < ρ 8 0 ∧ e9 < 100 from by omega)) fX6_84 rfl dX6_secondsInDay_1 ?_
  refine z_iconst F dX6_secondsInDay_4 ?_
  refine z_imul F dX6_secondsInDay_5 ?_
  refine z_iload_n F dX6_secondsInDay_6 rfl 2 rfl ?_
  refine z_iadd F dX6_secondsInDay_7 ?_
  refine z_istore_n (lv' := [(3, vI ((e9 * 5) + d9)), (0, vR (g 2)), (1, vR (aE ρ e9)), (2, vI d9)]) F dX6_secondsInDay_8 rfl (by decide) rfl ?_
  refine z_iload_n F dX6_secondsInDay_9 rfl 0 rfl ?_
  refine z_if_lt (tgt := 31) F dX6_secondsInDay_10 (by decide) (by omega) (fun c10 => ?_) (fun c10 => ?_)
  · refine z_iconst F dX6_secondsInDay_31 ?_
    rw [hQ]
    exact z_iret (nf_i _) F hr (Nat.le_of_ble_eq_true rfl) (Nat.le_of_ble_eq_true rfl) dX6_secondsInDay_32 (⟨rI (by first | rfl | (congr 1; omega) | (exfalso; omega)), rfl⟩)
  · refine z_iload_n F dX6_secondsInDay_13 rfl 0 rfl ?_
    refine z_aload_n F dX6_secondsInDay_14 rfl 1 rfl ?_
    refine z_get (v := vR (g 4)) F (ci_2 hI) fX6_9 rfl dX6_secondsInDay_15 ?_
    refine z_alen F (ci_4 hI) (by decide) dX6_secondsInDay_18 ?_
    refine z_icmp_ge (tgt := 31) F dX6_secondsInDay_19 (by decide) (by omega) (by decide) (fun c19 => ?_) (fun c19 => ?_)
    · refine z_iconst F dX6_secondsInDay_31 ?_
      rw [hQ]
      exact z_iret (nf_i _) F hr (Nat.le_of_ble_eq_true rfl) (Nat.le_of_ble_eq_true rfl) dX6_secondsInDay_32 (⟨rI (by first | rfl | (congr 1; omega) | (exfalso; omega)), rfl⟩)
    · refine z_aload_n F dX6_secondsInDay_22 rfl 1 rfl ?_
      refine z_get (v := vR (g 4)) F (ci_2 hI) fX6_9 rfl dX6_secondsInDay_23 ?_
      refine z_iload_n F dX6_secondsInDay_26 rfl 0 rfl ?_
      refine z_iaload (N := 120) (f := fun j => ρ 14 j) F (ci_4 hI) (by omega) (by omega) (by omega) dX6_secondsInDay_27 ?_
      refine z_goto (tgt := 32) F dX6_secondsInDay_28 (by decide) ?_
      rw [hQ]
      exact z_iret (nf_i _) F hr (Nat.le_of_ble_eq_true rfl) (Nat.le_of_ble_eq_true rfl) dX6_secondsInDay_32 (⟨rI (by first | rfl | (congr 1; omega) | (exfalso; omega)), rfl⟩)
set_option maxRecDepth 100000 in
set_option maxHeartbeats 4000000 in
theorem mX6_secondsOf0 (l : Launch) (G : GG) (N0 : Nat) (h : Hp) (g : Int → Nat) (ρ : Sg) (e9 : Int) (hI : CI G g ρ h) (he : 0 ≤ e9 ∧ e9 < ρ 8 0) (h8 : ρ 8 0 ≤ 24) (hs0 : 0 ≤ ρ 12 e9 ∧ ρ 12 e9 ≤ 200) : Ct l G N0 yX6_secondsOf (Cond.code yX6_secondsOf cX6_secondsOf 5 (some FieldType.int) :: LW) ({ frames := 2, cells := 0, slots := 0, locals := 80 }) [vR (g 2), vR (aE ρ e9)] h (fun r h' => r = some (vI (sOf ρ 14 e9)) ∧ h' = h) := by
  refine ct_of rfl rfl ?_
  intro p e s m args below meth c F hr hnm
  have F : Fx p s m args meth c RX6 cX6_secondsOf 5 G N0 (cA h s.heap.size) := F
  obtain ⟨Q, hQ⟩ : ∃ z, z = MQ below (cQc G N0 h s.heap.size (fun r h' => r = some (vI (sOf ρ 14 e9)) ∧ h' = h)) args s 0 0 (cA h s.heap.size) := ⟨_, rfl⟩
  rw [← hQ]
  show Z _ _ _ _ _ _ _ _ _ _ _ _ _ _ _ _ _ _ _ [(0, vR (g 2)), (1, vR (aE ρ e9))] []
  refine z_aload_n F dX6_secondsOf_0 rfl 1 rfl ?_
  refine z_get (v := vI (ρ 12 e9)) F (ci_e hI (show 0 ≤ e9 ∧ e9 < ρ 8 0 ∧ e9 < 100 from by omega)) fX6_87 rfl dX6_secondsOf_1 ?_
  refine z_bipush F dX6_secondsOf_4 (by decide) ?_
  refine z_icmp_ne (tgt := 14) F dX6_secondsOf_6 (by decide) (by omega) (by decide) (fun c6 => ?_) (fun c6 => ?_)
  · refine z_iconst F dX6_secondsOf_14 ?_
    refine z_istore_n (lv' := [(2, vI 0), (0, vR (g 2)), (1, vR (aE ρ e9))]) F dX6_secondsOf_15 rfl (by decide) rfl ?_
    refine z_aload_n F dX6_secondsOf_16 rfl 2 rfl ?_
    refine z_get (v := vI e9) F (ci_e hI (show 0 ≤ e9 ∧ e9 < ρ 8 0 ∧ e9 < 100 from by omega)) fX6_84 rfl dX6_secondsOf_17 ?_
    refine z_iconst F dX6_secondsOf_20 ?_
    refine z_imul F dX6_secondsOf_21 ?_
    refine z_istore_n (lv' := [(3, vI (e9 * 5)), (2, vI 0), (0, vR (g 2)), (1, vR (aE ρ e9))]) F dX6_secondsOf_22 rfl (by decide) rfl ?_
    refine z_iconst F dX6_secondsOf_23 ?_
    refine z_iload_n F dX6_secondsOf_24 rfl 0 rfl ?_
    refine z_mmax F mmX6_31 ⟨Nat.le_of_ble_eq_true rfl, Nat.le_of_ble_eq_true rfl, (Nat.le_of_ble_eq_true rfl), (Nat.le_of_ble_eq_true rfl)⟩ (by decide) (by omega) dX6_secondsOf_25 ?_
    generalize ex1 : (if 0 < e9 * 5 then e9 * 5 else 0) = x1
    have rx1 := ex1
    refine z_istore (lv' := [(4, vI x1), (3, vI (e9 * 5)), (2, vI 0), (0, vR (g 2)), (1, vR (aE ρ e9))]) F dX6_secondsOf_28 (by decide) rfl ?_
    have L30 : ∀ (fuel : Nat) (s9 : Int) (c9 : Int), (s9 = sumI (ρ 14) (5 * e9) (c9 - 5 * e9).toNat) → (5 * e9 ≤ c9 ∧ c9 ≤ 5 * e9 + 5) → 5 * e9 + 5 - c9 < (fuel : Int) → Z p l e ({ frames := 2, cells := 0, slots := 0, locals := 80 }) s m args below meth c 5 G N0 (cA h s.heap.size) Q h 0 0 30 [(4, vI c9), (3, vI (e9 * 5)), (2, vI s9), (0, vR (g 2)), (1, vR (aE ρ e9))] [] := by
      intro fuel
      induction fuel with
      | zero => intro s9 c9  hs hc hm; exact absurd hm (by omega)
      | succ fuel ih30 =>
        intro s9 c9  hs hc hm
        refine z_iload F dX6_secondsOf_30 0 rfl ?_
        refine z_iload_n F dX6_secondsOf_32 rfl 1 rfl ?_
        refine z_iconst F dX6_secondsOf_33 ?_
        refine z_iadd F dX6_secondsOf_34 ?_
        refine z_icmp_ge (tgt := 64) F dX6_secondsOf_35 (by decide) (by omega) (by omega) (fun c35 => ?_) (fun c35 => ?_)
        · refine z_iload_n F dX6_secondsOf_64 rfl 2 rfl ?_
          rw [hQ]
          exact z_iret (nf_i _) F hr (Nat.le_of_ble_eq_true rfl) (Nat.le_of_ble_eq_true rfl) dX6_secondsOf_65 (⟨rI (by unfold sOf; first | rw [if_pos (by omega)] | rw [if_neg (by omega), hs, show (c9 - 5 * e9).toNat = 5 by omega]), rfl⟩)
        · refine z_iload F dX6_secondsOf_38 0 rfl ?_
          refine z_aload_n F dX6_secondsOf_40 rfl 3 rfl ?_
          refine z_get (v := vR (g 4)) F (ci_2 hI) fX6_9 rfl dX6_secondsOf_41 ?_
          refine z_alen F (ci_4 hI) (by decide) dX6_secondsOf_44 ?_
          refine z_icmp_ge (tgt := 64) F dX6_secondsOf_45 (by decide) (by omega) (by decide) (fun c45 => ?_) (fun c45 => ?_)
          · exfalso; omega
          · refine z_iload_n F dX6_secondsOf_48 rfl 2 rfl ?_
            refine z_aload_n F dX6_secondsOf_49 rfl 3 rfl ?_
            refine z_get (v := vR (g 4)) F (ci_2 hI) fX6_9 rfl dX6_secondsOf_50 ?_
            refine z_iload F dX6_secondsOf_53 0 rfl ?_
            refine z_iaload (N := 120) (f := fun j => ρ 14 j) F (ci_4 hI) (by omega) (by omega) (by omega) dX6_secondsOf_55 ?_
            refine z_iadd F dX6_secondsOf_56 ?_
            refine z_istore_n (lv' := [(2, vI (s9 + (ρ 14 c9))), (4, vI c9), (3, vI (e9 * 5)), (0, vR (g 2)), (1, vR (aE ρ e9))]) F dX6_secondsOf_57 rfl (by decide) rfl ?_
            refine z_iinc (lv' := [(4, vI (c9 + 1)), (2, vI (s9 + (ρ 14 c9))), (3, vI (e9 * 5)), (0, vR (g 2)), (1, vR (aE ρ e9))]) F dX6_secondsOf_58 1 rfl (by decide) rfl ?_
            refine z_goto (tgt := 30) F dX6_secondsOf_61 (by decide) ?_
            refine z_pick (lv' := [(4, vI (c9 + 1)), (3, vI (e9 * 5)), (2, vI (s9 + (ρ 14 c9))), (0, vR (g 2)), (1, vR (aE ρ e9))]) [0, 2, 1, 3, 4] rfl ?_
            exact ih30 (s9 + (ρ 14 c9)) (c9 + 1)  (by rw [show (c9 + 1 - 5 * e9).toNat = (c9 - 5 * e9).toNat + 1 by omega, sumI, ← hs, show 5 * e9 + ((c9 - 5 * e9).toNat : Int) = c9 by omega]) (by omega) (by omega)
    exact L30 ((5 * e9 + 5 - x1 : Int).toNat + 1) 0 x1  (by rw [show (x1 - 5 * e9).toNat = 0 by omega]; rfl) (by omega) (by omega)
  · refine z_aload_n F dX6_secondsOf_9 rfl 1 rfl ?_
    refine z_get (v := vI (ρ 13 e9)) F (ci_e hI (show 0 ≤ e9 ∧ e9 < ρ 8 0 ∧ e9 < 100 from by omega)) fX6_90 rfl dX6_secondsOf_10 ?_
    rw [hQ]
    exact z_iret (nf_i _) F hr (Nat.le_of_ble_eq_true rfl) (Nat.le_of_ble_eq_true rfl) dX6_secondsOf_13 (⟨rI (by unfold sOf; first | rw [if_pos (by omega)] | rw [if_neg (by omega), hs, show (c9 - 5 * e9).toNat = 5 by omega]), rfl⟩)
set_option maxRecDepth 100000 in
set_option maxHeartbeats 4000000 in
theorem mX6_openSecondsInDay0 (l : Launch) (G : GG) (N0 : Nat) (h : Hp) (g : Int → Nat) (ρ : Sg) (c9 d9 : Int) (hI : CI G g ρ h) (hV : MC ρ) (hc : 0 ≤ c9 ∧ c9 < ρ 2 0) (hd : 0 ≤ d9 ∧ d9 < 5) : Ct l G N0 yX6_openSecondsInDay (Cond.code yX6_openSecondsInDay cX6_openSecondsInDay 6 (some FieldType.int) :: LW) ({ frames := 3, cells := 0, slots := 0, locals := 140 }) [vR (g 2), vR (aC ρ c9), vI d9] h (fun r h' => r = some (vI (dyO (ρ 9) (ρ 12) (ρ 14) c9 d9 1 (ρ 8 0).toNat)) ∧ h' = h) := by
  refine ct_of rfl rfl ?_
  intro p e s m args below meth c F hr hnm
  have F : Fx p s m args meth c RX6 cX6_openSecondsInDay 6 G N0 (cA h s.heap.size) := F
  obtain ⟨v0, v1, v2, v8, v16, v24, v39, vC, vE, vJ, vK, vB, vO⟩ := id hV
  obtain ⟨Q, hQ⟩ : ∃ z, z = MQ below (cQc G N0 h s.heap.size (fun r h' => r = some (vI (dyO (ρ 9) (ρ 12) (ρ 14) c9 d9 1 (ρ 8 0).toNat)) ∧ h' = h)) args s 0 0 (cA h s.heap.size) := ⟨_, rfl⟩
  rw [← hQ]
  show Z _ _ _ _ _ _ _ _ _ _ _ _ _ _ _ _ _ _ _ [(0, vR (g 2)), (1, vR (aC ρ c9)), (2, vI d9)] []
  refine z_iconst F dX6_openSecondsInDay_0 ?_
  refine z_istore_n (lv' := [(3, vI 0), (0, vR (g 2)), (1, vR (aC ρ c9)), (2, vI d9)]) F dX6_openSecondsInDay_1 rfl (by decide) rfl ?_
  refine z_iconst F dX6_openSecondsInDay_2 ?_
  refine z_istore (lv' := [(4, vI 0), (3, vI 0), (0, vR (g 2)), (1, vR (aC ρ c9)), (2, vI d9)]) F dX6_openSecondsInDay_3 (by decide) rfl ?_
  have L5 : ∀ (fuel : Nat) (s9 : Int) (i9 : Int), (0 ≤ i9 ∧ i9 ≤ ρ 8 0) → (s9 = dyO (ρ 9) (ρ 12) (ρ 14) c9 d9 1 i9.toNat) → ρ 8 0 - i9 < (fuel : Int) → Z p l e ({ frames := 3, cells := 0, slots := 0, locals := 140 }) s m args below meth c 6 G N0 (cA h s.heap.size) Q h 0 0 5 [(4, vI i9), (3, vI s9), (0, vR (g 2)), (1, vR (aC ρ c9)), (2, vI d9)] [] := by
    intro fuel
    induction fuel with
    | zero => intro s9 i9  ha hs hm; exact absurd hm (by omega)
    | succ fuel ih5 =>
      intro s9 i9  ha hs hm
      have E_i9 := fun q9 => vE i9 (by omega) q9
      refine z_iload F dX6_openSecondsInDay_5 0 rfl ?_
      refine z_aload_n F dX6_openSecondsInDay_7 rfl 2 rfl ?_
      refine z_get (v := vR (g 1)) F (ci_2 hI) fX6_15 rfl dX6_openSecondsInDay_8 ?_
      refine z_get (v := vR (g 15)) F (ci_1 hI) fX6_44 rfl dX6_openSecondsInDay_11 ?_
      refine z_callV (As := []) (st := [vI i9]) F (mJx4a65c_size_8abf5 l G N0 h (g 15) ((ρ 40 3).toNat) 0 (ρ 32 3) (ρ 8 0) (fun _ => none) (ci_15 hI)) cvX6_48 (ci_15 hI) (fun r9 h9 => by cases h9; rfl) rfl rfl ⟨Nat.le_of_ble_eq_true rfl, Nat.le_of_ble_eq_true rfl⟩ rfl ⟨Nat.le_of_ble_eq_true rfl, Nat.le_of_ble_eq_true rfl⟩ dX6_openSecondsInDay_14 ?_
      rintro _ h9 ⟨rfl, hh9⟩
      rw [hh9]
      clear hh9 h9
      show Z _ _ _ _ _ _ _ _ _ _ _ _ _ _ _ _ _ _ _ _ [vI (ρ 8 0), vI i9]
      refine z_icmp_ge (tgt := 70) F dX6_openSecondsInDay_17 (by decide) (by omega) (by omega) (fun c17 => ?_) (fun c17 => ?_)
      · refine z_iload_n F dX6_openSecondsInDay_70 rfl 1 rfl ?_
        rw [hQ]
        exact z_iret (nf_i _) F hr (Nat.le_of_ble_eq_true rfl) (Nat.le_of_ble_eq_true rfl) dX6_openSecondsInDay_71 (⟨rI (by rw [hs, show i9 = ρ 8 0 by omega]), rfl⟩)
      · refine z_aload_n F dX6_openSecondsInDay_20 rfl 2 rfl ?_
        refine z_get (v := vR (g 1)) F (ci_2 hI) fX6_15 rfl dX6_openSecondsInDay_21 ?_
        refine z_get (v := vR (g 15)) F (ci_1 hI) fX6_44 rfl dX6_openSecondsInDay_24 ?_
        refine z_iload F dX6_openSecondsInDay_27 0 rfl ?_
        refine z_callV (As := [vI i9]) (st := []) F (cGet3 l G N0 h g ρ i9 hI (show 0 ≤ i9 ∧ i9 < ρ 8 0 from by omega)) cvX6_58 (ci_15 hI) (fun r9 h9 => by cases h9; rfl) rfl rfl ⟨Nat.le_of_ble_eq_true rfl, Nat.le_of_ble_eq_true rfl⟩ rfl ⟨Nat.le_of_ble_eq_true rfl, Nat.le_of_ble_eq_true rfl⟩ dX6_openSecondsInDay_29 ?_
        rintro _ h9 ⟨rfl, hh9⟩
        rw [hh9]
        clear hh9 h9
        show Z _ _ _ _ _ _ _ _ _ _ _ _ _ _ _ _ _ _ _ _ [vR (aE ρ i9)]
        refine z_cast F (ci_e hI (show 0 ≤ i9 ∧ i9 < ρ 8 0 ∧ i9 < 100 from by omega)) q645 (fun r9 h9 => by cases h9; rfl) dX6_openSecondsInDay_32 ?_
        refine z_astore (lv' := [(5, vR (aE ρ i9)), (4, vI i9), (3, vI s9), (0, vR (g 2)), (1, vR (aC ρ c9)), (2, vI d9)]) F dX6_openSecondsInDay_35 (by decide) rfl ?_
        refine z_aload F dX6_openSecondsInDay_37 0 rfl ?_
        refine z_get (v := vR (aC ρ (ρ 9 i9))) F (ci_e hI (show 0 ≤ i9 ∧ i9 < ρ 8 0 ∧ i9 < 100 from by omega)) fX6_97 rfl dX6_openSecondsInDay_39 ?_
        refine z_aload_n F dX6_openSecondsInDay_42 rfl 4 rfl ?_
        refine z_acmp_ne (rx := some (aC ρ (ρ 9 i9))) (ry := some (aC ρ c9)) (tgt := 64) F dX6_openSecondsInDay_43 (by decide) (fun c43 => ?_) (fun c43 => ?_)
        · have d43 : ρ 9 i9 ≠ c9 := fun z => c43 (by rw [z])
          refine z_iinc (lv' := [(4, vI (i9 + 1)), (5, vR (aE ρ i9)), (3, vI s9), (0, vR (g 2)), (1, vR (aC ρ c9)), (2, vI d9)]) F dX6_openSecondsInDay_64 1 rfl (by decide) rfl ?_
          refine z_goto (tgt := 5) F dX6_openSecondsInDay_67 (by decide) ?_
          refine z_pick (lv' := [(4, vI (i9 + 1)), (3, vI s9), (0, vR (g 2)), (1, vR (aC ρ c9)), (2, vI d9)]) [0, 2, 3, 4, 5] rfl ?_
          exact ih5 s9 (i9 + 1)  (by omega) (by rw [dyO_s _ _ _ _ _ _ ha.1]; unfold blI; omega) (by omega)
        · have d43 : ρ 9 i9 = c9 := (ci_cc hI (show 0 ≤ ρ 9 i9 ∧ ρ 9 i9 < ρ 2 0 ∧ ρ 9 i9 < 100 from by omega) (show 0 ≤ c9 ∧ c9 < ρ 2 0 ∧ c9 < 100 from by omega)).mp (Option.some.inj c43)
          refine z_aload F dX6_openSecondsInDay_46 0 rfl ?_
          refine z_callV (As := []) (st := []) F (mX2_isOpen l G N0 h (aE ρ i9) i9 (aC ρ (ρ 9 i9)) (ρ 10 i9) (ρ 11 i9) (ρ 12 i9) (ρ 13 i9) (ci_e hI (show 0 ≤ i9 ∧ i9 < ρ 8 0 ∧ i9 < 100 from by omega)) (by omega)) cvX6_101 (ci_e hI (show 0 ≤ i9 ∧ i9 < ρ 8 0 ∧ i9 < 100 from by omega)) (fun r9 h9 => by cases h9; rfl) rfl rfl ⟨Nat.le_of_ble_eq_true rfl, Nat.le_of_ble_eq_true rfl⟩ rfl ⟨Nat.le_of_ble_eq_true rfl, Nat.le_of_ble_eq_true rfl⟩ dX6_openSecondsInDay_48 ?_
          rintro _ h9 ⟨rfl, hh9⟩
          rw [hh9]
          clear hh9 h9
          generalize ex1 : (if ρ 12 i9 = 114 ∨ ρ 12 i9 = 101 then (1 : Int) else 0) = x1
          show Z _ _ _ _ _ _ _ _ _ _ _ _ _ _ _ _ _ _ _ _ [vI x1]
          refine z_if_eq (tgt := 64) F dX6_openSecondsInDay_51 (by decide) (by omega) (fun c51 => ?_) (fun c51 => ?_)
          · refine z_iinc (lv' := [(4, vI (i9 + 1)), (5, vR (aE ρ i9)), (3, vI s9), (0, vR (g 2)), (1, vR (aC ρ c9)), (2, vI d9)]) F dX6_openSecondsInDay_64 1 rfl (by decide) rfl ?_
            refine z_goto (tgt := 5) F dX6_openSecondsInDay_67 (by decide) ?_
            refine z_pick (lv' := [(4, vI (i9 + 1)), (3, vI s9), (0, vR (g 2)), (1, vR (aC ρ c9)), (2, vI d9)]) [0, 2, 3, 4, 5] rfl ?_
            exact ih5 s9 (i9 + 1)  (by omega) (by rw [dyO_s _ _ _ _ _ _ ha.1]; unfold blI; omega) (by omega)
          · refine z_iload_n F dX6_openSecondsInDay_54 rfl 2 rfl ?_
            refine z_aload_n F dX6_openSecondsInDay_55 rfl 3 rfl ?_
            refine z_aload F dX6_openSecondsInDay_56 0 rfl ?_
            refine z_iload_n F dX6_openSecondsInDay_58 rfl 5 rfl ?_
            refine z_callV (As := [vR (aE ρ i9), vI d9]) (st := [vI s9]) F (mX6_secondsInDay0 l G N0 h g ρ i9 d9 hI (show 0 ≤ i9 ∧ i9 < ρ 8 0 from by omega) (by omega) (show ρ 8 0 ≤ 24 from by omega)) cvX6_105 (ci_2 hI) (fun r9 h9 => by cases h9; rfl) rfl rfl ⟨Nat.le_of_ble_eq_true rfl, Nat.le_of_ble_eq_true rfl⟩ rfl ⟨Nat.le_of_ble_eq_true rfl, Nat.le_of_ble_eq_true rfl⟩ dX6_openSecondsInDay_59 ?_
            rintro _ h9 ⟨rfl, hh9⟩
            rw [hh9]
            clear hh9 h9
            show Z _ _ _ _ _ _ _ _ _ _ _ _ _ _ _ _ _ _ _ _ [vI (ρ 14 (5 * i9 + d9)), vI s9]
            refine z_iadd F dX6_openSecondsInDay_62 ?_
            refine z_istore_n (lv' := [(3, vI (s9 + (ρ 14 (5 * i9 + d9)))), (5, vR (aE ρ i9)), (4, vI i9), (0, vR (g 2)), (1, vR (aC ρ c9)), (2, vI d9)]) F dX6_openSecondsInDay_63 rfl (by decide) rfl ?_
            refine z_iinc (lv' := [(4, vI (i9 + 1)), (3, vI (s9 + (ρ 14 (5 * i9 + d9)))), (5, vR (aE ρ i9)), (0, vR (g 2)), (1, vR (aC ρ c9)), (2, vI d9)]) F dX6_openSecondsInDay_64 2 rfl (by decide) rfl ?_
            refine z_goto (tgt := 5) F dX6_openSecondsInDay_67 (by decide) ?_
            refine z_pick (lv' := [(4, vI (i9 + 1)), (3, vI (s9 + (ρ 14 (5 * i9 + d9)))), (0, vR (g 2)), (1, vR (aC ρ c9)), (2, vI d9)]) [0, 1, 3, 4, 5] rfl ?_
            exact ih5 (s9 + (ρ 14 (5 * i9 + d9))) (i9 + 1)  (by omega) (by rw [dyO_s _ _ _ _ _ _ ha.1]; unfold blI; omega) (by omega)
  exact L5 ((ρ 8 0 - 0 : Int).toNat + 1) 0 0  (by omega) (rfl) (by omega)
set_option maxRecDepth 100000 in
set_option maxHeartbeats 4000000 in
theorem mX6_survey1 (l : Launch) (G : GG) (N0 : Nat) (h : Hp) (g : Int → Nat) (ρ : Sg) (m9 : Int) (hI : CI G g ρ h) (hV : MC ρ) (hm : 0 ≤ m9 ∧ m9 < 3000) : Ct l G N0 yX6_survey (Cond.code yX6_survey cX6_survey 5 none :: LW) ({ frames := 3, cells := 0, slots := 0, locals := 140 }) [vR (g 3), vI m9] h (fun r h' => r = none ∧ ∃ p9, CI G g (sw ρ 34 p9) h' ∧ p9 2 = cnt ρ m9 (ρ 8 0).toNat ∧ (0 < cnt ρ m9 (ρ 8 0).toNat → p9 3 = lat ρ m9 (ρ 8 0).toNat) ∧ -1 ≤ p9 3 ∧ p9 3 < 24) := by
  refine ct_of rfl rfl ?_
  intro p e s m args below meth c F hr hnm
  have F : Fx p s m args meth c RX6 cX6_survey 5 G N0 (cA h s.heap.size) := F
  obtain ⟨v0, v1, v2, v8, v16, v24, v39, vC, vE, vJ, vK, vB, vO⟩ := id hV
  obtain ⟨Q, hQ⟩ : ∃ z, z = MQ below (cQc G N0 h s.heap.size (fun r h' => r = none ∧ ∃ p9, CI G g (sw ρ 34 p9) h' ∧ p9 2 = cnt ρ m9 (ρ 8 0).toNat ∧ (0 < cnt ρ m9 (ρ 8 0).toNat → p9 3 = lat ρ m9 (ρ 8 0).toNat) ∧ -1 ≤ p9 3 ∧ p9 3 < 24)) args s 0 0 (cA h s.heap.size) := ⟨_, rfl⟩
  rw [← hQ]
  show Z _ _ _ _ _ _ _ _ _ _ _ _ _ _ _ _ _ _ _ [(0, vR (g 3)), (1, vI m9)] []
  refine z_aload_n F dX6_survey_0 rfl 0 rfl ?_
  refine z_iconst F dX6_survey_1 ?_
  obtain ⟨h1, eh1, Ih1⟩ : ∃ z : Hp, hu h (g 3) (eO 11 [vR (g 1), vR (g 5), vI 0, vI (ρ 34 3)]) = z ∧ CI G g (su ρ 34 2 0) z := ⟨_, rfl, cPf34_2 hI 0⟩
  refine z_put (fs := [vR (g 1), vR (g 5), vI (ρ 34 2), vI (ρ 34 3)]) (fs' := [vR (g 1), vR (g 5), vI 0, vI (ρ 34 3)]) (h' := h1) F (ci_3 hI) fX6_54 ftX6_2 (nf_i _) (Nat.le_of_ble_eq_true rfl) rfl dX6_survey_2 eh1 ?_
  refine z_aload_n F dX6_survey_5 rfl 0 rfl ?_
  refine z_iconst F dX6_survey_6 ?_
  obtain ⟨h2, eh2, Ih2⟩ : ∃ z : Hp, hu h1 (g 3) (eO 11 [vR (g 1), vR (g 5), vI 0, vI (-1)]) = z ∧ CI G g (su (su ρ 34 2 0) 34 3 (-1)) z := ⟨_, rfl, cPf34_3 Ih1 (-1)⟩
  refine z_put (fs := [vR (g 1), vR (g 5), vI 0, vI (ρ 34 3)]) (fs' := [vR (g 1), vR (g 5), vI 0, vI (-1)]) (h' := h2) F (ci_3 (ρ := (su ρ 34 2 0)) Ih1) fX6_74 ftX6_3 (nf_i _) (Nat.le_of_ble_eq_true rfl) rfl dX6_survey_7 eh2 ?_
  refine z_iconst F dX6_survey_10 ?_
  refine z_istore_n (lv' := [(2, vI (-1)), (0, vR (g 3)), (1, vI m9)]) F dX6_survey_11 rfl (by decide) rfl ?_
  refine z_iconst F dX6_survey_12 ?_
  refine z_istore_n (lv' := [(3, vI 0), (2, vI (-1)), (0, vR (g 3)), (1, vI m9)]) F dX6_survey_13 rfl (by decide) rfl ?_
  have L14 : ∀ (fuel : Nat) (ls9 : Int) (i9 : Int) (h9 : Hp) (p9 : Int → Int), (CI G g (sw ρ 34 p9) h9) → (0 ≤ i9 ∧ i9 ≤ ρ 8 0) → (p9 2 = cnt ρ m9 i9.toNat) → (-1 ≤ p9 3 ∧ p9 3 < 24) → ((p9 2 = 0 ∧ ls9 = -1) ∨ (0 < p9 2 ∧ p9 3 = lat ρ m9 i9.toNat ∧ ls9 = ρ 10 (lat ρ m9 i9.toNat) ∧ 0 ≤ p9 3 ∧ p9 3 < i9)) → ρ 8 0 - i9 < (fuel : Int) → Z p l e ({ frames := 3, cells := 0, slots := 0, locals := 140 }) s m args below meth c 5 G N0 (cA h s.heap.size) Q h9 0 0 14 [(3, vI i9), (2, vI ls9), (0, vR (g 3)), (1, vI m9)] [] := by
    intro fuel
    induction fuel with
    | zero => intro ls9 i9 h9  p9  hI9 ha hc hb hl hm; exact absurd hm (by omega)
    | succ fuel ih14 =>
      intro ls9 i9 h9  p9  hI9 ha hc hb hl hm
      have E_i9 := fun q9 => vE i9 (by omega) q9
      have hcn := cnt_in ρ m9 i9.toNat
      have hlt : (0 < p9 2 → 0 ≤ p9 3 ∧ p9 3 < ρ 8 0) := fun q => by omega
      have hst : 0 < p9 2 → 0 ≤ ρ 10 (lat ρ m9 i9.toNat) ∧ ρ 10 (lat ρ m9 i9.toNat) ≤ 2999 := fun q => by
        have := vE (lat ρ m9 i9.toNat) (by omega) (by omega)
        omega
      refine z_iload_n F dX6_survey_14 rfl 0 rfl ?_
      refine z_aload_n F dX6_survey_15 rfl 2 rfl ?_
      refine z_get (v := vR (g 1)) F (ci_3 (ρ := (sw ρ 34 p9)) hI9) fX6_15 rfl dX6_survey_16 ?_
      refine z_get (v := vR (g 15)) F (ci_1 (ρ := (sw ρ 34 p9)) hI9) fX6_44 rfl dX6_survey_19 ?_
      refine z_callV (As := []) (st := [vI i9]) F (mJx4a65c_size_8abf5 l G N0 h9 (g 15) ((ρ 40 3).toNat) 0 (ρ 32 3) (ρ 8 0) (fun _ => none) (ci_15 (ρ := (sw ρ 34 p9)) hI9)) cvX6_48 (ci_15 (ρ := (sw ρ 34 p9)) hI9) (fun r9 h9 => by cases h9; rfl) rfl rfl ⟨Nat.le_of_ble_eq_true rfl, Nat.le_of_ble_eq_true rfl⟩ rfl ⟨Nat.le_of_ble_eq_true rfl, Nat.le_of_ble_eq_true rfl⟩ dX6_survey_22 ?_
      rintro _ h9 ⟨rfl, hh9⟩
      rw [hh9]
      clear hh9 h9
      show Z _ _ _ _ _ _ _ _ _ _ _ _ _ _ _ _ _ _ _ _ [vI (ρ 8 0), vI i9]
      refine z_icmp_ge (tgt := 89) F dX6_survey_25 (by decide) (by omega) (by omega) (fun c25 => ?_) (fun c25 => ?_)
      · rw [hQ]
        exact z_vret F hr (Nat.le_of_ble_eq_true rfl) (Nat.le_of_ble_eq_true rfl) dX6_survey_89 (⟨rfl, p9, hI9, by rw [hc, show i9 = ρ 8 0 by omega], fun q => by rw [show ρ 8 0 = i9 by omega] at q ⊢; omega, hb⟩)
      · refine z_aload_n F dX6_survey_28 rfl 2 rfl ?_
        refine z_get (v := vR (g 1)) F (ci_3 (ρ := (sw ρ 34 p9)) hI9) fX6_15 rfl dX6_survey_29 ?_
        refine z_get (v := vR (g 15)) F (ci_1 (ρ := (sw ρ 34 p9)) hI9) fX6_44 rfl dX6_survey_32 ?_
        refine z_iload_n F dX6_survey_35 rfl 0 rfl ?_
        refine z_callV (As := [vI i9]) (st := []) F (cGet3 l G N0 h9 g (sw ρ 34 p9) i9 hI9 (show 0 ≤ i9 ∧ i9 < ρ 8 0 from by omega)) cvX6_58 (ci_15 (ρ := (sw ρ 34 p9)) hI9) (fun r9 h9 => by cases h9; rfl) rfl rfl ⟨Nat.le_of_ble_eq_true rfl, Nat.le_of_ble_eq_true rfl⟩ rfl ⟨Nat.le_of_ble_eq_true rfl, Nat.le_of_ble_eq_true rfl⟩ dX6_survey_36 ?_
        rintro _ h9 ⟨rfl, hh9⟩
        rw [hh9]
        clear hh9 h9
        show Z _ _ _ _ _ _ _ _ _ _ _ _ _ _ _ _ _ _ _ _ [vR (aE ρ i9)]
        refine z_cast F (ci_e (ρ := (sw ρ 34 p9)) hI9 (show 0 ≤ i9 ∧ i9 < ρ 8 0 ∧ i9 < 100 from by omega)) q645 (fun r9 h9 => by cases h9; rfl) dX6_survey_39 ?_
        refine z_astore (lv' := [(4, vR (aE ρ i9)), (3, vI i9), (2, vI ls9), (0, vR (g 3)), (1, vI m9)]) F dX6_survey_42 (by decide) rfl ?_
        refine z_aload F dX6_survey_44 0 rfl ?_
        refine z_iload_n F dX6_survey_46 rfl 4 rfl ?_
        have cv47 := cvI_in ρ i9 m9
        refine z_callV (As := [vI m9]) (st := []) F (mX2_covers l G N0 h9 (aE ρ i9) i9 (aC ρ (ρ 9 i9)) (ρ 10 i9) (ρ 11 i9) (ρ 12 i9) (ρ 13 i9) m9 (ci_e (ρ := (sw ρ 34 p9)) hI9 (show 0 ≤ i9 ∧ i9 < ρ 8 0 ∧ i9 < 100 from by omega)) (by omega) (by omega) (by omega) (by omega)) cvX6_64 (ci_e (ρ := (sw ρ 34 p9)) hI9 (show 0 ≤ i9 ∧ i9 < ρ 8 0 ∧ i9 < 100 from by omega)) (fun r9 h9 => by cases h9; rfl) rfl rfl ⟨Nat.le_of_ble_eq_true rfl, Nat.le_of_ble_eq_true rfl⟩ rfl ⟨Nat.le_of_ble_eq_true rfl, Nat.le_of_ble_eq_true rfl⟩ dX6_survey_47 ?_
        rintro _ h9 ⟨rfl, hh9⟩
        rw [hh9]
        clear hh9 h9
        rw [cvI_a hV (e := i9) (m := m9) (by omega) (by omega)]
        show Z _ _ _ _ _ _ _ _ _ _ _ _ _ _ _ _ _ _ _ _ [vI (cvI ρ i9 m9)]
        refine z_if_eq (tgt := 83) F dX6_survey_50 (by decide) (by omega) (fun c50 => ?_) (fun c50 => ?_)
        · refine z_iinc (lv' := [(3, vI (i9 + 1)), (4, vR (aE ρ i9)), (2, vI ls9), (0, vR (g 3)), (1, vI m9)]) F dX6_survey_83 1 rfl (by decide) rfl ?_
          refine z_goto (tgt := 14) F dX6_survey_86 (by decide) ?_
          refine z_pick (lv' := [(3, vI (i9 + 1)), (2, vI ls9), (0, vR (g 3)), (1, vI m9)]) [0, 2, 3, 4] rfl ?_
          exact ih14 ls9 (i9 + 1) h9 ((sw ρ 34 p9) 34) (CI.n1 hI9 34 (fun k hk => by funext j; simp [su, sw, hk])) (by omega) ((show p9 2 = cnt ρ m9 (i9 + 1).toNat from by rw [cnt_s ρ m9 (by omega)]; omega)) ((show -1 ≤ p9 3 ∧ p9 3 < 24 from by omega)) ((show (p9 2 = 0 ∧ ls9 = -1) ∨ (0 < p9 2 ∧ p9 3 = lat ρ m9 (i9 + 1).toNat ∧ ls9 = ρ 10 (lat ρ m9 (i9 + 1).toNat) ∧ 0 ≤ p9 3 ∧ p9 3 < i9 + 1) from by rw [lat_s ρ m9 (by omega)]; first | (rw [if_pos (show cvI ρ i9 m9 = 1 ∧ (cnt ρ m9 i9.toNat = 0 ∨ ρ 10 (lat ρ m9 i9.toNat) ≤ ρ 10 i9) from by omega)]; omega) | (rw [if_neg (show ¬ (cvI ρ i9 m9 = 1 ∧ (cnt ρ m9 i9.toNat = 0 ∨ ρ 10 (lat ρ m9 i9.toNat) ≤ ρ 10 i9)) from by omega)]; omega))) (by omega)
        · refine z_aload_n F dX6_survey_53 rfl 3 rfl ?_
          refine z_dup F dX6_survey_54 rfl ?_
          refine z_get (v := vI (p9 2)) F (ci_3 (ρ := (sw ρ 34 p9)) hI9) fX6_54 rfl dX6_survey_55 ?_
          refine z_iconst F dX6_survey_58 ?_
          refine z_iadd F dX6_survey_59 ?_
          obtain ⟨h3, eh3, Ih3⟩ : ∃ z : Hp, hu h9 (g 3) (eO 11 [vR (g 1), vR (g 5), vI ((p9 2) + 1), vI (p9 3)]) = z ∧ CI G g (su (sw ρ 34 p9) 34 2 ((p9 2) + 1)) z := ⟨_, rfl, cPf34_2 hI9 ((p9 2) + 1)⟩
          refine z_put (fs := [vR (g 1), vR (g 5), vI (p9 2), vI (p9 3)]) (fs' := [vR (g 1), vR (g 5), vI ((p9 2) + 1), vI (p9 3)]) (h' := h3) F (ci_3 (ρ := (sw ρ 34 p9)) hI9) fX6_54 ftX6_2 (nf_i _) (Nat.le_of_ble_eq_true rfl) rfl dX6_survey_60 eh3 ?_
          refine z_aload F dX6_survey_63 0 rfl ?_
          refine z_get (v := vI (ρ 10 i9)) F (ci_e (ρ := (su (sw ρ 34 p9) 34 2 ((p9 2) + 1))) Ih3 (show 0 ≤ i9 ∧ i9 < ρ 8 0 ∧ i9 < 100 from by omega)) fX6_77 rfl dX6_survey_65 ?_
          refine z_iload_n F dX6_survey_68 rfl 2 rfl ?_
          refine z_icmp_lt (tgt := 83) F dX6_survey_69 (by decide) (by omega) (by omega) (fun c69 => ?_) (fun c69 => ?_)
          · refine z_iinc (lv' := [(3, vI (i9 + 1)), (4, vR (aE ρ i9)), (2, vI ls9), (0, vR (g 3)), (1, vI m9)]) F dX6_survey_83 1 rfl (by decide) rfl ?_
            refine z_goto (tgt := 14) F dX6_survey_86 (by decide) ?_
            refine z_pick (lv' := [(3, vI (i9 + 1)), (2, vI ls9), (0, vR (g 3)), (1, vI m9)]) [0, 2, 3, 4] rfl ?_
            exact ih14 ls9 (i9 + 1) h3 ((su (sw ρ 34 p9) 34 2 ((p9 2) + 1)) 34) (CI.n1 Ih3 34 (fun k hk => by funext j; simp [su, sw, hk])) (by omega) ((show (p9 2) + 1 = cnt ρ m9 (i9 + 1).toNat from by rw [cnt_s ρ m9 (by omega)]; omega)) ((show -1 ≤ p9 3 ∧ p9 3 < 24 from by omega)) ((show ((p9 2) + 1 = 0 ∧ ls9 = -1) ∨ (0 < (p9 2) + 1 ∧ p9 3 = lat ρ m9 (i9 + 1).toNat ∧ ls9 = ρ 10 (lat ρ m9 (i9 + 1).toNat) ∧ 0 ≤ p9 3 ∧ p9 3 < i9 + 1) from by rw [lat_s ρ m9 (by omega)]; first | (rw [if_pos (show cvI ρ i9 m9 = 1 ∧ (cnt ρ m9 i9.toNat = 0 ∨ ρ 10 (lat ρ m9 i9.toNat) ≤ ρ 10 i9) from by omega)]; omega) | (rw [if_neg (show ¬ (cvI ρ i9 m9 = 1 ∧ (cnt ρ m9 i9.toNat = 0 ∨ ρ 10 (lat ρ m9 i9.toNat) ≤ ρ 10 i9)) from by omega)]; omega))) (by omega)
          · refine z_aload_n F dX6_survey_72 rfl 3 rfl ?_
            refine z_iload_n F dX6_survey_73 rfl 1 rfl ?_
            obtain ⟨h4, eh4, Ih4⟩ : ∃ z : Hp, hu h3 (g 3) (eO 11 [vR (g 1), vR (g 5), vI ((p9 2) + 1), vI i9]) = z ∧ CI G g (su (su (sw ρ 34 p9) 34 2 ((p9 2) + 1)) 34 3 i9) z := ⟨_, rfl, cPf34_3 Ih3 i9⟩
            refine z_put (fs := [vR (g 1), vR (g 5), vI ((p9 2) + 1), vI (p9 3)]) (fs' := [vR (g 1), vR (g 5), vI ((p9 2) + 1), vI i9]) (h' := h4) F (ci_3 (ρ := (su (sw ρ 34 p9) 34 2 ((p9 2) + 1))) Ih3) fX6_74 ftX6_3 (nf_i _) (Nat.le_of_ble_eq_true rfl) rfl dX6_survey_74 eh4 ?_
            refine z_aload F dX6_survey_77 0 rfl ?_
            refine z_get (v := vI (ρ 10 i9)) F (ci_e (ρ := (su (su (sw ρ 34 p9) 34 2 ((p9 2) + 1)) 34 3 i9)) Ih4 (show 0 ≤ i9 ∧ i9 < ρ 8 0 ∧ i9 < 100 from by omega)) fX6_77 rfl dX6_survey_79 ?_
            refine z_istore_n (lv' := [(2, vI (ρ 10 i9)), (4, vR (aE ρ i9)), (3, vI i9), (0, vR (g 3)), (1, vI m9)]) F dX6_survey_82 rfl (by decide) rfl ?_
            refine z_iinc (lv' := [(3, vI (i9 + 1)), (2, vI (ρ 10 i9)), (4, vR (aE ρ i9)), (0, vR (g 3)), (1, vI m9)]) F dX6_survey_83 2 rfl (by decide) rfl ?_
            refine z_goto (tgt := 14) F dX6_survey_86 (by decide) ?_
            refine z_pick (lv' := [(3, vI (i9 + 1)), (2, vI (ρ 10 i9)), (0, vR (g 3)), (1, vI m9)]) [0, 1, 3, 4] rfl ?_
            exact ih14 (ρ 10 i9) (i9 + 1) h4 ((su (su (sw ρ 34 p9) 34 2 ((p9 2) + 1)) 34 3 i9) 34) (CI.n1 Ih4 34 (fun k hk => by funext j; simp [su, sw, hk])) (by omega) ((show (p9 2) + 1 = cnt ρ m9 (i9 + 1).toNat from by rw [cnt_s ρ m9 (by omega)]; omega)) ((show -1 ≤ i9 ∧ i9 < 24 from by omega)) ((show ((p9 2) + 1 = 0 ∧ (ρ 10 i9) = -1) ∨ (0 < (p9 2) + 1 ∧ i9 = lat ρ m9 (i9 + 1).toNat ∧ (ρ 10 i9) = ρ 10 (lat ρ m9 (i9 + 1).toNat) ∧ 0 ≤ i9 ∧ i9 < i9 + 1) from by rw [lat_s ρ m9 (by omega)]; first | (rw [if_pos (show cvI ρ i9 m9 = 1 ∧ (cnt ρ m9 i9.toNat = 0 ∨ ρ 10 (lat ρ m9 i9.toNat) ≤ ρ 10 i9) from by omega)]; omega) | (rw [if_neg (show ¬ (cvI ρ i9 m9 = 1 ∧ (cnt ρ m9 i9.toNat = 0 ∨ ρ 10 (lat ρ m9 i9.toNat) ≤ ρ 10 i9)) from by omega)]; omega))) (by omega)
  exact L14 ((ρ 8 0 - 0 : Int).toNat + 1) (-1) 0 h2 ((su (su ρ 34 2 0) 34 3 (-1)) 34) (CI.n1 Ih2 34 (fun k hk => by funext j; simp [su, sw, hk])) (by omega) (rfl) ((show -1 ≤ (-1 : Int) ∧ (-1 : Int) < 24 from by decide)) (Or.inl ⟨rfl, rfl⟩) (by omega)
set_option maxRecDepth 100000 in
set_option maxHeartbeats 4000000 in
theorem mX6_secondsAt1 (l : Launch) (G : GG) (N0 : Nat) (h : Hp) (g : Int → Nat) (ρ : Sg) (pl n9 : Int) (hI : CI G g ρ h) (hru : ρ 1 0 = 102 ∨ ρ 1 0 = 108 ∨ ρ 1 0 = 115) (hac : 0 < ρ 34 2 ∧ ρ 34 2 ≤ 24) (hla : -1 ≤ ρ 34 3 ∧ ρ 34 3 < 24) (hpl : 0 ≤ pl ∧ pl ≤ 24) (hn9 : 0 ≤ n9 ∧ n9 < 24) : Ct l G N0 yX6_secondsAt (Cond.code yX6_secondsAt cX6_secondsAt 4 (some FieldType.int) :: LW) ({ frames := 0, cells := 0, slots := 0, locals := 0 }) [vR (g 3), vI pl, vI n9] h (fun r h' => r = some (vI (shR (ρ 1 0) n9 (ρ 34 2) pl (ρ 34 3))) ∧ h' = h) := by
  refine ct_of rfl rfl ?_
  intro p e s m args below meth c F hr hnm
  have F : Fx p s m args meth c RX6 cX6_secondsAt 4 G N0 (cA h s.heap.size) := F
  obtain ⟨qd, hQd⟩ : ∃ z, 60 / ρ 34 2 = z := ⟨_, rfl⟩
  obtain ⟨qm, hQm⟩ : ∃ z, 60 % ρ 34 2 = z := ⟨_, rfl⟩
  have hqm : 0 ≤ qm ∧ qm < 60 := by rw [← hQm]; exact ⟨Int.emod_nonneg _ (by omega), Int.lt_of_lt_of_le (Int.emod_lt_of_pos _ hac.1) (by omega)⟩
  obtain ⟨Q, hQ⟩ : ∃ z, z = MQ below (cQc G N0 h s.heap.size (fun r h' => r = some (vI (shR (ρ 1 0) n9 (ρ 34 2) pl (ρ 34 3))) ∧ h' = h)) args s 0 0 (cA h s.heap.size) := ⟨_, rfl⟩
  rw [← hQ]
  show Z _ _ _ _ _ _ _ _ _ _ _ _ _ _ _ _ _ _ _ [(0, vR (g 3)), (1, vI pl), (2, vI n9)] []
  refine z_aload_n F dX6_secondsAt_0 rfl 0 rfl ?_
  refine z_get (v := vR (g 1)) F (ci_3 hI) fX6_15 rfl dX6_secondsAt_1 ?_
  refine z_get (v := vI (ρ 1 0)) F (ci_1 hI) fX6_80 rfl dX6_secondsAt_4 ?_
  refine z_bipush F dX6_secondsAt_7 (by decide) ?_
  refine z_icmp_ne (tgt := 15) F dX6_secondsAt_9 (by decide) (by omega) (by decide) (fun c9 => ?_) (fun c9 => ?_)
  · refine z_aload_n F dX6_secondsAt_15 rfl 0 rfl ?_
    refine z_get (v := vR (g 1)) F (ci_3 hI) fX6_15 rfl dX6_secondsAt_16 ?_
    refine z_get (v := vI (ρ 1 0)) F (ci_1 hI) fX6_80 rfl dX6_secondsAt_19 ?_
    refine z_bipush F dX6_secondsAt_22 (by decide) ?_
    refine z_icmp_ne (tgt := 42) F dX6_secondsAt_24 (by decide) (by omega) (by decide) (fun c24 => ?_) (fun c24 => ?_)
    · refine z_aload_n F dX6_secondsAt_42 rfl 0 rfl ?_
      refine z_get (v := vI (ρ 34 2)) F (ci_3 hI) fX6_54 rfl dX6_secondsAt_43 ?_
      refine z_if_gt (tgt := 51) F dX6_secondsAt_46 (by decide) (by omega) (fun c46 => ?_) (fun c46 => ?_)
      · refine z_iload_n F dX6_secondsAt_51 rfl 1 rfl ?_
        refine z_bipush F dX6_secondsAt_52 (by decide) ?_
        refine z_aload_n F dX6_secondsAt_54 rfl 0 rfl ?_
        refine z_get (v := vI (ρ 34 2)) F (ci_3 hI) fX6_54 rfl dX6_secondsAt_55 ?_
        refine z_irem F dX6_secondsAt_58 (by decide) (by omega) ?_
        show Z _ _ _ _ _ _ _ _ _ _ _ _ _ _ _ _ _ _ _ _ [vI (60 % ρ 34 2), vI pl]
        rw [hQm]
        refine z_icmp_ge (tgt := 66) F dX6_secondsAt_59 (by decide) (by omega) (by omega) (fun c59 => ?_) (fun c59 => ?_)
        · refine z_iconst F dX6_secondsAt_66 ?_
          refine z_istore_n (lv' := [(3, vI 0), (0, vR (g 3)), (1, vI pl), (2, vI n9)]) F dX6_secondsAt_67 rfl (by decide) rfl ?_
          refine z_bipush F dX6_secondsAt_68 (by decide) ?_
          refine z_aload_n F dX6_secondsAt_70 rfl 1 rfl ?_
          refine z_get (v := vI (ρ 34 2)) F (ci_3 hI) fX6_54 rfl dX6_secondsAt_71 ?_
          refine z_idiv F dX6_secondsAt_74 (by decide) (by omega) ?_
          show Z _ _ _ _ _ _ _ _ _ _ _ _ _ _ _ _ _ _ _ _ [vI (60 / ρ 34 2)]
          rw [hQd]
          refine z_iload_n F dX6_secondsAt_75 rfl 0 rfl ?_
          refine z_iadd F dX6_secondsAt_76 ?_
          rw [hQ]
          exact z_iret (nf_i _) F hr (Nat.le_of_ble_eq_true rfl) (Nat.le_of_ble_eq_true rfl) dX6_secondsAt_77 (⟨rI (by unfold shR; simp only [hQd, hQm] at *; omega), rfl⟩)
        · refine z_iconst F dX6_secondsAt_62 ?_
          refine z_goto (tgt := 67) F dX6_secondsAt_63 (by decide) ?_
          refine z_istore_n (lv' := [(3, vI 1), (0, vR (g 3)), (1, vI pl), (2, vI n9)]) F dX6_secondsAt_67 rfl (by decide) rfl ?_
          refine z_bipush F dX6_secondsAt_68 (by decide) ?_
          refine z_aload_n F dX6_secondsAt_70 rfl 1 rfl ?_
          refine z_get (v := vI (ρ 34 2)) F (ci_3 hI) fX6_54 rfl dX6_secondsAt_71 ?_
          refine z_idiv F dX6_secondsAt_74 (by decide) (by omega) ?_
          show Z _ _ _ _ _ _ _ _ _ _ _ _ _ _ _ _ _ _ _ _ [vI (60 / ρ 34 2)]
          rw [hQd]
          refine z_iload_n F dX6_secondsAt_75 rfl 0 rfl ?_
          refine z_iadd F dX6_secondsAt_76 ?_
          rw [hQ]
          exact z_iret (nf_i _) F hr (Nat.le_of_ble_eq_true rfl) (Nat.le_of_ble_eq_true rfl) dX6_secondsAt_77 (⟨rI (by unfold shR; simp only [hQd, hQm] at *; omega), rfl⟩)
      · exfalso; omega
    · refine z_iload_n F dX6_secondsAt_27 rfl 2 rfl ?_
      refine z_aload_n F dX6_secondsAt_28 rfl 0 rfl ?_
      refine z_get (v := vI (ρ 34 3)) F (ci_3 hI) fX6_74 rfl dX6_secondsAt_29 ?_
      refine z_icmp_ne (tgt := 40) F dX6_secondsAt_32 (by decide) (by omega) (by omega) (fun c32 => ?_) (fun c32 => ?_)
      · refine z_iconst F dX6_secondsAt_40 ?_
        rw [hQ]
        exact z_iret (nf_i _) F hr (Nat.le_of_ble_eq_true rfl) (Nat.le_of_ble_eq_true rfl) dX6_secondsAt_41 (⟨rI (by unfold shR; simp only [hQd, hQm] at *; omega), rfl⟩)
      · refine z_bipush F dX6_secondsAt_35 (by decide) ?_
        refine z_goto (tgt := 41) F dX6_secondsAt_37 (by decide) ?_
        rw [hQ]
        exact z_iret (nf_i _) F hr (Nat.le_of_ble_eq_true rfl) (Nat.le_of_ble_eq_true rfl) dX6_secondsAt_41 (⟨rI (by unfold shR; simp only [hQd, hQm] at *; omega), rfl⟩)
  · refine z_bipush F dX6_secondsAt_12 (by decide) ?_
    rw [hQ]
    exact z_iret (nf_i _) F hr (Nat.le_of_ble_eq_true rfl) (Nat.le_of_ble_eq_true rfl) dX6_secondsAt_14 (⟨rI (by unfold shR; simp only [hQd, hQm] at *; omega), rfl⟩)
set_option maxRecDepth 100000 in
set_option maxHeartbeats 4000000 in
theorem mX6_addToCell1 (l : Launch) (G : GG) (N0 : Nat) (h : Hp) (g : Int → Nat) (ρ : Sg) (c9 s9 : Int) (hI : CI G g ρ h) (hc : 0 ≤ c9 ∧ c9 < 120) : Ct l G N0 yX6_addToCell (Cond.code yX6_addToCell cX6_addToCell 3 none :: LW) ({ frames := 0, cells := 0, slots := 0, locals := 0 }) [vR (g 3), vI c9, vI s9] h (fun r h' => r = none ∧ CI G g (su ρ 15 c9 (ρ 15 c9 + s9)) h') := by
  refine ct_of rfl rfl ?_
  intro p e s m args below meth c F hr hnm
  have F : Fx p s m args meth c RX6 cX6_addToCell 3 G N0 (cA h s.heap.size) := F
  obtain ⟨Q, hQ⟩ : ∃ z, z = MQ below (cQc G N0 h s.heap.size (fun r h' => r = none ∧ CI G g (su ρ 15 c9 (ρ 15 c9 + s9)) h')) args s 0 0 (cA h s.heap.size) := ⟨_, rfl⟩
  rw [← hQ]
  show Z _ _ _ _ _ _ _ _ _ _ _ _ _ _ _ _ _ _ _ [(0, vR (g 3)), (1, vI c9), (2, vI s9)] []
  refine z_iload_n F dX6_addToCell_0 rfl 1 rfl ?_
  refine z_if_lt (tgt := 23) F dX6_addToCell_1 (by decide) (by omega) (fun c1 => ?_) (fun c1 => ?_)
  · exfalso; omega
  · refine z_iload_n F dX6_addToCell_4 rfl 1 rfl ?_
    refine z_aload_n F dX6_addToCell_5 rfl 0 rfl ?_
    refine z_get (v := vR (g 5)) F (ci_3 hI) fX6_9 rfl dX6_addToCell_6 ?_
    refine z_alen F (ci_5 hI) (by decide) dX6_addToCell_9 ?_
    refine z_icmp_ge (tgt := 23) F dX6_addToCell_10 (by decide) (by omega) (by decide) (fun c10 => ?_) (fun c10 => ?_)
    · exfalso; omega
    · refine z_aload_n F dX6_addToCell_13 rfl 0 rfl ?_
      refine z_get (v := vR (g 5)) F (ci_3 hI) fX6_9 rfl dX6_addToCell_14 ?_
      refine z_iload_n F dX6_addToCell_17 rfl 1 rfl ?_
      refine z_dup2 F dX6_addToCell_18 rfl rfl ?_
      refine z_iaload (N := 120) (f := fun j => ρ 15 j) F (ci_5 hI) (by omega) (by omega) (by omega) dX6_addToCell_19 ?_
      refine z_iload_n F dX6_addToCell_20 rfl 2 rfl ?_
      refine z_iadd F dX6_addToCell_21 ?_
      obtain ⟨h1, eh1, Ih1⟩ : ∃ z : Hp, hu h (g 5) (eA 0 120 (fun j => vI (if j = c9 then (ρ 15 c9) + s9 else ρ 15 j))) = z ∧ CI G g (su ρ 15 c9 ((ρ 15 c9) + s9)) z := ⟨_, rfl, cPsu15 hI c9 ((ρ 15 c9) + s9)⟩
      refine z_iastore (N := 120) (f := fun j => ρ 15 j) (h' := h1) F (ci_5 hI) (by omega) (by omega) (by omega) dX6_addToCell_22 eh1 ?_
      rw [hQ]
      exact z_vret F hr (Nat.le_of_ble_eq_true rfl) (Nat.le_of_ble_eq_true rfl) dX6_addToCell_23 (⟨rfl, Ih1⟩)
set_option maxRecDepth 100000 in
set_option maxHeartbeats 4000000 in
theorem mX6_addStretch1 (l : Launch) (G : GG) (N0 : Nat) (h : Hp) (g : Int → Nat) (ρ : Sg) (m9 k9 : Int) (hI : CI G g ρ h) (hV : MC ρ) (hm : 0 ≤ m9 ∧ m9 < 3000) (hk : 1 ≤ k9 ∧ k9 ≤ 3000) : Ct l G N0 yX6_addStretch (Cond.code yX6_addStretch cX6_addStretch 5 none :: LW) ({ frames := 4, cells := 0, slots := 0, locals := 180 }) [vR (g 3), vI m9, vI k9] h (fun r h' => r = none ∧ ∃ pv f9, CI G g (sw (sw ρ 34 pv) 15 f9) h' ∧ ∀ j, f9 j = ρ 15 j + (if (0 ≤ j ∧ j < 5 * ρ 8 0) ∧ j % 5 = m9 / 600 then k9 * shI ρ (j / 5) m9 else 0)) := by
  refine ct_of rfl rfl ?_
  intro p e s m args below meth c F hr hnm
  have F : Fx p s m args meth c RX6 cX6_addStretch 5 G N0 (cA h s.heap.size) := F
  obtain ⟨v0, v1, v2, v8, v16, v24, v39, vC, vE, vJ, vK, vB, vO⟩ := id hV
  obtain ⟨Q, hQ⟩ : ∃ z, z = MQ below (cQc G N0 h s.heap.size (fun r h' => r = none ∧ ∃ pv f9, CI G g (sw (sw ρ 34 pv) 15 f9) h' ∧ ∀ j, f9 j = ρ 15 j + (if (0 ≤ j ∧ j < 5 * ρ 8 0) ∧ j % 5 = m9 / 600 then k9 * shI ρ (j / 5) m9 else 0))) args s 0 0 (cA h s.heap.size) := ⟨_, rfl⟩
  rw [← hQ]
  show Z _ _ _ _ _ _ _ _ _ _ _ _ _ _ _ _ _ _ _ [(0, vR (g 3)), (1, vI m9), (2, vI k9)] []
  refine z_aload_n F dX6_addStretch_0 rfl 0 rfl ?_
  refine z_iload_n F dX6_addStretch_1 rfl 1 rfl ?_
  refine z_callV (As := [vI m9]) (st := []) F (mX6_survey1 l G N0 h g ρ m9 hI hV hm) cvX6_40 (ci_3 hI) (fun r9 h9 => by cases h9; rfl) rfl rfl ⟨Nat.le_of_ble_eq_true rfl, Nat.le_of_ble_eq_true rfl⟩ rfl ⟨Nat.le_of_ble_eq_true rfl, Nat.le_of_ble_eq_true rfl⟩ dX6_addStretch_2 ?_
  rintro _ h7 ⟨rfl, pv, I7, hpa, hpb, hpr⟩
  have hcn := cnt_in ρ m9 (ρ 8 0).toNat
  show Z _ _ _ _ _ _ _ _ _ _ _ _ _ _ _ _ _ _ _ _ []
  refine z_iconst F dX6_addStretch_5 ?_
  refine z_istore_n (lv' := [(3, vI 0), (0, vR (g 3)), (1, vI m9), (2, vI k9)]) F dX6_addStretch_6 rfl (by decide) rfl ?_
  refine z_iconst F dX6_addStretch_7 ?_
  refine z_istore (lv' := [(4, vI 0), (3, vI 0), (0, vR (g 3)), (1, vI m9), (2, vI k9)]) F dX6_addStretch_8 (by decide) rfl ?_
  have L10 : ∀ (fuel : Nat) (pl9 : Int) (i9 : Int) (h8 : Hp) (f9 : Int → Int), (CI G g (sw (sw ρ 34 pv) 15 f9) h8) → (0 ≤ i9 ∧ i9 ≤ ρ 8 0) → (pl9 = cnt ρ m9 i9.toNat) → (∀ j, f9 j = ρ 15 j + (if (0 ≤ j ∧ j < 5 * i9) ∧ j % 5 = m9 / 600 then k9 * shI ρ (j / 5) m9 else 0)) → ρ 8 0 - i9 < (fuel : Int) → Z p l e ({ frames := 4, cells := 0, slots := 0, locals := 180 }) s m args below meth c 5 G N0 (cA h s.heap.size) Q h8 0 0 10 [(4, vI i9), (3, vI pl9), (0, vR (g 3)), (1, vI m9), (2, vI k9)] [] := by
    intro fuel
    induction fuel with
    | zero => intro pl9 i9 h8  f9  hI8 ha hpl hf hm; exact absurd hm (by omega)
    | succ fuel ih10 =>
      intro pl9 i9 h8  f9  hI8 ha hpl hf hm
      have E_i9 := fun q9 => vE i9 (by omega) q9
      have hci := cnt_in ρ m9 i9.toNat
      have hcm := cnt_mono ρ m9 i9.toNat (ρ 8 0).toNat (by omega)
      refine z_iload F dX6_addStretch_10 0 rfl ?_
      refine z_aload_n F dX6_addStretch_12 rfl 2 rfl ?_
      refine z_get (v := vR (g 1)) F (ci_3 (ρ := (sw (sw ρ 34 pv) 15 f9)) hI8) fX6_15 rfl dX6_addStretch_13 ?_
      refine z_get (v := vR (g 15)) F (ci_1 (ρ := (sw (sw ρ 34 pv) 15 f9)) hI8) fX6_44 rfl dX6_addStretch_16 ?_
      refine z_callV (As := []) (st := [vI i9]) F (mJx4a65c_size_8abf5 l G N0 h8 (g 15) ((ρ 40 3).toNat) 0 (ρ 32 3) (ρ 8 0) (fun _ => none) (ci_15 (ρ := (sw (sw ρ 34 pv) 15 f9)) hI8)) cvX6_48 (ci_15 (ρ := (sw (sw ρ 34 pv) 15 f9)) hI8) (fun r9 h9 => by cases h9; rfl) rfl rfl ⟨Nat.le_of_ble_eq_true rfl, Nat.le_of_ble_eq_true rfl⟩ rfl ⟨Nat.le_of_ble_eq_true rfl, Nat.le_of_ble_eq_true rfl⟩ dX6_addStretch_19 ?_
      rintro _ h9 ⟨rfl, hh9⟩
      rw [hh9]
      clear hh9 h9
      show Z _ _ _ _ _ _ _ _ _ _ _ _ _ _ _ _ _ _ _ _ [vI (ρ 8 0), vI i9]
      refine z_icmp_ge (tgt := 87) F dX6_addStretch_22 (by decide) (by omega) (by omega) (fun c22 => ?_) (fun c22 => ?_)
      · rw [hQ]
        exact z_vret F hr (Nat.le_of_ble_eq_true rfl) (Nat.le_of_ble_eq_true rfl) dX6_addStretch_87 (⟨rfl, pv, f9, hI8, fun j => by
                  rw [hf]
                  by_cases q2 : (0 ≤ j ∧ j < 5 * i9) ∧ j % 5 = m9 / 600
                  · rw [if_pos q2, if_pos (by omega)]
                  · rw [if_neg q2]
                    by_cases q3 : (0 ≤ j ∧ j < 5 * ρ 8 0) ∧ j % 5 = m9 / 600
                    · rw [if_pos q3, shI_n (cnt_z (e := j / 5) (n := (ρ 8 0).toNat) (k := i9.toNat) (by omega) (by omega) (by omega) (by omega)), Int.mul_zero]
                    · rw [if_neg q3]⟩)
      · refine z_iload_n F dX6_addStretch_25 rfl 1 rfl ?_
        refine z_aload_n F dX6_addStretch_26 rfl 2 rfl ?_
        refine z_get (v := vI (pv 2)) F (ci_3 (ρ := (sw (sw ρ 34 pv) 15 f9)) hI8) fX6_54 rfl dX6_addStretch_27 ?_
        refine z_icmp_ge (tgt := 87) F dX6_addStretch_30 (by decide) (by omega) (by omega) (fun c30 => ?_) (fun c30 => ?_)
        · rw [hQ]
          exact z_vret F hr (Nat.le_of_ble_eq_true rfl) (Nat.le_of_ble_eq_true rfl) dX6_addStretch_87 (⟨rfl, pv, f9, hI8, fun j => by
                      rw [hf]
                      by_cases q2 : (0 ≤ j ∧ j < 5 * i9) ∧ j % 5 = m9 / 600
                      · rw [if_pos q2, if_pos (by omega)]
                      · rw [if_neg q2]
                        by_cases q3 : (0 ≤ j ∧ j < 5 * ρ 8 0) ∧ j % 5 = m9 / 600
                        · rw [if_pos q3, shI_n (cnt_z (e := j / 5) (n := (ρ 8 0).toNat) (k := i9.toNat) (by omega) (by omega) (by omega) (by omega)), Int.mul_zero]
                        · rw [if_neg q3]⟩)
        · refine z_aload_n F dX6_addStretch_33 rfl 2 rfl ?_
          refine z_get (v := vR (g 1)) F (ci_3 (ρ := (sw (sw ρ 34 pv) 15 f9)) hI8) fX6_15 rfl dX6_addStretch_34 ?_
          refine z_get (v := vR (g 15)) F (ci_1 (ρ := (sw (sw ρ 34 pv) 15 f9)) hI8) fX6_44 rfl dX6_addStretch_37 ?_
          refine z_iload F dX6_addStretch_40 0 rfl ?_
          refine z_callV (As := [vI i9]) (st := []) F (cGet3 l G N0 h8 g (sw (sw ρ 34 pv) 15 f9) i9 hI8 (show 0 ≤ i9 ∧ i9 < ρ 8 0 from by omega)) cvX6_58 (ci_15 (ρ := (sw (sw ρ 34 pv) 15 f9)) hI8) (fun r9 h9 => by cases h9; rfl) rfl rfl ⟨Nat.le_of_ble_eq_true rfl, Nat.le_of_ble_eq_true rfl⟩ rfl ⟨Nat.le_of_ble_eq_true rfl, Nat.le_of_ble_eq_true rfl⟩ dX6_addStretch_42 ?_
          rintro _ h9 ⟨rfl, hh9⟩
          rw [hh9]
          clear hh9 h9
          show Z _ _ _ _ _ _ _ _ _ _ _ _ _ _ _ _ _ _ _ _ [vR (aE ρ i9)]
          refine z_cast F (ci_e (ρ := (sw (sw ρ 34 pv) 15 f9)) hI8 (show 0 ≤ i9 ∧ i9 < ρ 8 0 ∧ i9 < 100 from by omega)) q645 (fun r9 h9 => by cases h9; rfl) dX6_addStretch_45 ?_
          refine z_iload_n F dX6_addStretch_48 rfl 3 rfl ?_
          have cv49 := cvI_in ρ i9 m9
          refine z_callV (As := [vI m9]) (st := []) F (mX2_covers l G N0 h8 (aE ρ i9) i9 (aC ρ (ρ 9 i9)) (ρ 10 i9) (ρ 11 i9) (ρ 12 i9) (ρ 13 i9) m9 (ci_e (ρ := (sw (sw ρ 34 pv) 15 f9)) hI8 (show 0 ≤ i9 ∧ i9 < ρ 8 0 ∧ i9 < 100 from by omega)) (by omega) (by omega) (by omega) (by omega)) cvX6_64 (ci_e (ρ := (sw (sw ρ 34 pv) 15 f9)) hI8 (show 0 ≤ i9 ∧ i9 < ρ 8 0 ∧ i9 < 100 from by omega)) (fun r9 h9 => by cases h9; rfl) rfl rfl ⟨Nat.le_of_ble_eq_true rfl, Nat.le_of_ble_eq_true rfl⟩ rfl ⟨Nat.le_of_ble_eq_true rfl, Nat.le_of_ble_eq_true rfl⟩ dX6_addStretch_49 ?_
          rintro _ h9 ⟨rfl, hh9⟩
          rw [hh9]
          clear hh9 h9
          rw [cvI_a hV (e := i9) (m := m9) (by omega) (by omega)]
          show Z _ _ _ _ _ _ _ _ _ _ _ _ _ _ _ _ _ _ _ _ [vI (cvI ρ i9 m9)]
          refine z_if_eq (tgt := 81) F dX6_addStretch_52 (by decide) (by omega) (fun c52 => ?_) (fun c52 => ?_)
          · refine z_iinc (lv' := [(4, vI (i9 + 1)), (3, vI pl9), (0, vR (g 3)), (1, vI m9), (2, vI k9)]) F dX6_addStretch_81 0 rfl (by decide) rfl ?_
            refine z_goto (tgt := 10) F dX6_addStretch_84 (by decide) ?_
            exact ih10 pl9 (i9 + 1) h8 f9 (hI8) (by omega) (by rw [cnt_s ρ m9 (by omega)]; omega) ((fun j => by
                          rw [hf]
                          by_cases q2 : (0 ≤ j ∧ j < 5 * i9) ∧ j % 5 = m9 / 600
                          · rw [if_pos q2, if_pos (by omega)]
                          · rw [if_neg q2]
                            by_cases q3 : (0 ≤ j ∧ j < 5 * (i9 + 1)) ∧ j % 5 = m9 / 600
                            · rw [if_pos q3, show j / 5 = i9 by omega, shI_n (show cvI ρ i9 m9 = 0 by omega), Int.mul_zero]
                            · rw [if_neg q3])) (by omega)
          · refine z_aload_n F dX6_addStretch_55 rfl 2 rfl ?_
            refine z_iload F dX6_addStretch_56 0 rfl ?_
            refine z_iconst F dX6_addStretch_58 ?_
            refine z_imul F dX6_addStretch_59 ?_
            refine z_iload_n F dX6_addStretch_60 rfl 3 rfl ?_
            refine z_sipush F dX6_addStretch_61 (by decide) ?_
            refine z_idiv F dX6_addStretch_64 (by omega) (by omega) ?_
            refine z_iadd F dX6_addStretch_65 ?_
            refine z_iload_n F dX6_addStretch_66 rfl 4 rfl ?_
            refine z_aload_n F dX6_addStretch_67 rfl 2 rfl ?_
            refine z_iload_n F dX6_addStretch_68 rfl 1 rfl ?_
            refine z_iload F dX6_addStretch_69 0 rfl ?_
            refine z_callV (As := [vI pl9, vI i9]) (st := [vI k9, vI ((i9 * 5) + (m9 / 600)), vR (g 3)]) F (mX6_secondsAt1 l G N0 h8 g (sw (sw ρ 34 pv) 15 f9) pl9 i9 hI8 (show ρ 1 0 = 102 ∨ ρ 1 0 = 108 ∨ ρ 1 0 = 115 from v1) (show 0 < pv 2 ∧ pv 2 ≤ 24 from by omega) (show -1 ≤ pv 3 ∧ pv 3 < 24 from hpr) (by omega) (by omega)) cvX6_68 (ci_3 (ρ := (sw (sw ρ 34 pv) 15 f9)) hI8) (fun r9 h9 => by cases h9; rfl) rfl rfl ⟨Nat.le_of_ble_eq_true rfl, Nat.le_of_ble_eq_true rfl⟩ rfl ⟨Nat.le_of_ble_eq_true rfl, Nat.le_of_ble_eq_true rfl⟩ dX6_addStretch_71 ?_
            rintro _ h9 ⟨rfl, hh9⟩
            rw [hh9]
            clear hh9 h9
            show Z _ _ _ _ _ _ _ _ _ _ _ _ _ _ _ _ _ _ _ _ [vI (shR (ρ 1 0) i9 (pv 2) pl9 (pv 3)), vI k9, vI ((i9 * 5) + (m9 / 600)), vR (g 3)]
            refine z_imul F dX6_addStretch_74 ?_
            refine z_callV (As := [vI ((i9 * 5) + (m9 / 600)), vI (k9 * (shR (ρ 1 0) i9 (pv 2) pl9 (pv 3)))]) (st := []) F (mX6_addToCell1 l G N0 h8 g (sw (sw ρ 34 pv) 15 f9) ((i9 * 5) + (m9 / 600)) (k9 * (shR (ρ 1 0) i9 (pv 2) pl9 (pv 3))) hI8 (by omega)) cvX6_71 (ci_3 (ρ := (sw (sw ρ 34 pv) 15 f9)) hI8) (fun r9 h9 => by cases h9; rfl) rfl rfl ⟨Nat.le_of_ble_eq_true rfl, Nat.le_of_ble_eq_true rfl⟩ rfl ⟨Nat.le_of_ble_eq_true rfl, Nat.le_of_ble_eq_true rfl⟩ dX6_addStretch_75 ?_
            rintro _ h1 ⟨rfl, Ih1⟩
            show Z _ _ _ _ _ _ _ _ _ _ _ _ _ _ _ _ _ _ _ _ []
            refine z_iinc (lv' := [(3, vI (pl9 + 1)), (4, vI i9), (0, vR (g 3)), (1, vI m9), (2, vI k9)]) F dX6_addStretch_78 1 rfl (by decide) rfl ?_
            refine z_iinc (lv' := [(4, vI (i9 + 1)), (3, vI (pl9 + 1)), (0, vR (g 3)), (1, vI m9), (2, vI k9)]) F dX6_addStretch_81 1 rfl (by decide) rfl ?_
            refine z_goto (tgt := 10) F dX6_addStretch_84 (by decide) ?_
            exact ih10 (pl9 + 1) (i9 + 1) h1 (fun j => if j = (i9 * 5) + (m9 / 600) then f9 ((i9 * 5) + (m9 / 600)) + (k9 * (shR (ρ 1 0) i9 (pv 2) pl9 (pv 3))) else f9 j) (CI.suw Ih1) (by omega) (by rw [cnt_s ρ m9 (by omega)]; omega) ((fun j => by
                          have hsh : shR (ρ 1 0) i9 (pv 2) pl9 (pv 3) = shI ρ i9 m9 := by
                            unfold shI
                            rw [if_pos (show cvI ρ i9 m9 = 1 by omega), ← hpa, ← hpb (by omega), ← hpl]
                          show (if j = (i9 * 5) + (m9 / 600) then f9 ((i9 * 5) + (m9 / 600)) + k9 * shR (ρ 1 0) i9 (pv 2) pl9 (pv 3) else f9 j) = _
                          by_cases q : j = (i9 * 5) + (m9 / 600)
                          · rw [if_pos q, hf, hsh, if_neg (by omega), if_pos (by omega), q, show ((i9 * 5) + (m9 / 600)) / 5 = i9 by omega]; omega
                          · rw [if_neg q, hf]
                            by_cases q2 : (0 ≤ j ∧ j < 5 * i9) ∧ j % 5 = m9 / 600
                            · rw [if_pos q2, if_pos (by omega)]
                            · rw [if_neg q2, if_neg (by omega)])) (by omega)
  exact L10 ((ρ 8 0 - 0 : Int).toNat + 1) 0 0 h7 (ρ 15) (CI.n1 I7 15 (fun k hk => rfl)) (by omega) (rfl) (fun j => by rw [if_neg (by omega)]; exact (Int.add_zero _).symm) (by omega)
set_option maxRecDepth 100000 in
set_option maxHeartbeats 4000000 in
theorem mX6_countByMinutes1 (l : Launch) (G : GG) (N0 : Nat) (h : Hp) (g : Int → Nat) (ρ : Sg) (fr to : Int) (hI : CI G g ρ h) (hV : MC ρ) (hft : 0 ≤ fr ∧ fr ≤ 3000 ∧ 0 ≤ to ∧ to ≤ 3000) : Ct l G N0 yX6_countByMinutes (Cond.code yX6_countByMinutes cX6_countByMinutes 4 none :: LW) ({ frames := 5, cells := 0, slots := 0, locals := 220 }) [vR (g 3), vI fr, vI to] h (fun r h' => r = none ∧ ∃ p9 f9, CI G g (sw (sw ρ 34 p9) 15 f9) h' ∧ ∀ j, 0 ≤ j → j < 120 → f9 j = ceF ρ fr (to - fr).toNat j) := by
  refine ct_of rfl rfl ?_
  intro p e s m args below meth c F hr hnm
  have F : Fx p s m args meth c RX6 cX6_countByMinutes 4 G N0 (cA h s.heap.size) := F
  obtain ⟨v0, v1, v2, v8, v16, v24, v39, vC, vE, vJ, vK, vB, vO⟩ := id hV
  obtain ⟨Q, hQ⟩ : ∃ z, z = MQ below (cQc G N0 h s.heap.size (fun r h' => r = none ∧ ∃ p9 f9, CI G g (sw (sw ρ 34 p9) 15 f9) h' ∧ ∀ j, 0 ≤ j → j < 120 → f9 j = ceF ρ fr (to - fr).toNat j)) args s 0 0 (cA h s.heap.size) := ⟨_, rfl⟩
  rw [← hQ]
  show Z _ _ _ _ _ _ _ _ _ _ _ _ _ _ _ _ _ _ _ [(0, vR (g 3)), (1, vI fr), (2, vI to)] []
  refine z_aload_n F dX6_countByMinutes_0 rfl 0 rfl ?_
  refine z_get (v := vR (g 5)) F (ci_3 hI) fX6_9 rfl dX6_countByMinutes_1 ?_
  refine z_iconst F dX6_countByMinutes_4 ?_
  refine z_callS (As := [vR (g 5), vI 0]) (st := []) F (mJ7_fill_53178 l G N0 h (g 5) 120 (ρ 15) 0 (ci_5 hI) (by decide)) csX6_19 rfl rfl ⟨Nat.le_of_ble_eq_true rfl, Nat.le_of_ble_eq_true rfl⟩ rfl ⟨Nat.le_of_ble_eq_true rfl, Nat.le_of_ble_eq_true rfl⟩ dX6_countByMinutes_5 ?_
  rintro _ h7 ⟨rfl, hh7⟩
  have I7 : CI G g (sw ρ 15 (fun j => if 0 ≤ j ∧ j < ((120 : Nat) : Int) then 0 else ρ 15 j)) h7 := by rw [hh7]; exact cPsw15 hI _
  show Z _ _ _ _ _ _ _ _ _ _ _ _ _ _ _ _ _ _ _ _ []
  refine z_iload_n F dX6_countByMinutes_8 rfl 1 rfl ?_
  refine z_istore_n (lv' := [(3, vI fr), (0, vR (g 3)), (1, vI fr), (2, vI to)]) F dX6_countByMinutes_9 rfl (by decide) rfl ?_
  have L10 : ∀ (fuel : Nat) (m9 : Int) (h8 : Hp) (p9 f9 : Int → Int), (CI G g (sw (sw ρ 34 p9) 15 f9) h8) → (fr ≤ m9 ∧ (m9 ≤ to ∨ m9 = fr)) → (∀ j, 0 ≤ j → j < 120 → f9 j = ceF ρ fr (m9 - fr).toNat j) → (if to < m9 then 0 else to - m9) < (fuel : Int) → Z p l e ({ frames := 5, cells := 0, slots := 0, locals := 220 }) s m args below meth c 4 G N0 (cA h s.heap.size) Q h8 0 0 10 [(3, vI m9), (0, vR (g 3)), (1, vI fr), (2, vI to)] [] := by
    intro fuel
    induction fuel with
    | zero => intro m9 h8  p9 f9  hI8 ha hf hm; exact absurd hm (by omega)
    | succ fuel ih10 =>
      intro m9 h8  p9 f9  hI8 ha hf hm
      refine z_iload_n F dX6_countByMinutes_10 rfl 0 rfl ?_
      refine z_iload_n F dX6_countByMinutes_11 rfl 3 rfl ?_
      refine z_icmp_ge (tgt := 27) F dX6_countByMinutes_12 (by decide) (by omega) (by omega) (fun c12 => ?_) (fun c12 => ?_)
      · rw [hQ]
        exact z_vret F hr (Nat.le_of_ble_eq_true rfl) (Nat.le_of_ble_eq_true rfl) dX6_countByMinutes_27 (⟨rfl, p9, f9, hI8, fun j q0 q1 => by
              rw [hf j q0 q1]
              by_cases q : m9 ≤ to
              · rw [show m9 = to by omega]
              · rw [show (m9 - fr).toNat = (to - fr).toNat by omega]⟩)
      · refine z_aload_n F dX6_countByMinutes_15 rfl 1 rfl ?_
        refine z_iload_n F dX6_countByMinutes_16 rfl 0 rfl ?_
        refine z_iconst F dX6_countByMinutes_17 ?_
        refine z_callV (As := [vI m9, vI 1]) (st := []) F (mX6_addStretch1 l G N0 h8 g (sw (sw ρ 34 p9) 15 f9) m9 1 hI8 (MC.sa (((SA.refl ρ).sw rfl _).sw rfl _) hV) (by omega) (by omega)) cvX6_36 (ci_3 (ρ := (sw (sw ρ 34 p9) 15 f9)) hI8) (fun r9 h9 => by cases h9; rfl) rfl rfl ⟨Nat.le_of_ble_eq_true rfl, Nat.le_of_ble_eq_true rfl⟩ rfl ⟨Nat.le_of_ble_eq_true rfl, Nat.le_of_ble_eq_true rfl⟩ dX6_countByMinutes_18 ?_
        rintro _ h6 ⟨rfl, p7, f7, I7, hf7⟩
        rw [shI_r (SA.c (((SA.refl ρ).sw rfl _).sw rfl _))] at hf7
        have hf7 : ∀ j, f7 j = f9 j + (if (0 ≤ j ∧ j < 5 * ρ 8 0) ∧ j % 5 = m9 / 600 then (1) * shI ρ (j / 5) m9 else 0) := hf7
        have I6 : CI G g (sw (sw ρ 34 p7) 15 f7) h6 := CI.n2 I7 34 15 (fun k h1 h2 => by funext j; simp [sw, h1, h2])
        show Z _ _ _ _ _ _ _ _ _ _ _ _ _ _ _ _ _ _ _ _ []
        refine z_iinc (lv' := [(3, vI (m9 + 1)), (0, vR (g 3)), (1, vI fr), (2, vI to)]) F dX6_countByMinutes_21 0 rfl (by decide) rfl ?_
        refine z_goto (tgt := 10) F dX6_countByMinutes_24 (by decide) ?_
        exact ih10 (m9 + 1) h6 p7 f7 (I6) (by omega) (fun j q0 q1 => by rw [hf7, hf j q0 q1]; exact (ceF_min (by omega) q0).symm) (by omega)
  exact L10 (((if to < fr then 0 else to - fr) : Int).toNat + 1) fr h7 (ρ 34) ((sw ρ 15 (fun j => if 0 ≤ j ∧ j < ((120 : Nat) : Int) then 0 else ρ 15 j)) 15) (CI.n2 I7 34 15 (fun k h1 h2 => by funext j; simp [sw, h1, h2])) (by omega) (fun j q0 q1 => by
    rw [show (fr - fr).toNat = 0 by omega, ceF_zero]
    show (if 0 ≤ j ∧ j < ((120 : Nat) : Int) then (0 : Int) else ρ 15 j) = 0
    exact if_pos ⟨q0, q1⟩) (by omega)
set_option maxRecDepth 100000 in
set_option maxHeartbeats 4000000 in
theorem mX6_secondsInDay1 (l : Launch) (G : GG) (N0 : Nat) (h : Hp) (g : Int → Nat) (ρ : Sg) (e9 d9 : Int) (hI : CI G g ρ h) (he : 0 ≤ e9 ∧ e9 < ρ 8 0) (hd : 0 ≤ d9 ∧ d9 < 5) (h8 : ρ 8 0 ≤ 24) : Ct l G N0 yX6_secondsInDay (Cond.code yX6_secondsInDay cX6_secondsInDay 4 (some FieldType.int) :: LW) ({ frames := 0, cells := 0, slots := 0, locals := 0 }) [vR (g 3), vR (aE ρ e9), vI d9] h (fun r h' => r = some (vI (ρ 15 (5 * e9 + d9))) ∧ h' = h) := by
  refine ct_of rfl rfl ?_
  intro p e s m args below meth c F hr hnm
  have F : Fx p s m args meth c RX6 cX6_secondsInDay 4 G N0 (cA h s.heap.size) := F
  obtain ⟨Q, hQ⟩ : ∃ z, z = MQ below (cQc G N0 h s.heap.size (fun r h' => r = some (vI (ρ 15 (5 * e9 + d9))) ∧ h' = h)) args s 0 0 (cA h s.heap.size) := ⟨_, rfl⟩
  rw [← hQ]
  show Z _ _ _ _ _ _ _ _ _ _ _ _ _ _ _ _ _ _ _ [(0, vR (g 3)), (1, vR (aE ρ e9)), (2, vI d9)] []
  refine z_aload_n F dX6_secondsInDay_0 rfl 1 rfl ?_
  refine z_get (v := vI e9) F (ci_e hI (show 0 ≤ e9 ∧ e9 < ρ 8 0 ∧ e9 < 100 from by omega)) fX6_84 rfl dX6_secondsInDay_1 ?_
  refine z_iconst F dX6_secondsInDay_4 ?_
  refine z_imul F dX6_secondsInDay_5 ?_
  refine z_iload_n F dX6_secondsInDay_6 rfl 2 rfl ?_
  refine z_iadd F dX6_secondsInDay_7 ?_
  refine z_istore_n (lv' := [(3, vI ((e9 * 5) + d9)), (0, vR (g 3)), (1, vR (aE ρ e9)), (2, vI d9)]) F dX6_secondsInDay_8 rfl (by decide) rfl ?_
  refine z_iload_n F dX6_secondsInDay_9 rfl 0 rfl ?_
  refine z_if_lt (tgt := 31) F dX6_secondsInDay_10 (by decide) (by omega) (fun c10 => ?_) (fun c10 => ?_)
  · refine z_iconst F dX6_secondsInDay_31 ?_
    rw [hQ]
    exact z_iret (nf_i _) F hr (Nat.le_of_ble_eq_true rfl) (Nat.le_of_ble_eq_true rfl) dX6_secondsInDay_32 (⟨rI (by first | rfl | (congr 1; omega) | (exfalso; omega)), rfl⟩)
  · refine z_iload_n F dX6_secondsInDay_13 rfl 0 rfl ?_
    refine z_aload_n F dX6_secondsInDay_14 rfl 1 rfl ?_
    refine z_get (v := vR (g 5)) F (ci_3 hI) fX6_9 rfl dX6_secondsInDay_15 ?_
    refine z_alen F (ci_5 hI) (by decide) dX6_secondsInDay_18 ?_
    refine z_icmp_ge (tgt := 31) F dX6_secondsInDay_19 (by decide) (by omega) (by decide) (fun c19 => ?_) (fun c19 => ?_)
    · refine z_iconst F dX6_secondsInDay_31 ?_
      rw [hQ]
      exact z_iret (nf_i _) F hr (Nat.le_of_ble_eq_true rfl) (Nat.le_of_ble_eq_true rfl) dX6_secondsInDay_32 (⟨rI (by first | rfl | (congr 1; omega) | (exfalso; omega)), rfl⟩)
    · refine z_aload_n F dX6_secondsInDay_22 rfl 1 rfl ?_
      refine z_get (v := vR (g 5)) F (ci_3 hI) fX6_9 rfl dX6_secondsInDay_23 ?_
      refine z_iload_n F dX6_secondsInDay_26 rfl 0 rfl ?_
      refine z_iaload (N := 120) (f := fun j => ρ 15 j) F (ci_5 hI) (by omega) (by omega) (by omega) dX6_secondsInDay_27 ?_
      refine z_goto (tgt := 32) F dX6_secondsInDay_28 (by decide) ?_
      rw [hQ]
      exact z_iret (nf_i _) F hr (Nat.le_of_ble_eq_true rfl) (Nat.le_of_ble_eq_true rfl) dX6_secondsInDay_32 (⟨rI (by first | rfl | (congr 1; omega) | (exfalso; omega)), rfl⟩)
set_option maxRecDepth 100000 in
set_option maxHeartbeats 4000000 in
theorem mX6_secondsOf1 (l : Launch) (G : GG) (N0 : Nat) (h : Hp) (g : Int → Nat) (ρ : Sg) (e9 : Int) (hI : CI G g ρ h) (he : 0 ≤ e9 ∧ e9 < ρ 8 0) (h8 : ρ 8 0 ≤ 24) (hs0 : 0 ≤ ρ 12 e9 ∧ ρ 12 e9 ≤ 200) : Ct l G N0 yX6_secondsOf (Cond.code yX6_secondsOf cX6_secondsOf 5 (some FieldType.int) :: LW) ({ frames := 2, cells := 0, slots := 0, locals := 80 }) [vR (g 3), vR (aE ρ e9)] h (fun r h' => r = some (vI (sOf ρ 15 e9)) ∧ h' = h) := by
  refine ct_of rfl rfl ?_
  intro p e s m args below meth c F hr hnm
  have F : Fx p s m args meth c RX6 cX6_secondsOf 5 G N0 (cA h s.heap.size) := F
  obtain ⟨Q, hQ⟩ : ∃ z, z = MQ below (cQc G N0 h s.heap.size (fun r h' => r = some (vI (sOf ρ 15 e9)) ∧ h' = h)) args s 0 0 (cA h s.heap.size) := ⟨_, rfl⟩
  rw [← hQ]
  show Z _ _ _ _ _ _ _ _ _ _ _ _ _ _ _ _ _ _ _ [(0, vR (g 3)), (1, vR (aE ρ e9))] []
  refine z_aload_n F dX6_secondsOf_0 rfl 1 rfl ?_
  refine z_get (v := vI (ρ 12 e9)) F (ci_e hI (show 0 ≤ e9 ∧ e9 < ρ 8 0 ∧ e9 < 100 from by omega)) fX6_87 rfl dX6_secondsOf_1 ?_
  refine z_bipush F dX6_secondsOf_4 (by decide) ?_
  refine z_icmp_ne (tgt := 14) F dX6_secondsOf_6 (by decide) (by omega) (by decide) (fun c6 => ?_) (fun c6 => ?_)
  · refine z_iconst F dX6_secondsOf_14 ?_
    refine z_istore_n (lv' := [(2, vI 0), (0, vR (g 3)), (1, vR (aE ρ e9))]) F dX6_secondsOf_15 rfl (by decide) rfl ?_
    refine z_aload_n F dX6_secondsOf_16 rfl 2 rfl ?_
    refine z_get (v := vI e9) F (ci_e hI (show 0 ≤ e9 ∧ e9 < ρ 8 0 ∧ e9 < 100 from by omega)) fX6_84 rfl dX6_secondsOf_17 ?_
    refine z_iconst F dX6_secondsOf_20 ?_
    refine z_imul F dX6_secondsOf_21 ?_
    refine z_istore_n (lv' := [(3, vI (e9 * 5)), (2, vI 0), (0, vR (g 3)), (1, vR (aE ρ e9))]) F dX6_secondsOf_22 rfl (by decide) rfl ?_
    refine z_iconst F dX6_secondsOf_23 ?_
    refine z_iload_n F dX6_secondsOf_24 rfl 0 rfl ?_
    refine z_mmax F mmX6_31 ⟨Nat.le_of_ble_eq_true rfl, Nat.le_of_ble_eq_true rfl, (Nat.le_of_ble_eq_true rfl), (Nat.le_of_ble_eq_true rfl)⟩ (by decide) (by omega) dX6_secondsOf_25 ?_
    generalize ex1 : (if 0 < e9 * 5 then e9 * 5 else 0) = x1
    have rx1 := ex1
    refine z_istore (lv' := [(4, vI x1), (3, vI (e9 * 5)), (2, vI 0), (0, vR (g 3)), (1, vR (aE ρ e9))]) F dX6_secondsOf_28 (by decide) rfl ?_
    have L30 : ∀ (fuel : Nat) (s9 : Int) (c9 : Int), (s9 = sumI (ρ 15) (5 * e9) (c9 - 5 * e9).toNat) → (5 * e9 ≤ c9 ∧ c9 ≤ 5 * e9 + 5) → 5 * e9 + 5 - c9 < (fuel : Int) → Z p l e ({ frames := 2, cells := 0, slots := 0, locals := 80 }) s m args below meth c 5 G N0 (cA h s.heap.size) Q h 0 0 30 [(4, vI c9), (3, vI (e9 * 5)), (2, vI s9), (0, vR (g 3)), (1, vR (aE ρ e9))] [] := by
      intro fuel
      induction fuel with
      | zero => intro s9 c9  hs hc hm; exact absurd hm (by omega)
      | succ fuel ih30 =>
        intro s9 c9  hs hc hm
        refine z_iload F dX6_secondsOf_30 0 rfl ?_
        refine z_iload_n F dX6_secondsOf_32 rfl 1 rfl ?_
        refine z_iconst F dX6_secondsOf_33 ?_
        refine z_iadd F dX6_secondsOf_34 ?_
        refine z_icmp_ge (tgt := 64) F dX6_secondsOf_35 (by decide) (by omega) (by omega) (fun c35 => ?_) (fun c35 => ?_)
        · refine z_iload_n F dX6_secondsOf_64 rfl 2 rfl ?_
          rw [hQ]
          exact z_iret (nf_i _) F hr (Nat.le_of_ble_eq_true rfl) (Nat.le_of_ble_eq_true rfl) dX6_secondsOf_65 (⟨rI (by unfold sOf; first | rw [if_pos (by omega)] | rw [if_neg (by omega), hs, show (c9 - 5 * e9).toNat = 5 by omega]), rfl⟩)
        · refine z_iload F dX6_secondsOf_38 0 rfl ?_
          refine z_aload_n F dX6_secondsOf_40 rfl 3 rfl ?_
          refine z_get (v := vR (g 5)) F (ci_3 hI) fX6_9 rfl dX6_secondsOf_41 ?_
          refine z_alen F (ci_5 hI) (by decide) dX6_secondsOf_44 ?_
          refine z_icmp_ge (tgt := 64) F dX6_secondsOf_45 (by decide) (by omega) (by decide) (fun c45 => ?_) (fun c45 => ?_)
          · exfalso; omega
          · refine z_iload_n F dX6_secondsOf_48 rfl 2 rfl ?_
            refine z_aload_n F dX6_secondsOf_49 rfl 3 rfl ?_
            refine z_get (v := vR (g 5)) F (ci_3 hI) fX6_9 rfl dX6_secondsOf_50 ?_
            refine z_iload F dX6_secondsOf_53 0 rfl ?_
            refine z_iaload (N := 120) (f := fun j => ρ 15 j) F (ci_5 hI) (by omega) (by omega) (by omega) dX6_secondsOf_55 ?_
            refine z_iadd F dX6_secondsOf_56 ?_
            refine z_istore_n (lv' := [(2, vI (s9 + (ρ 15 c9))), (4, vI c9), (3, vI (e9 * 5)), (0, vR (g 3)), (1, vR (aE ρ e9))]) F dX6_secondsOf_57 rfl (by decide) rfl ?_
            refine z_iinc (lv' := [(4, vI (c9 + 1)), (2, vI (s9 + (ρ 15 c9))), (3, vI (e9 * 5)), (0, vR (g 3)), (1, vR (aE ρ e9))]) F dX6_secondsOf_58 1 rfl (by decide) rfl ?_
            refine z_goto (tgt := 30) F dX6_secondsOf_61 (by decide) ?_
            refine z_pick (lv' := [(4, vI (c9 + 1)), (3, vI (e9 * 5)), (2, vI (s9 + (ρ 15 c9))), (0, vR (g 3)), (1, vR (aE ρ e9))]) [0, 2, 1, 3, 4] rfl ?_
            exact ih30 (s9 + (ρ 15 c9)) (c9 + 1)  (by rw [show (c9 + 1 - 5 * e9).toNat = (c9 - 5 * e9).toNat + 1 by omega, sumI, ← hs, show 5 * e9 + ((c9 - 5 * e9).toNat : Int) = c9 by omega]) (by omega) (by omega)
    exact L30 ((5 * e9 + 5 - x1 : Int).toNat + 1) 0 x1  (by rw [show (x1 - 5 * e9).toNat = 0 by omega]; rfl) (by omega) (by omega)
  · refine z_aload_n F dX6_secondsOf_9 rfl 1 rfl ?_
    refine z_get (v := vI (ρ 13 e9)) F (ci_e hI (show 0 ≤ e9 ∧ e9 < ρ 8 0 ∧ e9 < 100 from by omega)) fX6_90 rfl dX6_secondsOf_10 ?_
    rw [hQ]
    exact z_iret (nf_i _) F hr (Nat.le_of_ble_eq_true rfl) (Nat.le_of_ble_eq_true rfl) dX6_secondsOf_13 (⟨rI (by unfold sOf; first | rw [if_pos (by omega)] | rw [if_neg (by omega), hs, show (c9 - 5 * e9).toNat = 5 by omega]), rfl⟩)
set_option maxRecDepth 100000 in
set_option maxHeartbeats 4000000 in
theorem mX6_openSecondsInDay1 (l : Launch) (G : GG) (N0 : Nat) (h : Hp) (g : Int → Nat) (ρ : Sg) (c9 d9 : Int) (hI : CI G g ρ h) (hV : MC ρ) (hc : 0 ≤ c9 ∧ c9 < ρ 2 0) (hd : 0 ≤ d9 ∧ d9 < 5) : Ct l G N0 yX6_openSecondsInDay (Cond.code yX6_openSecondsInDay cX6_openSecondsInDay 6 (some FieldType.int) :: LW) ({ frames := 3, cells := 0, slots := 0, locals := 140 }) [vR (g 3), vR (aC ρ c9), vI d9] h (fun r h' => r = some (vI (dyO (ρ 9) (ρ 12) (ρ 15) c9 d9 1 (ρ 8 0).toNat)) ∧ h' = h) := by
  refine ct_of rfl rfl ?_
  intro p e s m args below meth c F hr hnm
  have F : Fx p s m args meth c RX6 cX6_openSecondsInDay 6 G N0 (cA h s.heap.size) := F
  obtain ⟨v0, v1, v2, v8, v16, v24, v39, vC, vE, vJ, vK, vB, vO⟩ := id hV
  obtain ⟨Q, hQ⟩ : ∃ z, z = MQ below (cQc G N0 h s.heap.size (fun r h' => r = some (vI (dyO (ρ 9) (ρ 12) (ρ 15) c9 d9 1 (ρ 8 0).toNat)) ∧ h' = h)) args s 0 0 (cA h s.heap.size) := ⟨_, rfl⟩
  rw [← hQ]
  show Z _ _ _ _ _ _ _ _ _ _ _ _ _ _ _ _ _ _ _ [(0, vR (g 3)), (1, vR (aC ρ c9)), (2, vI d9)] []
  refine z_iconst F dX6_openSecondsInDay_0 ?_
  refine z_istore_n (lv' := [(3, vI 0), (0, vR (g 3)), (1, vR (aC ρ c9)), (2, vI d9)]) F dX6_openSecondsInDay_1 rfl (by decide) rfl ?_
  refine z_iconst F dX6_openSecondsInDay_2 ?_
  refine z_istore (lv' := [(4, vI 0), (3, vI 0), (0, vR (g 3)), (1, vR (aC ρ c9)), (2, vI d9)]) F dX6_openSecondsInDay_3 (by decide) rfl ?_
  have L5 : ∀ (fuel : Nat) (s9 : Int) (i9 : Int), (0 ≤ i9 ∧ i9 ≤ ρ 8 0) → (s9 = dyO (ρ 9) (ρ 12) (ρ 15) c9 d9 1 i9.toNat) → ρ 8 0 - i9 < (fuel : Int) → Z p l e ({ frames := 3, cells := 0, slots := 0, locals := 140 }) s m args below meth c 6 G N0 (cA h s.heap.size) Q h 0 0 5 [(4, vI i9), (3, vI s9), (0, vR (g 3)), (1, vR (aC ρ c9)), (2, vI d9)] [] := by
    intro fuel
    induction fuel with
    | zero => intro s9 i9  ha hs hm; exact absurd hm (by omega)
    | succ fuel ih5 =>
      intro s9 i9  ha hs hm
      have E_i9 := fun q9 => vE i9 (by omega) q9
      refine z_iload F dX6_openSecondsInDay_5 0 rfl ?_
      refine z_aload_n F dX6_openSecondsInDay_7 rfl 2 rfl ?_
      refine z_get (v := vR (g 1)) F (ci_3 hI) fX6_15 rfl dX6_openSecondsInDay_8 ?_
      refine z_get (v := vR (g 15)) F (ci_1 hI) fX6_44 rfl dX6_openSecondsInDay_11 ?_
      refine z_callV (As := []) (st := [vI i9]) F (mJx4a65c_size_8abf5 l G N0 h (g 15) ((ρ 40 3).toNat) 0 (ρ 32 3) (ρ 8 0) (fun _ => none) (ci_15 hI)) cvX6_48 (ci_15 hI) (fun r9 h9 => by cases h9; rfl) rfl rfl ⟨Nat.le_of_ble_eq_true rfl, Nat.le_of_ble_eq_true rfl⟩ rfl ⟨Nat.le_of_ble_eq_true rfl, Nat.le_of_ble_eq_true rfl⟩ dX6_openSecondsInDay_14 ?_
      rintro _ h9 ⟨rfl, hh9⟩
      rw [hh9]
      clear hh9 h9
      show Z _ _ _ _ _ _ _ _ _ _ _ _ _ _ _ _ _ _ _ _ [vI (ρ 8 0), vI i9]
      refine z_icmp_ge (tgt := 70) F dX6_openSecondsInDay_17 (by decide) (by omega) (by omega) (fun c17 => ?_) (fun c17 => ?_)
      · refine z_iload_n F dX6_openSecondsInDay_70 rfl 1 rfl ?_
        rw [hQ]
        exact z_iret (nf_i _) F hr (Nat.le_of_ble_eq_true rfl) (Nat.le_of_ble_eq_true rfl) dX6_openSecondsInDay_71 (⟨rI (by rw [hs, show i9 = ρ 8 0 by omega]), rfl⟩)
      · refine z_aload_n F dX6_openSecondsInDay_20 rfl 2 rfl ?_
        refine z_get (v := vR (g 1)) F (ci_3 hI) fX6_15 rfl dX6_openSecondsInDay_21 ?_
        refine z_get (v := vR (g 15)) F (ci_1 hI) fX6_44 rfl dX6_openSecondsInDay_24 ?_
        refine z_iload F dX6_openSecondsInDay_27 0 rfl ?_
        refine z_callV (As := [vI i9]) (st := []) F (cGet3 l G N0 h g ρ i9 hI (show 0 ≤ i9 ∧ i9 < ρ 8 0 from by omega)) cvX6_58 (ci_15 hI) (fun r9 h9 => by cases h9; rfl) rfl rfl ⟨Nat.le_of_ble_eq_true rfl, Nat.le_of_ble_eq_true rfl⟩ rfl ⟨Nat.le_of_ble_eq_true rfl, Nat.le_of_ble_eq_true rfl⟩ dX6_openSecondsInDay_29 ?_
        rintro _ h9 ⟨rfl, hh9⟩
        rw [hh9]
        clear hh9 h9
        show Z _ _ _ _ _ _ _ _ _ _ _ _ _ _ _ _ _ _ _ _ [vR (aE ρ i9)]
        refine z_cast F (ci_e hI (show 0 ≤ i9 ∧ i9 < ρ 8 0 ∧ i9 < 100 from by omega)) q645 (fun r9 h9 => by cases h9; rfl) dX6_openSecondsInDay_32 ?_
        refine z_astore (lv' := [(5, vR (aE ρ i9)), (4, vI i9), (3, vI s9), (0, vR (g 3)), (1, vR (aC ρ c9)), (2, vI d9)]) F dX6_openSecondsInDay_35 (by decide) rfl ?_
        refine z_aload F dX6_openSecondsInDay_37 0 rfl ?_
        refine z_get (v := vR (aC ρ (ρ 9 i9))) F (ci_e hI (show 0 ≤ i9 ∧ i9 < ρ 8 0 ∧ i9 < 100 from by omega)) fX6_97 rfl dX6_openSecondsInDay_39 ?_
        refine z_aload_n F dX6_openSecondsInDay_42 rfl 4 rfl ?_
        refine z_acmp_ne (rx := some (aC ρ (ρ 9 i9))) (ry := some (aC ρ c9)) (tgt := 64) F dX6_openSecondsInDay_43 (by decide) (fun c43 => ?_) (fun c43 => ?_)
        · have d43 : ρ 9 i9 ≠ c9 := fun z => c43 (by rw [z])
          refine z_iinc (lv' := [(4, vI (i9 + 1)), (5, vR (aE ρ i9)), (3, vI s9), (0, vR (g 3)), (1, vR (aC ρ c9)), (2, vI d9)]) F dX6_openSecondsInDay_64 1 rfl (by decide) rfl ?_
          refine z_goto (tgt := 5) F dX6_openSecondsInDay_67 (by decide) ?_
          refine z_pick (lv' := [(4, vI (i9 + 1)), (3, vI s9), (0, vR (g 3)), (1, vR (aC ρ c9)), (2, vI d9)]) [0, 2, 3, 4, 5] rfl ?_
          exact ih5 s9 (i9 + 1)  (by omega) (by rw [dyO_s _ _ _ _ _ _ ha.1]; unfold blI; omega) (by omega)
        · have d43 : ρ 9 i9 = c9 := (ci_cc hI (show 0 ≤ ρ 9 i9 ∧ ρ 9 i9 < ρ 2 0 ∧ ρ 9 i9 < 100 from by omega) (show 0 ≤ c9 ∧ c9 < ρ 2 0 ∧ c9 < 100 from by omega)).mp (Option.some.inj c43)
          refine z_aload F dX6_openSecondsInDay_46 0 rfl ?_
          refine z_callV (As := []) (st := []) F (mX2_isOpen l G N0 h (aE ρ i9) i9 (aC ρ (ρ 9 i9)) (ρ 10 i9) (ρ 11 i9) (ρ 12 i9) (ρ 13 i9) (ci_e hI (show 0 ≤ i9 ∧ i9 < ρ 8 0 ∧ i9 < 100 from by omega)) (by omega)) cvX6_101 (ci_e hI (show 0 ≤ i9 ∧ i9 < ρ 8 0 ∧ i9 < 100 from by omega)) (fun r9 h9 => by cases h9; rfl) rfl rfl ⟨Nat.le_of_ble_eq_true rfl, Nat.le_of_ble_eq_true rfl⟩ rfl ⟨Nat.le_of_ble_eq_true rfl, Nat.le_of_ble_eq_true rfl⟩ dX6_openSecondsInDay_48 ?_
          rintro _ h9 ⟨rfl, hh9⟩
          rw [hh9]
          clear hh9 h9
          generalize ex1 : (if ρ 12 i9 = 114 ∨ ρ 12 i9 = 101 then (1 : Int) else 0) = x1
          show Z _ _ _ _ _ _ _ _ _ _ _ _ _ _ _ _ _ _ _ _ [vI x1]
          refine z_if_eq (tgt := 64) F dX6_openSecondsInDay_51 (by decide) (by omega) (fun c51 => ?_) (fun c51 => ?_)
          · refine z_iinc (lv' := [(4, vI (i9 + 1)), (5, vR (aE ρ i9)), (3, vI s9), (0, vR (g 3)), (1, vR (aC ρ c9)), (2, vI d9)]) F dX6_openSecondsInDay_64 1 rfl (by decide) rfl ?_
            refine z_goto (tgt := 5) F dX6_openSecondsInDay_67 (by decide) ?_
            refine z_pick (lv' := [(4, vI (i9 + 1)), (3, vI s9), (0, vR (g 3)), (1, vR (aC ρ c9)), (2, vI d9)]) [0, 2, 3, 4, 5] rfl ?_
            exact ih5 s9 (i9 + 1)  (by omega) (by rw [dyO_s _ _ _ _ _ _ ha.1]; unfold blI; omega) (by omega)
          · refine z_iload_n F dX6_openSecondsInDay_54 rfl 2 rfl ?_
            refine z_aload_n F dX6_openSecondsInDay_55 rfl 3 rfl ?_
            refine z_aload F dX6_openSecondsInDay_56 0 rfl ?_
            refine z_iload_n F dX6_openSecondsInDay_58 rfl 5 rfl ?_
            refine z_callV (As := [vR (aE ρ i9), vI d9]) (st := [vI s9]) F (mX6_secondsInDay1 l G N0 h g ρ i9 d9 hI (show 0 ≤ i9 ∧ i9 < ρ 8 0 from by omega) (by omega) (show ρ 8 0 ≤ 24 from by omega)) cvX6_105 (ci_3 hI) (fun r9 h9 => by cases h9; rfl) rfl rfl ⟨Nat.le_of_ble_eq_true rfl, Nat.le_of_ble_eq_true rfl⟩ rfl ⟨Nat.le_of_ble_eq_true rfl, Nat.le_of_ble_eq_true rfl⟩ dX6_openSecondsInDay_59 ?_
            rintro _ h9 ⟨rfl, hh9⟩
            rw [hh9]
            clear hh9 h9
            show Z _ _ _ _ _ _ _ _ _ _ _ _ _ _ _ _ _ _ _ _ [vI (ρ 15 (5 * i9 + d9)), vI s9]
            refine z_iadd F dX6_openSecondsInDay_62 ?_
            refine z_istore_n (lv' := [(3, vI (s9 + (ρ 15 (5 * i9 + d9)))), (5, vR (aE ρ i9)), (4, vI i9), (0, vR (g 3)), (1, vR (aC ρ c9)), (2, vI d9)]) F dX6_openSecondsInDay_63 rfl (by decide) rfl ?_
            refine z_iinc (lv' := [(4, vI (i9 + 1)), (3, vI (s9 + (ρ 15 (5 * i9 + d9)))), (5, vR (aE ρ i9)), (0, vR (g 3)), (1, vR (aC ρ c9)), (2, vI d9)]) F dX6_openSecondsInDay_64 2 rfl (by decide) rfl ?_
            refine z_goto (tgt := 5) F dX6_openSecondsInDay_67 (by decide) ?_
            refine z_pick (lv' := [(4, vI (i9 + 1)), (3, vI (s9 + (ρ 15 (5 * i9 + d9)))), (0, vR (g 3)), (1, vR (aC ρ c9)), (2, vI d9)]) [0, 1, 3, 4, 5] rfl ?_
            exact ih5 (s9 + (ρ 15 (5 * i9 + d9))) (i9 + 1)  (by omega) (by rw [dyO_s _ _ _ _ _ _ ha.1]; unfold blI; omega) (by omega)
  exact L5 ((ρ 8 0 - 0 : Int).toNat + 1) 0 0  (by omega) (rfl) (by omega)
set_option maxRecDepth 100000 in
set_option maxHeartbeats 4000000 in
theorem mX6_secondsOfAll (l : Launch) (G : GG) (N0 : Nat) (h : Hp) (g : Int → Nat) (ρ : Sg) (hI : CI G g ρ h) (hV : MC ρ) : Ct l G N0 yX6_secondsOfAll (Cond.code yX6_secondsOfAll cX6_secondsOfAll 3 (some FieldType.int) :: LW) ({ frames := 3, cells := 0, slots := 0, locals := 140 }) [vR (g 2)] h (fun r h' => r = some (vI (scS (sOf ρ 14) (ρ 8 0).toNat)) ∧ h' = h) := by
  refine ct_of rfl rfl ?_
  intro p e s m args below meth c F hr hnm
  have F : Fx p s m args meth c RX6 cX6_secondsOfAll 3 G N0 (cA h s.heap.size) := F
  obtain ⟨v0, v1, v2, v8, v16, v24, v39, vC, vE, vJ, vK, vB, vO⟩ := id hV
  obtain ⟨Q, hQ⟩ : ∃ z, z = MQ below (cQc G N0 h s.heap.size (fun r h' => r = some (vI (scS (sOf ρ 14) (ρ 8 0).toNat)) ∧ h' = h)) args s 0 0 (cA h s.heap.size) := ⟨_, rfl⟩
  rw [← hQ]
  show Z _ _ _ _ _ _ _ _ _ _ _ _ _ _ _ _ _ _ _ [(0, vR (g 2))] []
  refine z_iconst F dX6_secondsOfAll_0 ?_
  refine z_istore_n (lv' := [(1, vI 0), (0, vR (g 2))]) F dX6_secondsOfAll_1 rfl (by decide) rfl ?_
  refine z_iconst F dX6_secondsOfAll_2 ?_
  refine z_istore_n (lv' := [(2, vI 0), (1, vI 0), (0, vR (g 2))]) F dX6_secondsOfAll_3 rfl (by decide) rfl ?_
  have L4 : ∀ (fuel : Nat) (s9 : Int) (i9 : Int), (0 ≤ i9 ∧ i9 ≤ ρ 8 0) → (s9 = scS (sOf ρ 14) i9.toNat) → ρ 8 0 - i9 < (fuel : Int) → Z p l e ({ frames := 3, cells := 0, slots := 0, locals := 140 }) s m args below meth c 3 G N0 (cA h s.heap.size) Q h 0 0 4 [(2, vI i9), (1, vI s9), (0, vR (g 2))] [] := by
    intro fuel
    induction fuel with
    | zero => intro s9 i9  ha hs hm; exact absurd hm (by omega)
    | succ fuel ih4 =>
      intro s9 i9  ha hs hm
      have E_i9 := fun q9 => vE i9 (by omega) q9
      refine z_iload_n F dX6_secondsOfAll_4 rfl 0 rfl ?_
      refine z_aload_n F dX6_secondsOfAll_5 rfl 2 rfl ?_
      refine z_get (v := vR (g 1)) F (ci_2 hI) fX6_15 rfl dX6_secondsOfAll_6 ?_
      refine z_get (v := vR (g 15)) F (ci_1 hI) fX6_44 rfl dX6_secondsOfAll_9 ?_
      refine z_callV (As := []) (st := [vI i9]) F (mJx4a65c_size_8abf5 l G N0 h (g 15) ((ρ 40 3).toNat) 0 (ρ 32 3) (ρ 8 0) (fun _ => none) (ci_15 hI)) cvX6_48 (ci_15 hI) (fun r9 h9 => by cases h9; rfl) rfl rfl ⟨Nat.le_of_ble_eq_true rfl, Nat.le_of_ble_eq_true rfl⟩ rfl ⟨Nat.le_of_ble_eq_true rfl, Nat.le_of_ble_eq_true rfl⟩ dX6_secondsOfAll_12 ?_
      rintro _ h9 ⟨rfl, hh9⟩
      rw [hh9]
      clear hh9 h9
      show Z _ _ _ _ _ _ _ _ _ _ _ _ _ _ _ _ _ _ _ _ [vI (ρ 8 0), vI i9]
      refine z_icmp_ge (tgt := 45) F dX6_secondsOfAll_15 (by decide) (by omega) (by omega) (fun c15 => ?_) (fun c15 => ?_)
      · refine z_iload_n F dX6_secondsOfAll_45 rfl 1 rfl ?_
        rw [hQ]
        exact z_iret (nf_i _) F hr (Nat.le_of_ble_eq_true rfl) (Nat.le_of_ble_eq_true rfl) dX6_secondsOfAll_46 (⟨rI (by rw [hs, show i9 = ρ 8 0 by omega]), rfl⟩)
      · refine z_iload_n F dX6_secondsOfAll_18 rfl 1 rfl ?_
        refine z_aload_n F dX6_secondsOfAll_19 rfl 2 rfl ?_
        refine z_aload_n F dX6_secondsOfAll_20 rfl 2 rfl ?_
        refine z_get (v := vR (g 1)) F (ci_2 hI) fX6_15 rfl dX6_secondsOfAll_21 ?_
        refine z_get (v := vR (g 15)) F (ci_1 hI) fX6_44 rfl dX6_secondsOfAll_24 ?_
        refine z_iload_n F dX6_secondsOfAll_27 rfl 0 rfl ?_
        refine z_callV (As := [vI i9]) (st := [vR (g 2), vI s9]) F (cGet3 l G N0 h g ρ i9 hI (show 0 ≤ i9 ∧ i9 < ρ 8 0 from by omega)) cvX6_58 (ci_15 hI) (fun r9 h9 => by cases h9; rfl) rfl rfl ⟨Nat.le_of_ble_eq_true rfl, Nat.le_of_ble_eq_true rfl⟩ rfl ⟨Nat.le_of_ble_eq_true rfl, Nat.le_of_ble_eq_true rfl⟩ dX6_secondsOfAll_28 ?_
        rintro _ h9 ⟨rfl, hh9⟩
        rw [hh9]
        clear hh9 h9
        show Z _ _ _ _ _ _ _ _ _ _ _ _ _ _ _ _ _ _ _ _ [vR (aE ρ i9), vR (g 2), vI s9]
        refine z_cast F (ci_e hI (show 0 ≤ i9 ∧ i9 < ρ 8 0 ∧ i9 < 100 from by omega)) q645 (fun r9 h9 => by cases h9; rfl) dX6_secondsOfAll_31 ?_
        refine z_callV (As := [vR (aE ρ i9)]) (st := [vI s9]) F (mX6_secondsOf0 l G N0 h g ρ i9 hI (show 0 ≤ i9 ∧ i9 < ρ 8 0 from by omega) (show ρ 8 0 ≤ 24 from by omega) (show 0 ≤ ρ 12 i9 ∧ ρ 12 i9 ≤ 200 from by omega)) cvX6_93 (ci_2 hI) (fun r9 h9 => by cases h9; rfl) rfl rfl ⟨Nat.le_of_ble_eq_true rfl, Nat.le_of_ble_eq_true rfl⟩ rfl ⟨Nat.le_of_ble_eq_true rfl, Nat.le_of_ble_eq_true rfl⟩ dX6_secondsOfAll_34 ?_
        rintro _ h9 ⟨rfl, hh9⟩
        rw [hh9]
        clear hh9 h9
        show Z _ _ _ _ _ _ _ _ _ _ _ _ _ _ _ _ _ _ _ _ [vI (sOf ρ 14 i9), vI s9]
        refine z_iadd F dX6_secondsOfAll_37 ?_
        refine z_istore_n (lv' := [(1, vI (s9 + (sOf ρ 14 i9))), (2, vI i9), (0, vR (g 2))]) F dX6_secondsOfAll_38 rfl (by decide) rfl ?_
        refine z_iinc (lv' := [(2, vI (i9 + 1)), (1, vI (s9 + (sOf ρ 14 i9))), (0, vR (g 2))]) F dX6_secondsOfAll_39 1 rfl (by decide) rfl ?_
        refine z_goto (tgt := 4) F dX6_secondsOfAll_42 (by decide) ?_
        exact ih4 (s9 + (sOf ρ 14 i9)) (i9 + 1)  (by omega) (by rw [scS_s _ ha.1]; omega) (by omega)
  exact L4 ((ρ 8 0 - 0 : Int).toNat + 1) 0 0  (by omega) (rfl) (by omega)
set_option maxRecDepth 100000 in
set_option maxHeartbeats 4000000 in
theorem mX6_agreesWith (l : Launch) (G : GG) (N0 : Nat) (h : Hp) (g : Int → Nat) (ρ : Sg) (hI : CI G g ρ h) (heq : ∀ j, 0 ≤ j → j < 120 → ρ 14 j = ρ 15 j ∧ -2147483648 ≤ ρ 14 j ∧ ρ 14 j < 2147483648) : Ct l G N0 yX6_agreesWith (Cond.code yX6_agreesWith cX6_agreesWith 3 (some FieldType.boolean) :: LW) ({ frames := 0, cells := 0, slots := 0, locals := 0 }) [vR (g 2), vR (g 3)] h (fun r h' => r = some (vI 1) ∧ h' = h) := by
  refine ct_of rfl rfl ?_
  intro p e s m args below meth c F hr hnm
  have F : Fx p s m args meth c RX6 cX6_agreesWith 3 G N0 (cA h s.heap.size) := F
  obtain ⟨Q, hQ⟩ : ∃ z, z = MQ below (cQc G N0 h s.heap.size (fun r h' => r = some (vI 1) ∧ h' = h)) args s 0 0 (cA h s.heap.size) := ⟨_, rfl⟩
  rw [← hQ]
  show Z _ _ _ _ _ _ _ _ _ _ _ _ _ _ _ _ _ _ _ [(0, vR (g 2)), (1, vR (g 3))] []
  refine z_iconst F dX6_agreesWith_0 ?_
  refine z_istore_n (lv' := [(2, vI 0), (0, vR (g 2)), (1, vR (g 3))]) F dX6_agreesWith_1 rfl (by decide) rfl ?_
  have L2 : ∀ (fuel : Nat) (j9 : Int), (0 ≤ j9 ∧ j9 ≤ 120) → 120 - j9 < (fuel : Int) → Z p l e ({ frames := 0, cells := 0, slots := 0, locals := 0 }) s m args below meth c 3 G N0 (cA h s.heap.size) Q h 0 0 2 [(2, vI j9), (0, vR (g 2)), (1, vR (g 3))] [] := by
    intro fuel
    induction fuel with
    | zero => intro j9  ha hm; exact absurd hm (by omega)
    | succ fuel ih2 =>
      intro j9  ha hm
      have hq := fun q => heq j9 ha.1 q
      refine z_iload_n F dX6_agreesWith_2 rfl 0 rfl ?_
      refine z_aload_n F dX6_agreesWith_3 rfl 1 rfl ?_
      refine z_get (v := vR (g 4)) F (ci_2 hI) fX6_9 rfl dX6_agreesWith_4 ?_
      refine z_alen F (ci_4 hI) (by decide) dX6_agreesWith_7 ?_
      refine z_icmp_ge (tgt := 43) F dX6_agreesWith_8 (by decide) (by omega) (by decide) (fun c8 => ?_) (fun c8 => ?_)
      · refine z_iconst F dX6_agreesWith_43 ?_
        rw [hQ]
        exact z_iret (nf_z (by omega)) F hr (Nat.le_of_ble_eq_true rfl) (Nat.le_of_ble_eq_true rfl) dX6_agreesWith_44 (⟨rfl, rfl⟩)
      · refine z_iload_n F dX6_agreesWith_11 rfl 0 rfl ?_
        refine z_aload_n F dX6_agreesWith_12 rfl 2 rfl ?_
        refine z_get (v := vR (g 5)) F (ci_3 hI) fX6_9 rfl dX6_agreesWith_13 ?_
        refine z_alen F (ci_5 hI) (by decide) dX6_agreesWith_16 ?_
        refine z_icmp_ge (tgt := 43) F dX6_agreesWith_17 (by decide) (by omega) (by decide) (fun c17 => ?_) (fun c17 => ?_)
        · refine z_iconst F dX6_agreesWith_43 ?_
          rw [hQ]
          exact z_iret (nf_z (by omega)) F hr (Nat.le_of_ble_eq_true rfl) (Nat.le_of_ble_eq_true rfl) dX6_agreesWith_44 (⟨rfl, rfl⟩)
        · refine z_aload_n F dX6_agreesWith_20 rfl 1 rfl ?_
          refine z_get (v := vR (g 4)) F (ci_2 hI) fX6_9 rfl dX6_agreesWith_21 ?_
          refine z_iload_n F dX6_agreesWith_24 rfl 0 rfl ?_
          refine z_iaload (N := 120) (f := fun j => ρ 14 j) F (ci_4 hI) (by omega) (by omega) (by omega) dX6_agreesWith_25 ?_
          refine z_aload_n F dX6_agreesWith_26 rfl 2 rfl ?_
          refine z_get (v := vR (g 5)) F (ci_3 hI) fX6_9 rfl dX6_agreesWith_27 ?_
          refine z_iload_n F dX6_agreesWith_30 rfl 0 rfl ?_
          refine z_iaload (N := 120) (f := fun j => ρ 15 j) F (ci_5 hI) (by omega) (by omega) (by omega) dX6_agreesWith_31 ?_
          refine z_icmp_eq (tgt := 37) F dX6_agreesWith_32 (by decide) (by omega) (by omega) (fun c32 => ?_) (fun c32 => ?_)
          · refine z_iinc (lv' := [(2, vI (j9 + 1)), (0, vR (g 2)), (1, vR (g 3))]) F dX6_agreesWith_37 0 rfl (by decide) rfl ?_
            refine z_goto (tgt := 2) F dX6_agreesWith_40 (by decide) ?_
            exact ih2 (j9 + 1)  (by omega) (by omega)
          · exfalso; omega
  exact L2 ((120 - 0 : Int).toNat + 1) 0  (by omega) (by omega)
