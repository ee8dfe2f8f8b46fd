def szI (v : Int) : Int := if v < 10 then 1 else if v < 100 then 2 else if v < 1000 then 3 else if v < 10000 then 4 else if v < 100000 then 5 else 6
theorem decL_sz (v : Int) : ((decL v).length : Int) = szI v := by
  unfold decL szI
  repeat' split
  all_goals rfl
set_option maxRecDepth 100000 in
set_option maxHeartbeats 4000000 in
theorem mJ6_stringSize_0f7a4 (l : Launch) (G : GG) (N0 : Nat) (h : Hp) (v9 : Int) (hv : 0 ≤ v9 ∧ v9 < 1000000) : Ct l G N0 yJ6_stringSize_0f7a4 (Cond.code yJ6_stringSize_0f7a4 cJ6_stringSize_0f7a4 4 (some FieldType.int) :: LW) ({ frames := 0, cells := 0, slots := 0, locals := 0 }) [vI v9] h (fun r h' => r = some (vI (szI v9)) ∧ h' = h) := by
  refine ct_of rfl rfl ?_
  intro p e s m args below meth c F hr hnm
  have F : Fx p s m args meth c RJ6 cJ6_stringSize_0f7a4 4 G N0 (cA h s.heap.size) := F
  show Z _ _ _ _ _ _ _ _ _ _ _ _ _ _ _ _ _ _ _ [(0, vI v9)] []
  refine z_iconst F dJ6_stringSize_0f7a4_0 ?_
  refine z_istore_n (lv' := [(1, vI 1), (0, vI v9)]) F dJ6_stringSize_0f7a4_1 rfl (by decide) rfl ?_
  refine z_iload_n F dJ6_stringSize_0f7a4_2 rfl 1 rfl ?_
  refine z_if_lt (tgt := 11) F dJ6_stringSize_0f7a4_3 (by decide) (by omega) (fun c3 => ?_) (fun c3 => ?_)
  · exfalso; omega
  · refine z_iconst F dJ6_stringSize_0f7a4_6 ?_
    refine z_istore_n (lv' := [(1, vI 0), (0, vI v9)]) F dJ6_stringSize_0f7a4_7 rfl (by decide) rfl ?_
    refine z_iload_n F dJ6_stringSize_0f7a4_8 rfl 1 rfl ?_
    refine z_ineg F dJ6_stringSize_0f7a4_9 ?_
    refine z_istore_n (lv' := [(0, vI (-v9)), (1, vI 0)]) F dJ6_stringSize_0f7a4_10 rfl (by decide) rfl ?_
    refine z_bipush F dJ6_stringSize_0f7a4_11 (by decide) ?_
    refine z_istore_n (lv' := [(2, vI (-10)), (0, vI (-v9)), (1, vI 0)]) F dJ6_stringSize_0f7a4_13 rfl (by decide) rfl ?_
    refine z_iconst F dJ6_stringSize_0f7a4_14 ?_
    refine z_istore_n (lv' := [(3, vI 1), (2, vI (-10)), (0, vI (-v9)), (1, vI 0)]) F dJ6_stringSize_0f7a4_15 rfl (by decide) rfl ?_
    refine z_iload_n F dJ6_stringSize_0f7a4_16 rfl 0 rfl ?_
    refine z_bipush F dJ6_stringSize_0f7a4_17 (by decide) ?_
    refine z_icmp_ge (tgt := 42) F dJ6_stringSize_0f7a4_19 (by decide) (by decide) (by decide) (fun c19 => ?_) (fun c19 => ?_)
    · exact absurd c19 (by decide)
    · refine z_iload_n F dJ6_stringSize_0f7a4_22 rfl 2 rfl ?_
      refine z_iload_n F dJ6_stringSize_0f7a4_23 rfl 1 rfl ?_
      refine z_icmp_le (tgt := 31) F dJ6_stringSize_0f7a4_24 (by decide) (by omega) (by decide) (fun c24 => ?_) (fun c24 => ?_)
      · refine z_bipush F dJ6_stringSize_0f7a4_31 (by decide) ?_
        refine z_iload_n F dJ6_stringSize_0f7a4_33 rfl 1 rfl ?_
        refine z_imul F dJ6_stringSize_0f7a4_34 ?_
        show Z _ _ _ _ _ _ _ _ _ _ _ _ _ _ _ _ _ _ _ _ [vI (-100)]
        refine z_istore_n (lv' := [(2, vI (-100)), (3, vI 1), (0, vI (-v9)), (1, vI 0)]) F dJ6_stringSize_0f7a4_35 rfl (by decide) rfl ?_
        refine z_iinc (lv' := [(3, vI (1 + 1)), (2, vI (-100)), (0, vI (-v9)), (1, vI 0)]) F dJ6_stringSize_0f7a4_36 1 rfl (by decide) rfl ?_
        show Z _ _ _ _ _ _ _ _ _ _ _ _ _ _ _ _ _ _ _ [(3, vI 2), (2, vI (-100)), (0, vI (-v9)), (1, vI 0)] []
        refine z_goto (tgt := 16) F dJ6_stringSize_0f7a4_39 (by decide) ?_
        refine z_iload_n F dJ6_stringSize_0f7a4_16 rfl 0 rfl ?_
        refine z_bipush F dJ6_stringSize_0f7a4_17 (by decide) ?_
        refine z_icmp_ge (tgt := 42) F dJ6_stringSize_0f7a4_19 (by decide) (by decide) (by decide) (fun c19 => ?_) (fun c19 => ?_)
        · exact absurd c19 (by decide)
        · refine z_iload_n F dJ6_stringSize_0f7a4_22 rfl 2 rfl ?_
          refine z_iload_n F dJ6_stringSize_0f7a4_23 rfl 1 rfl ?_
          refine z_icmp_le (tgt := 31) F dJ6_stringSize_0f7a4_24 (by decide) (by omega) (by decide) (fun c24 => ?_) (fun c24 => ?_)
          · refine z_bipush F dJ6_stringSize_0f7a4_31 (by decide) ?_
            refine z_iload_n F dJ6_stringSize_0f7a4_33 rfl 1 rfl ?_
            refine z_imul F dJ6_stringSize_0f7a4_34 ?_
            show Z _ _ _ _ _ _ _ _ _ _ _ _ _ _ _ _ _ _ _ _ [vI (-1000)]
            refine z_istore_n (lv' := [(2, vI (-1000)), (3, vI 2), (0, vI (-v9)), (1, vI 0)]) F dJ6_stringSize_0f7a4_35 rfl (by decide) rfl ?_
            refine z_iinc (lv' := [(3, vI (2 + 1)), (2, vI (-1000)), (0, vI (-v9)), (1, vI 0)]) F dJ6_stringSize_0f7a4_36 1 rfl (by decide) rfl ?_
            show Z _ _ _ _ _ _ _ _ _ _ _ _ _ _ _ _ _ _ _ [(3, vI 3), (2, vI (-1000)), (0, vI (-v9)), (1, vI 0)] []
            refine z_goto (tgt := 16) F dJ6_stringSize_0f7a4_39 (by decide) ?_
            refine z_iload_n F dJ6_stringSize_0f7a4_16 rfl 0 rfl ?_
            refine z_bipush F dJ6_stringSize_0f7a4_17 (by decide) ?_
            refine z_icmp_ge (tgt := 42) F dJ6_stringSize_0f7a4_19 (by decide) (by decide) (by decide) (fun c19 => ?_) (fun c19 => ?_)
            · exact absurd c19 (by decide)
            · refine z_iload_n F dJ6_stringSize_0f7a4_22 rfl 2 rfl ?_
              refine z_iload_n F dJ6_stringSize_0f7a4_23 rfl 1 rfl ?_
              refine z_icmp_le (tgt := 31) F dJ6_stringSize_0f7a4_24 (by decide) (by omega) (by decide) (fun c24 => ?_) (fun c24 => ?_)
              · refine z_bipush F dJ6_stringSize_0f7a4_31 (by decide) ?_
                refine z_iload_n F dJ6_stringSize_0f7a4_33 rfl 1 rfl ?_
                refine z_imul F dJ6_stringSize_0f7a4_34 ?_
                show Z _ _ _ _ _ _ _ _ _ _ _ _ _ _ _ _ _ _ _ _ [vI (-10000)]
                refine z_istore_n (lv' := [(2, vI (-10000)), (3, vI 3), (0, vI (-v9)), (1, vI 0)]) F dJ6_stringSize_0f7a4_35 rfl (by decide) rfl ?_
                refine z_iinc (lv' := [(3, vI (3 + 1)), (2, vI (-10000)), (0, vI (-v9)), (1, vI 0)]) F dJ6_stringSize_0f7a4_36 1 rfl (by decide) rfl ?_
                show Z _ _ _ _ _ _ _ _ _ _ _ _ _ _ _ _ _ _ _ [(3, vI 4), (2, vI (-10000)), (0, vI (-v9)), (1, vI 0)] []
                refine z_goto (tgt := 16) F dJ6_stringSize_0f7a4_39 (by decide) ?_
                refine z_iload_n F dJ6_stringSize_0f7a4_16 rfl 0 rfl ?_
                refine z_bipush F dJ6_stringSize_0f7a4_17 (by decide) ?_
                refine z_icmp_ge (tgt := 42) F dJ6_stringSize_0f7a4_19 (by decide) (by decide) (by decide) (fun c19 => ?_) (fun c19 => ?_)
                · exact absurd c19 (by decide)
                · refine z_iload_n F dJ6_stringSize_0f7a4_22 rfl 2 rfl ?_
                  refine z_iload_n F dJ6_stringSize_0f7a4_23 rfl 1 rfl ?_
                  refine z_icmp_le (tgt := 31) F dJ6_stringSize_0f7a4_24 (by decide) (by omega) (by decide) (fun c24 => ?_) (fun c24 => ?_)
                  · refine z_bipush F dJ6_stringSize_0f7a4_31 (by decide) ?_
                    refine z_iload_n F dJ6_stringSize_0f7a4_33 rfl 1 rfl ?_
                    refine z_imul F dJ6_stringSize_0f7a4_34 ?_
                    show Z _ _ _ _ _ _ _ _ _ _ _ _ _ _ _ _ _ _ _ _ [vI (-100000)]
                    refine z_istore_n (lv' := [(2, vI (-100000)), (3, vI 4), (0, vI (-v9)), (1, vI 0)]) F dJ6_stringSize_0f7a4_35 rfl (by decide) rfl ?_
                    refine z_iinc (lv' := [(3, vI (4 + 1)), (2, vI (-100000)), (0, vI (-v9)), (1, vI 0)]) F dJ6_stringSize_0f7a4_36 1 rfl (by decide) rfl ?_
                    show Z _ _ _ _ _ _ _ _ _ _ _ _ _ _ _ _ _ _ _ [(3, vI 5), (2, vI (-100000)), (0, vI (-v9)), (1, vI 0)] []
                    refine z_goto (tgt := 16) F dJ6_stringSize_0f7a4_39 (by decide) ?_
                    refine z_iload_n F dJ6_stringSize_0f7a4_16 rfl 0 rfl ?_
                    refine z_bipush F dJ6_stringSize_0f7a4_17 (by decide) ?_
                    refine z_icmp_ge (tgt := 42) F dJ6_stringSize_0f7a4_19 (by decide) (by decide) (by decide) (fun c19 => ?_) (fun c19 => ?_)
                    · exact absurd c19 (by decide)
                    · refine z_iload_n F dJ6_stringSize_0f7a4_22 rfl 2 rfl ?_
                      refine z_iload_n F dJ6_stringSize_0f7a4_23 rfl 1 rfl ?_
                      refine z_icmp_le (tgt := 31) F dJ6_stringSize_0f7a4_24 (by decide) (by omega) (by decide) (fun c24 => ?_) (fun c24 => ?_)
                      · refine z_bipush F dJ6_stringSize_0f7a4_31 (by decide) ?_
                        refine z_iload_n F dJ6_stringSize_0f7a4_33 rfl 1 rfl ?_
                        refine z_imul F dJ6_stringSize_0f7a4_34 ?_
                        show Z _ _ _ _ _ _ _ _ _ _ _ _ _ _ _ _ _ _ _ _ [vI (-1000000)]
                        refine z_istore_n (lv' := [(2, vI (-1000000)), (3, vI 5), (0, vI (-v9)), (1, vI 0)]) F dJ6_stringSize_0f7a4_35 rfl (by decide) rfl ?_
                        refine z_iinc (lv' := [(3, vI (5 + 1)), (2, vI (-1000000)), (0, vI (-v9)), (1, vI 0)]) F dJ6_stringSize_0f7a4_36 1 rfl (by decide) rfl ?_
                        show Z _ _ _ _ _ _ _ _ _ _ _ _ _ _ _ _ _ _ _ [(3, vI 6), (2, vI (-1000000)), (0, vI (-v9)), (1, vI 0)] []
                        refine z_goto (tgt := 16) F dJ6_stringSize_0f7a4_39 (by decide) ?_
                        refine z_iload_n F dJ6_stringSize_0f7a4_16 rfl 0 rfl ?_
                        refine z_bipush F dJ6_stringSize_0f7a4_17 (by decide) ?_
                        refine z_icmp_ge (tgt := 42) F dJ6_stringSize_0f7a4_19 (by decide) (by decide) (by decide) (fun c19 => ?_) (fun c19 => ?_)
                        · exact absurd c19 (by decide)
                        · refine z_iload_n F dJ6_stringSize_0f7a4_22 rfl 2 rfl ?_
                          refine z_iload_n F dJ6_stringSize_0f7a4_23 rfl 1 rfl ?_
                          refine z_icmp_le (tgt := 31) F dJ6_stringSize_0f7a4_24 (by decide) (by omega) (by decide) (fun c24 => ?_) (fun c24 => ?_)
                          · refine z_bipush F dJ6_stringSize_0f7a4_31 (by decide) ?_
                            refine z_iload_n F dJ6_stringSize_0f7a4_33 rfl 1 rfl ?_
                            refine z_imul F dJ6_stringSize_0f7a4_34 ?_
                            show Z _ _ _ _ _ _ _ _ _ _ _ _ _ _ _ _ _ _ _ _ [vI (-10000000)]
                            refine z_istore_n (lv' := [(2, vI (-10000000)), (3, vI 6), (0, vI (-v9)), (1, vI 0)]) F dJ6_stringSize_0f7a4_35 rfl (by decide) rfl ?_
                            refine z_iinc (lv' := [(3, vI (6 + 1)), (2, vI (-10000000)), (0, vI (-v9)), (1, vI 0)]) F dJ6_stringSize_0f7a4_36 1 rfl (by decide) rfl ?_
                            show Z _ _ _ _ _ _ _ _ _ _ _ _ _ _ _ _ _ _ _ [(3, vI 7), (2, vI (-10000000)), (0, vI (-v9)), (1, vI 0)] []
                            refine z_goto (tgt := 16) F dJ6_stringSize_0f7a4_39 (by decide) ?_
                            refine z_iload_n F dJ6_stringSize_0f7a4_16 rfl 0 rfl ?_
                            refine z_bipush F dJ6_stringSize_0f7a4_17 (by decide) ?_
                            refine z_icmp_ge (tgt := 42) F dJ6_stringSize_0f7a4_19 (by decide) (by decide) (by decide) (fun c19 => ?_) (fun c19 => ?_)
                            · exact absurd c19 (by decide)
                            · exfalso; omega
                          · refine z_iload_n F dJ6_stringSize_0f7a4_27 rfl 0 rfl ?_
                            refine z_iload_n F dJ6_stringSize_0f7a4_28 rfl 3 rfl ?_
                            refine z_iadd F dJ6_stringSize_0f7a4_29 ?_
                            exact z_iret (nf_i _) F hr (Nat.le_of_ble_eq_true rfl) (Nat.le_of_ble_eq_true rfl) dJ6_stringSize_0f7a4_30 (⟨rI (by unfold szI; omega), rfl⟩)
                      · refine z_iload_n F dJ6_stringSize_0f7a4_27 rfl 0 rfl ?_
                        refine z_iload_n F dJ6_stringSize_0f7a4_28 rfl 3 rfl ?_
                        refine z_iadd F dJ6_stringSize_0f7a4_29 ?_
                        exact z_iret (nf_i _) F hr (Nat.le_of_ble_eq_true rfl) (Nat.le_of_ble_eq_true rfl) dJ6_stringSize_0f7a4_30 (⟨rI (by unfold szI; omega), rfl⟩)
                  · refine z_iload_n F dJ6_stringSize_0f7a4_27 rfl 0 rfl ?_
                    refine z_iload_n F dJ6_stringSize_0f7a4_28 rfl 3 rfl ?_
                    refine z_iadd F dJ6_stringSize_0f7a4_29 ?_
                    exact z_iret (nf_i _) F hr (Nat.le_of_ble_eq_true rfl) (Nat.le_of_ble_eq_true rfl) dJ6_stringSize_0f7a4_30 (⟨rI (by unfold szI; omega), rfl⟩)
              · refine z_iload_n F dJ6_stringSize_0f7a4_27 rfl 0 rfl ?_
                refine z_iload_n F dJ6_stringSize_0f7a4_28 rfl 3 rfl ?_
                refine z_iadd F dJ6_stringSize_0f7a4_29 ?_
                exact z_iret (nf_i _) F hr (Nat.le_of_ble_eq_true rfl) (Nat.le_of_ble_eq_true rfl) dJ6_stringSize_0f7a4_30 (⟨rI (by unfold szI; omega), rfl⟩)
          · refine z_iload_n F dJ6_stringSize_0f7a4_27 rfl 0 rfl ?_
            refine z_iload_n F dJ6_stringSize_0f7a4_28 rfl 3 rfl ?_
            refine z_iadd F dJ6_stringSize_0f7a4_29 ?_
            exact z_iret (nf_i _) F hr (Nat.le_of_ble_eq_true rfl) (Nat.le_of_ble_eq_true rfl) dJ6_stringSize_0f7a4_30 (⟨rI (by unfold szI; omega), rfl⟩)
      · refine z_iload_n F dJ6_stringSize_0f7a4_27 rfl 0 rfl ?_
        refine z_iload_n F dJ6_stringSize_0f7a4_28 rfl 3 rfl ?_
        refine z_iadd F dJ6_stringSize_0f7a4_29 ?_
        exact z_iret (nf_i _) F hr (Nat.le_of_ble_eq_true rfl) (Nat.le_of_ble_eq_true rfl) dJ6_stringSize_0f7a4_30 (⟨rI (by unfold szI; omega), rfl⟩)
