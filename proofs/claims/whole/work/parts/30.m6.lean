set_option maxRecDepth 100000 in
set_option maxHeartbeats 4000000 in
theorem mX9_writeEntry (l : Launch) (G : GG) (N0 : Nat) (h : Hp) (g : Nat → Nat) (σ : Sg) (e9 : Int) (hI : MI g σ h) (hR : RG σ) (hV : MV σ) (r_e9 : -2147483648 ≤ e9 ∧ e9 < 2147483648) : Ct l G N0 yX9_writeEntry (Cond.code yX9_writeEntry cX9_writeEntry 2 (some FieldType.int) :: LW) ({ frames := 4, cells := 0, slots := 0, locals := 150 }) [vR (g 0), vI e9] h (fun r h' => (¬ (0 ≤ e9 ∧ e9 < σ 8 0) ∧ r = some (vI 0) ∧ MI g (su σ 30 0 1) h') ∨ (¬ ¬ (0 ≤ e9 ∧ e9 < σ 8 0) ∧ ∃ (s d f : Int → Int) (n : Int), r = some (vI n) ∧ MI g (su (sw (sw (sw (su σ 30 0 0) 14 s) 15 d) 28 f) 29 0 n) h' ∧ TX f n (weL σ e9) ∧ CH f ∧ RF f ∧ RF s ∧ RF d)) := by
  refine ct_of rfl rfl ?_
  intro p e s m args below meth c F hr hnm
  have F : Fx p s m args meth c RX9 cX9_writeEntry 2 G N0 (cA h s.heap.size) := F
  obtain ⟨v0, v1, v2, v8, v16, v24, v29, vC, vE, vL, vK, vT⟩ := id hV
  have E_e9 := vE e9
  show Z _ _ _ _ _ _ _ _ _ _ _ _ _ _ _ _ _ _ _ [(0, vR (g 0)), (1, vI e9)] []
  refine z_aload_n F dX9_writeEntry_0 rfl 0 rfl ?_
  refine z_aload_n F dX9_writeEntry_1 rfl 0 rfl ?_
  refine z_iload_n F dX9_writeEntry_2 rfl 1 rfl ?_
  refine z_callV (As := [vI e9]) (st := [vR (g 0)]) F (mX9_isNone l G N0 h g σ e9 hI hR (by omega) (by omega)) cvX9_131 (mI hI 0 rfl) (fun r9 h9 => by cases h9; rfl) rfl rfl ⟨Nat.le_of_ble_eq_true rfl, Nat.le_of_ble_eq_true rfl⟩ rfl ⟨Nat.le_of_ble_eq_true rfl, Nat.le_of_ble_eq_true rfl⟩ dX9_writeEntry_3 ?_
  rintro _ h9 ⟨rfl, hh9⟩
  rw [hh9]
  clear hh9 h9
  generalize ex1 : (if 0 ≤ e9 ∧ e9 < σ 8 0 then (0 : Int) else 1) = x1
  show Z _ _ _ _ _ _ _ _ _ _ _ _ _ _ _ _ _ _ _ _ [vI x1, vR (g 0)]
  refine z_if_eq (tgt := 13) F dX9_writeEntry_6 (by decide) (by omega) (fun c6 => ?_) (fun c6 => ?_)
  · refine z_iconst F dX9_writeEntry_13 ?_
    refine z_callV (As := [vI 0]) (st := []) F (mX9_fails l G N0 h g σ 0 hI hR (by decide)) cvX9_107 (mI hI 0 rfl) (fun r9 h9 => by cases h9; rfl) rfl rfl ⟨Nat.le_of_ble_eq_true rfl, Nat.le_of_ble_eq_true rfl⟩ rfl ⟨Nat.le_of_ble_eq_true rfl, Nat.le_of_ble_eq_true rfl⟩ dX9_writeEntry_14 ?_
    rintro _ h2 ⟨rfl, Ih2⟩
    rw [if_neg (by decide)]
    show Z _ _ _ _ _ _ _ _ _ _ _ _ _ _ _ _ _ _ _ _ [vI 0]
    refine z_if_eq (tgt := 22) F dX9_writeEntry_17 (by decide) (by decide) (fun c17 => ?_) (fun c17 => ?_)
    · refine z_aload_n F dX9_writeEntry_22 rfl 0 rfl ?_
      refine z_callV (As := []) (st := []) F (mX9_counts l G N0 h2 g (su σ 30 0 0) Ih2 (rg_su hR (by decide)) hV) cvX9_148 (mI Ih2 0 rfl) (fun r9 h9 => by cases h9; rfl) rfl rfl ⟨Nat.le_of_ble_eq_true rfl, Nat.le_of_ble_eq_true rfl⟩ rfl ⟨Nat.le_of_ble_eq_true rfl, Nat.le_of_ble_eq_true rfl⟩ dX9_writeEntry_23 ?_
      rintro _ h3 ⟨rfl, sh3, dh3, Ih3, Rsh3, Rdh3, Sh3, Dh3⟩
      show Z _ _ _ _ _ _ _ _ _ _ _ _ _ _ _ _ _ _ _ _ []
      simp only [secS_c, dayS_c] at Sh3 Dh3
      have nh3 : ∀ e, 0 ≤ e → e < σ 8 0 → sh3 e = secS σ e := Sh3
      have oh3 : ∀ e dd, 0 ≤ e → e < σ 8 0 → 0 ≤ dd → dd < 5 → dh3 (5 * e + dd) = dayS σ e dd := Dh3
      refine z_aload_n F dX9_writeEntry_26 rfl 0 rfl ?_
      refine z_iconst F dX9_writeEntry_27 ?_
      obtain ⟨h4, eh4, Ih4⟩ : ∃ z : Hp, hu h3 (g 0) (eO 14 [vI (σ 0 0), vI (σ 1 0), vI (σ 2 0), vR (g 3), vR (g 4), vR (g 5), vR (g 6), vR (g 7), vI (σ 8 0), vR (g 9), vR (g 10), vR (g 11), vR (g 12), vR (g 13), vR (g 14), vR (g 15), vI (σ 16 0), vR (g 17), vR (g 18), vR (g 19), vR (g 20), vR (g 21), vR (g 22), vR (g 23), vI (σ 24 0), vR (g 25), vR (g 26), vR (g 27), vR (g 28), vI 0, vI 0]) = z ∧ MI g (su (sw (sw (su σ 30 0 0) 14 sh3) 15 dh3) 29 0 0) z := ⟨_, rfl, mPs Ih3 29 rfl 0⟩
      refine z_put (fs := [vI (σ 0 0), vI (σ 1 0), vI (σ 2 0), vR (g 3), vR (g 4), vR (g 5), vR (g 6), vR (g 7), vI (σ 8 0), vR (g 9), vR (g 10), vR (g 11), vR (g 12), vR (g 13), vR (g 14), vR (g 15), vI (σ 16 0), vR (g 17), vR (g 18), vR (g 19), vR (g 20), vR (g 21), vR (g 22), vR (g 23), vI (σ 24 0), vR (g 25), vR (g 26), vR (g 27), vR (g 28), vI (σ 29 0), vI 0]) (fs' := [vI (σ 0 0), vI (σ 1 0), vI (σ 2 0), vR (g 3), vR (g 4), vR (g 5), vR (g 6), vR (g 7), vI (σ 8 0), vR (g 9), vR (g 10), vR (g 11), vR (g 12), vR (g 13), vR (g 14), vR (g 15), vI (σ 16 0), vR (g 17), vR (g 18), vR (g 19), vR (g 20), vR (g 21), vR (g 22), vR (g 23), vI (σ 24 0), vR (g 25), vR (g 26), vR (g 27), vR (g 28), vI 0, vI 0]) (h' := h4) F (mI Ih3 0 rfl) fX9_154 ftX9_29 (nf_i _) (Nat.le_of_ble_eq_true rfl) rfl dX9_writeEntry_28 eh4 ?_
      refine z_aload_n F dX9_writeEntry_31 rfl 0 rfl ?_
      refine z_iload_n F dX9_writeEntry_32 rfl 1 rfl ?_
      refine z_callV (As := [vI e9]) (st := []) F (mX9_putsNumber l G N0 h4 g (su (sw (sw (su σ 30 0 0) 14 sh3) 15 dh3) 29 0 0) e9 ([]) Ih4 (rg_su (rg_sw (rg_sw (rg_su hR (by decide)) Rsh3) Rdh3) (by decide)) TX.nil vT (by omega) (show 0 ≤ 0 ∧ 0 < 50 from by omega)) cvX9_161 (mI Ih4 0 rfl) (fun r9 h9 => by cases h9; rfl) rfl rfl ⟨Nat.le_of_ble_eq_true rfl, Nat.le_of_ble_eq_true rfl⟩ rfl ⟨Nat.le_of_ble_eq_true rfl, Nat.le_of_ble_eq_true rfl⟩ dX9_writeEntry_33 ?_
      rintro _ h5 ⟨rfl, fh5, nh5, Ih5, Th5, Ch5, Rfh5⟩
      have Ih5 := TXc Ih5
      show Z _ _ _ _ _ _ _ _ _ _ _ _ _ _ _ _ _ _ _ _ []
      have dl33 := decL_len e9
      have Rfh5 := Rfh5
      have lbh5 : nh5 = (([] ++ decL e9).length : Int) := Th5.1
      simp only [List.length_append, List.length_cons, List.length_nil] at lbh5
      refine z_aload_n F dX9_writeEntry_36 rfl 0 rfl ?_
      refine z_aload_n F dX9_writeEntry_37 rfl 0 rfl ?_
      refine z_get (v := vR (g 12)) F (mI Ih5 0 rfl) fX9_39 rfl dX9_writeEntry_38 ?_
      refine z_iload_n F dX9_writeEntry_41 rfl 1 rfl ?_
      refine z_caload (N := 24) (f := fun j => σ 12 j) F (mI Ih5 12 rfl) (by omega) (by omega) (by omega) dX9_writeEntry_42 ?_
      refine z_callV (As := [vI (σ 12 e9)]) (st := []) F (mX9_puts l G N0 h5 g (su (sw (sw (sw (su σ 30 0 0) 14 sh3) 15 dh3) 28 fh5) 29 0 nh5) (σ 12 e9) ([] ++ decL e9) Ih5 (rg_su (rg_sw (rg_sw (rg_sw (rg_su hR (by decide)) Rsh3) Rdh3) Rfh5) (by omega)) Th5 Ch5 (show 0 ≤ nh5 ∧ nh5 < 60 from by omega) (by omega)) cvX9_157 (mI Ih5 0 rfl) (fun r9 h9 => by cases h9; rfl) rfl rfl ⟨Nat.le_of_ble_eq_true rfl, Nat.le_of_ble_eq_true rfl⟩ rfl ⟨Nat.le_of_ble_eq_true rfl, Nat.le_of_ble_eq_true rfl⟩ dX9_writeEntry_43 ?_
      rintro _ h6 ⟨rfl, fh6, nh6, Ih6, Th6, Ch6, Rfh6⟩
      have Ih6 := TXb Ih6
      show Z _ _ _ _ _ _ _ _ _ _ _ _ _ _ _ _ _ _ _ _ []
      have Rfh6 := Rfh6
      have lbh6 : nh6 = (([] ++ decL e9 ++ [(σ 12 e9)]).length : Int) := Th6.1
      simp only [List.length_append, List.length_cons, List.length_nil] at lbh6
      refine z_aload_n F dX9_writeEntry_46 rfl 0 rfl ?_
      refine z_aload_n F dX9_writeEntry_47 rfl 0 rfl ?_
      refine z_get (v := vR (g 9)) F (mI Ih6 0 rfl) fX9_30 rfl dX9_writeEntry_48 ?_
      refine z_iload_n F dX9_writeEntry_51 rfl 1 rfl ?_
      refine z_iaload (N := 24) (f := fun j => σ 9 j) F (mI Ih6 9 rfl) (by omega) (by omega) (by omega) dX9_writeEntry_52 ?_
      refine z_callV (As := [vI (σ 9 e9)]) (st := []) F (mX9_putsNumber l G N0 h6 g (su (sw (sw (sw (su σ 30 0 0) 14 sh3) 15 dh3) 28 fh6) 29 0 nh6) (σ 9 e9) ([] ++ decL e9 ++ [(σ 12 e9)]) Ih6 (rg_su (rg_sw (rg_sw (rg_sw (rg_su hR (by decide)) Rsh3) Rdh3) Rfh6) (by omega)) Th6 Ch6 (by omega) (show 0 ≤ nh6 ∧ nh6 < 50 from by omega)) cvX9_161 (mI Ih6 0 rfl) (fun r9 h9 => by cases h9; rfl) rfl rfl ⟨Nat.le_of_ble_eq_true rfl, Nat.le_of_ble_eq_true rfl⟩ rfl ⟨Nat.le_of_ble_eq_true rfl, Nat.le_of_ble_eq_true rfl⟩ dX9_writeEntry_53 ?_
      rintro _ h7 ⟨rfl, fh7, nh7, Ih7, Th7, Ch7, Rfh7⟩
      have Ih7 := TXb Ih7
      show Z _ _ _ _ _ _ _ _ _ _ _ _ _ _ _ _ _ _ _ _ []
      have dl53 := decL_len (σ 9 e9)
      have Rfh7 := Rfh7
      have lbh7 : nh7 = (([] ++ decL e9 ++ [(σ 12 e9)] ++ decL (σ 9 e9)).length : Int) := Th7.1
      simp only [List.length_append, List.length_cons, List.length_nil] at lbh7
      refine z_aload_n F dX9_writeEntry_56 rfl 0 rfl ?_
      refine z_bipush F dX9_writeEntry_57 (by decide) ?_
      refine z_callV (As := [vI 58]) (st := []) F (mX9_puts l G N0 h7 g (su (sw (sw (sw (su σ 30 0 0) 14 sh3) 15 dh3) 28 fh7) 29 0 nh7) 58 ([] ++ decL e9 ++ [(σ 12 e9)] ++ decL (σ 9 e9)) Ih7 (rg_su (rg_sw (rg_sw (rg_sw (rg_su hR (by decide)) Rsh3) Rdh3) Rfh7) (by omega)) Th7 Ch7 (show 0 ≤ nh7 ∧ nh7 < 60 from by omega) (by omega)) cvX9_157 (mI Ih7 0 rfl) (fun r9 h9 => by cases h9; rfl) rfl rfl ⟨Nat.le_of_ble_eq_true rfl, Nat.le_of_ble_eq_true rfl⟩ rfl ⟨Nat.le_of_ble_eq_true rfl, Nat.le_of_ble_eq_true rfl⟩ dX9_writeEntry_59 ?_
      rintro _ h8 ⟨rfl, fh8, nh8, Ih8, Th8, Ch8, Rfh8⟩
      have Ih8 := TXb Ih8
      show Z _ _ _ _ _ _ _ _ _ _ _ _ _ _ _ _ _ _ _ _ []
      have Rfh8 := Rfh8
      have lbh8 : nh8 = (([] ++ decL e9 ++ [(σ 12 e9)] ++ decL (σ 9 e9) ++ [58]).length : Int) := Th8.1
      simp only [List.length_append, List.length_cons, List.length_nil] at lbh8
      refine z_aload_n F dX9_writeEntry_62 rfl 0 rfl ?_
      refine z_aload_n F dX9_writeEntry_63 rfl 0 rfl ?_
      refine z_get (v := vR (g 10)) F (mI Ih8 0 rfl) fX9_33 rfl dX9_writeEntry_64 ?_
      refine z_iload_n F dX9_writeEntry_67 rfl 1 rfl ?_
      refine z_iaload (N := 24) (f := fun j => σ 10 j) F (mI Ih8 10 rfl) (by omega) (by omega) (by omega) dX9_writeEntry_68 ?_
      refine z_callV (As := [vI (σ 10 e9)]) (st := []) F (mX9_putsNumber l G N0 h8 g (su (sw (sw (sw (su σ 30 0 0) 14 sh3) 15 dh3) 28 fh8) 29 0 nh8) (σ 10 e9) ([] ++ decL e9 ++ [(σ 12 e9)] ++ decL (σ 9 e9) ++ [58]) Ih8 (rg_su (rg_sw (rg_sw (rg_sw (rg_su hR (by decide)) Rsh3) Rdh3) Rfh8) (by omega)) Th8 Ch8 (by omega) (show 0 ≤ nh8 ∧ nh8 < 50 from by omega)) cvX9_161 (mI Ih8 0 rfl) (fun r9 h9 => by cases h9; rfl) rfl rfl ⟨Nat.le_of_ble_eq_true rfl, Nat.le_of_ble_eq_true rfl⟩ rfl ⟨Nat.le_of_ble_eq_true rfl, Nat.le_of_ble_eq_true rfl⟩ dX9_writeEntry_69 ?_
      rintro _ h9 ⟨rfl, fh9, nh9, Ih9, Th9, Ch9, Rfh9⟩
      have Ih9 := TXb Ih9
      show Z _ _ _ _ _ _ _ _ _ _ _ _ _ _ _ _ _ _ _ _ []
      have dl69 := decL_len (σ 10 e9)
      have Rfh9 := Rfh9
      have lbh9 : nh9 = (([] ++ decL e9 ++ [(σ 12 e9)] ++ decL (σ 9 e9) ++ [58] ++ decL (σ 10 e9)).length : Int) := Th9.1
      simp only [List.length_append, List.length_cons, List.length_nil] at lbh9
      refine z_aload_n F dX9_writeEntry_72 rfl 0 rfl ?_
      refine z_bipush F dX9_writeEntry_73 (by decide) ?_
      refine z_callV (As := [vI 45]) (st := []) F (mX9_puts l G N0 h9 g (su (sw (sw (sw (su σ 30 0 0) 14 sh3) 15 dh3) 28 fh9) 29 0 nh9) 45 ([] ++ decL e9 ++ [(σ 12 e9)] ++ decL (σ 9 e9) ++ [58] ++ decL (σ 10 e9)) Ih9 (rg_su (rg_sw (rg_sw (rg_sw (rg_su hR (by decide)) Rsh3) Rdh3) Rfh9) (by omega)) Th9 Ch9 (show 0 ≤ nh9 ∧ nh9 < 60 from by omega) (by omega)) cvX9_157 (mI Ih9 0 rfl) (fun r9 h9 => by cases h9; rfl) rfl rfl ⟨Nat.le_of_ble_eq_true rfl, Nat.le_of_ble_eq_true rfl⟩ rfl ⟨Nat.le_of_ble_eq_true rfl, Nat.le_of_ble_eq_true rfl⟩ dX9_writeEntry_75 ?_
      rintro _ h10 ⟨rfl, fh10, nh10, Ih10, Th10, Ch10, Rfh10⟩
      have Ih10 := TXb Ih10
      show Z _ _ _ _ _ _ _ _ _ _ _ _ _ _ _ _ _ _ _ _ []
      have Rfh10 := Rfh10
      have lbh10 : nh10 = (([] ++ decL e9 ++ [(σ 12 e9)] ++ decL (σ 9 e9) ++ [58] ++ decL (σ 10 e9) ++ [45]).length : Int) := Th10.1
      simp only [List.length_append, List.length_cons, List.length_nil] at lbh10
      refine z_aload_n F dX9_writeEntry_78 rfl 0 rfl ?_
      refine z_aload_n F dX9_writeEntry_79 rfl 0 rfl ?_
      refine z_iload_n F dX9_writeEntry_80 rfl 1 rfl ?_
      refine z_callV (As := [vI e9]) (st := [vR (g 0)]) F (mX9_endsAt l G N0 h10 g (su (sw (sw (sw (su σ 30 0 0) 14 sh3) 15 dh3) 28 fh10) 29 0 nh10) e9 Ih10 (rg_su (rg_sw (rg_sw (rg_sw (rg_su hR (by decide)) Rsh3) Rdh3) Rfh10) (by omega)) (by omega)) cvX9_137 (mI Ih10 0 rfl) (fun r9 h9 => by cases h9; rfl) rfl rfl ⟨Nat.le_of_ble_eq_true rfl, Nat.le_of_ble_eq_true rfl⟩ rfl ⟨Nat.le_of_ble_eq_true rfl, Nat.le_of_ble_eq_true rfl⟩ dX9_writeEntry_81 ?_
      rintro _ h9 ⟨rfl, hh9⟩
      rw [hh9]
      clear hh9 h9
      generalize ex11 : enA (su (sw (sw (sw (su σ 30 0 0) 14 sh3) 15 dh3) 28 fh10) 29 0 nh10) e9 = x11
      have fx11 : (if σ 12 e9 = 114 then σ 0 0 else σ 11 e9) = x11 := ex11
      show Z _ _ _ _ _ _ _ _ _ _ _ _ _ _ _ _ _ _ _ _ [vI x11, vR (g 0)]
      refine z_callV (As := [vI x11]) (st := []) F (mX9_putsNumber l G N0 h10 g (su (sw (sw (sw (su σ 30 0 0) 14 sh3) 15 dh3) 28 fh10) 29 0 nh10) x11 ([] ++ decL e9 ++ [(σ 12 e9)] ++ decL (σ 9 e9) ++ [58] ++ decL (σ 10 e9) ++ [45]) Ih10 (rg_su (rg_sw (rg_sw (rg_sw (rg_su hR (by decide)) Rsh3) Rdh3) Rfh10) (by omega)) Th10 Ch10 (by omega) (show 0 ≤ nh10 ∧ nh10 < 50 from by omega)) cvX9_161 (mI Ih10 0 rfl) (fun r9 h9 => by cases h9; rfl) rfl rfl ⟨Nat.le_of_ble_eq_true rfl, Nat.le_of_ble_eq_true rfl⟩ rfl ⟨Nat.le_of_ble_eq_true rfl, Nat.le_of_ble_eq_true rfl⟩ dX9_writeEntry_84 ?_
      rintro _ h12 ⟨rfl, fh12, nh12, Ih12, Th12, Ch12, Rfh12⟩
      have Ih12 := TXb Ih12
      show Z _ _ _ _ _ _ _ _ _ _ _ _ _ _ _ _ _ _ _ _ []
      have dl84 := decL_len x11
      have Rfh12 := Rfh12
      have lbh12 : nh12 = (([] ++ decL e9 ++ [(σ 12 e9)] ++ decL (σ 9 e9) ++ [58] ++ decL (σ 10 e9) ++ [45] ++ decL x11).length : Int) := Th12.1
      simp only [List.length_append, List.length_cons, List.length_nil] at lbh12
      refine z_aload_n F dX9_writeEntry_87 rfl 0 rfl ?_
      refine z_bipush F dX9_writeEntry_88 (by decide) ?_
      refine z_callV (As := [vI 61]) (st := []) F (mX9_puts l G N0 h12 g (su (sw (sw (sw (su σ 30 0 0) 14 sh3) 15 dh3) 28 fh12) 29 0 nh12) 61 ([] ++ decL e9 ++ [(σ 12 e9)] ++ decL (σ 9 e9) ++ [58] ++ decL (σ 10 e9) ++ [45] ++ decL x11) Ih12 (rg_su (rg_sw (rg_sw (rg_sw (rg_su hR (by decide)) Rsh3) Rdh3) Rfh12) (by omega)) Th12 Ch12 (show 0 ≤ nh12 ∧ nh12 < 60 from by omega) (by omega)) cvX9_157 (mI Ih12 0 rfl) (fun r9 h9 => by cases h9; rfl) rfl rfl ⟨Nat.le_of_ble_eq_true rfl, Nat.le_of_ble_eq_true rfl⟩ rfl ⟨Nat.le_of_ble_eq_true rfl, Nat.le_of_ble_eq_true rfl⟩ dX9_writeEntry_90 ?_
      rintro _ h13 ⟨rfl, fh13, nh13, Ih13, Th13, Ch13, Rfh13⟩
      have Ih13 := TXb Ih13
      show Z _ _ _ _ _ _ _ _ _ _ _ _ _ _ _ _ _ _ _ _ []
      have Rfh13 := Rfh13
      have lbh13 : nh13 = (([] ++ decL e9 ++ [(σ 12 e9)] ++ decL (σ 9 e9) ++ [58] ++ decL (σ 10 e9) ++ [45] ++ decL x11 ++ [61]).length : Int) := Th13.1
      simp only [List.length_append, List.length_cons, List.length_nil] at lbh13
      have sb9 := secS_in hV (e := e9) (by omega) (by omega)
      have se9 := nh3 e9 (by omega) (by omega)
      refine z_aload_n F dX9_writeEntry_93 rfl 0 rfl ?_
      refine z_aload_n F dX9_writeEntry_94 rfl 0 rfl ?_
      refine z_get (v := vR (g 14)) F (mI Ih13 0 rfl) fX9_45 rfl dX9_writeEntry_95 ?_
      refine z_iload_n F dX9_writeEntry_98 rfl 1 rfl ?_
      refine z_iaload (N := 24) (f := fun j => sh3 j) F (mI Ih13 14 rfl) (by omega) (by omega) (by omega) dX9_writeEntry_99 ?_
      refine z_callV (As := [vI (sh3 e9)]) (st := []) F (mX9_putsNumber l G N0 h13 g (su (sw (sw (sw (su σ 30 0 0) 14 sh3) 15 dh3) 28 fh13) 29 0 nh13) (sh3 e9) ([] ++ decL e9 ++ [(σ 12 e9)] ++ decL (σ 9 e9) ++ [58] ++ decL (σ 10 e9) ++ [45] ++ decL x11 ++ [61]) Ih13 (rg_su (rg_sw (rg_sw (rg_sw (rg_su hR (by decide)) Rsh3) Rdh3) Rfh13) (by omega)) Th13 Ch13 (by omega) (show 0 ≤ nh13 ∧ nh13 < 50 from by omega)) cvX9_161 (mI Ih13 0 rfl) (fun r9 h9 => by cases h9; rfl) rfl rfl ⟨Nat.le_of_ble_eq_true rfl, Nat.le_of_ble_eq_true rfl⟩ rfl ⟨Nat.le_of_ble_eq_true rfl, Nat.le_of_ble_eq_true rfl⟩ dX9_writeEntry_100 ?_
      rintro _ h14 ⟨rfl, fh14, nh14, Ih14, Th14, Ch14, Rfh14⟩
      have Ih14 := TXb Ih14
      show Z _ _ _ _ _ _ _ _ _ _ _ _ _ _ _ _ _ _ _ _ []
      have dl100 := decL_len (sh3 e9)
      have Rfh14 := Rfh14
      have lbh14 : nh14 = (([] ++ decL e9 ++ [(σ 12 e9)] ++ decL (σ 9 e9) ++ [58] ++ decL (σ 10 e9) ++ [45] ++ decL x11 ++ [61] ++ decL (sh3 e9)).length : Int) := Th14.1
      simp only [List.length_append, List.length_cons, List.length_nil] at lbh14
      refine z_aload_n F dX9_writeEntry_103 rfl 0 rfl ?_
      refine z_get (v := vI nh14) F (mI Ih14 0 rfl) fX9_154 rfl dX9_writeEntry_104 ?_
      exact z_iret (nf_i _) F hr (Nat.le_of_ble_eq_true rfl) (Nat.le_of_ble_eq_true rfl) dX9_writeEntry_107 (Or.inr ⟨by omega, sh3, dh3, fh14, nh14, rfl, Ih14, by unfold weL; rw [← nh3 e9 (by omega) (by omega), show enA σ e9 = x11 by assumption]; exact Th14, Ch14, Rfh14, Rsh3, Rdh3⟩)
    · exact absurd c17 (by decide)
  · refine z_iconst F dX9_writeEntry_9 ?_
    refine z_goto (tgt := 14) F dX9_writeEntry_10 (by decide) ?_
    refine z_callV (As := [vI 1]) (st := []) F (mX9_fails l G N0 h g σ 1 hI hR (by decide)) cvX9_107 (mI hI 0 rfl) (fun r9 h9 => by cases h9; rfl) rfl rfl ⟨Nat.le_of_ble_eq_true rfl, Nat.le_of_ble_eq_true rfl⟩ rfl ⟨Nat.le_of_ble_eq_true rfl, Nat.le_of_ble_eq_true rfl⟩ dX9_writeEntry_14 ?_
    rintro _ h15 ⟨rfl, Ih15⟩
    rw [if_pos (by decide)]
    show Z _ _ _ _ _ _ _ _ _ _ _ _ _ _ _ _ _ _ _ _ [vI 1]
    refine z_if_eq (tgt := 22) F dX9_writeEntry_17 (by decide) (by decide) (fun c17 => ?_) (fun c17 => ?_)
    · exact absurd c17 (by decide)
    · refine z_iconst F dX9_writeEntry_20 ?_
      exact z_iret (nf_i _) F hr (Nat.le_of_ble_eq_true rfl) (Nat.le_of_ble_eq_true rfl) dX9_writeEntry_21 (Or.inl ⟨by omega, rfl, Ih15⟩)
set_option maxRecDepth 100000 in
set_option maxHeartbeats 4000000 in
theorem mX9_charAt (l : Launch) (G : GG) (N0 : Nat) (h : Hp) (g : Nat → Nat) (σ : Sg) (i9 : Int) (hI : MI g σ h) (hR : RG σ) (hV : MV σ) (r_i9 : -2147483648 ≤ i9 ∧ i9 < 2147483648) : Ct l G N0 yX9_charAt (Cond.code yX9_charAt cX9_charAt 2 (some FieldType.char) :: LW) ({ frames := 2, cells := 0, slots := 0, locals := 70 }) [vR (g 0), vI i9] h (fun r h' => ((¬ (0 ≤ i9 ∧ i9 < σ 29 0)) ∧ r = some (vI 32) ∧ MI g (su σ 30 0 1) h') ∨ (¬ (¬ (0 ≤ i9 ∧ i9 < σ 29 0)) ∧ r = some (vI (σ 28 i9)) ∧ MI g (su σ 30 0 0) h')) := by
  refine ct_of rfl rfl ?_
  intro p e s m args below meth c F hr hnm
  have F : Fx p s m args meth c RX9 cX9_charAt 2 G N0 (cA h s.heap.size) := F
  obtain ⟨v0, v1, v2, v8, v16, v24, v29, vC, vE, vL, vK, vT⟩ := id hV
  have T_i := vT i9
  show Z _ _ _ _ _ _ _ _ _ _ _ _ _ _ _ _ _ _ _ [(0, vR (g 0)), (1, vI i9)] []
  refine z_aload_n F dX9_charAt_0 rfl 0 rfl ?_
  refine z_iload_n F dX9_charAt_1 rfl 1 rfl ?_
  refine z_iconst F dX9_charAt_2 ?_
  refine z_aload_n F dX9_charAt_3 rfl 0 rfl ?_
  refine z_get (v := vI (σ 29 0)) F (mI hI 0 rfl) fX9_154 rfl dX9_charAt_4 ?_
  refine z_iconst F dX9_charAt_7 ?_
  refine z_isub F dX9_charAt_8 ?_
  refine z_callS (As := [vI i9, vI 0, vI ((σ 29 0) - 1)]) (st := [vR (g 0)]) F (mX9_in l G N0 h i9 0 ((σ 29 0) - 1) (by omega) (by decide) (by omega)) csX9_93 rfl rfl ⟨Nat.le_of_ble_eq_true rfl, Nat.le_of_ble_eq_true rfl⟩ rfl ⟨Nat.le_of_ble_eq_true rfl, Nat.le_of_ble_eq_true rfl⟩ dX9_charAt_9 ?_
  rintro _ h9 ⟨rfl, hh9⟩
  rw [hh9]
  clear hh9 h9
  generalize ex1 : (if 0 ≤ i9 ∧ i9 ≤ (σ 29 0) - 1 then (1 : Int) else 0) = x1
  show Z _ _ _ _ _ _ _ _ _ _ _ _ _ _ _ _ _ _ _ _ [vI x1, vR (g 0)]
  refine z_if_eq (tgt := 19) F dX9_charAt_12 (by decide) (by omega) (fun c12 => ?_) (fun c12 => ?_)
  · refine z_iconst F dX9_charAt_19 ?_
    refine z_callV (As := [vI 1]) (st := []) F (mX9_fails l G N0 h g σ 1 hI hR (by decide)) cvX9_107 (mI hI 0 rfl) (fun r9 h9 => by cases h9; rfl) rfl rfl ⟨Nat.le_of_ble_eq_true rfl, Nat.le_of_ble_eq_true rfl⟩ rfl ⟨Nat.le_of_ble_eq_true rfl, Nat.le_of_ble_eq_true rfl⟩ dX9_charAt_20 ?_
    rintro _ h2 ⟨rfl, Ih2⟩
    rw [if_pos (by decide)]
    show Z _ _ _ _ _ _ _ _ _ _ _ _ _ _ _ _ _ _ _ _ [vI 1]
    refine z_if_eq (tgt := 31) F dX9_charAt_23 (by decide) (by decide) (fun c23 => ?_) (fun c23 => ?_)
    · exact absurd c23 (by decide)
    · refine z_bipush F dX9_charAt_26 (by decide) ?_
      refine z_goto (tgt := 37) F dX9_charAt_28 (by decide) ?_
      exact z_iret (nf_c (by omega)) F hr (Nat.le_of_ble_eq_true rfl) (Nat.le_of_ble_eq_true rfl) dX9_charAt_37 (Or.inl ⟨by omega, rfl, Ih2⟩)
  · refine z_iconst F dX9_charAt_15 ?_
    refine z_goto (tgt := 20) F dX9_charAt_16 (by decide) ?_
    refine z_callV (As := [vI 0]) (st := []) F (mX9_fails l G N0 h g σ 0 hI hR (by decide)) cvX9_107 (mI hI 0 rfl) (fun r9 h9 => by cases h9; rfl) rfl rfl ⟨Nat.le_of_ble_eq_true rfl, Nat.le_of_ble_eq_true rfl⟩ rfl ⟨Nat.le_of_ble_eq_true rfl, Nat.le_of_ble_eq_true rfl⟩ dX9_charAt_20 ?_
    rintro _ h3 ⟨rfl, Ih3⟩
    rw [if_neg (by decide)]
    show Z _ _ _ _ _ _ _ _ _ _ _ _ _ _ _ _ _ _ _ _ [vI 0]
    refine z_if_eq (tgt := 31) F dX9_charAt_23 (by decide) (by decide) (fun c23 => ?_) (fun c23 => ?_)
    · refine z_aload_n F dX9_charAt_31 rfl 0 rfl ?_
      refine z_get (v := vR (g 28)) F (mI Ih3 0 rfl) fX9_83 rfl dX9_charAt_32 ?_
      refine z_iload_n F dX9_charAt_35 rfl 1 rfl ?_
      refine z_caload (N := 60) (f := fun j => σ 28 j) F (mI Ih3 28 rfl) (by omega) (by omega) (by omega) dX9_charAt_36 ?_
      exact z_iret (nf_c (by omega)) F hr (Nat.le_of_ble_eq_true rfl) (Nat.le_of_ble_eq_true rfl) dX9_charAt_37 (Or.inr (⟨by omega, rfl, Ih3⟩))
    · exact absurd c23 (by decide)
set_option maxRecDepth 100000 in
set_option maxHeartbeats 4000000 in
theorem mX9_round (l : Launch) (G : GG) (N0 : Nat) (h : Hp) (g : Nat → Nat) (σ : Sg) (c9 s9 : Int) (hI : MI g σ h) (hR : RG σ) (hc : 0 ≤ c9 ∧ c9 < 5) (hu : 1 ≤ σ 3 c9 ∧ σ 3 c9 ≤ 60) (hs : 0 ≤ s9 ∧ s9 ≤ 5000000) : Ct l G N0 yX9_round (Cond.code yX9_round cX9_round 7 (some FieldType.int) :: LW) ({ frames := 0, cells := 0, slots := 0, locals := 0 }) [vR (g 0), vI c9, vI s9] h (fun r h' => r = some (vI (rndS (σ 3 c9) (σ 4 c9) s9)) ∧ h' = h) := by
  refine ct_of rfl rfl ?_
  intro p e s m args below meth c F hr hnm
  have F : Fx p s m args meth c RX9 cX9_round 7 G N0 (cA h s.heap.size) := F
  have hr0 : 0 ≤ s9 % (60 * σ 3 c9) := Int.emod_nonneg _ (by omega)
  have hr1 : s9 % (60 * σ 3 c9) < 60 * σ 3 c9 := Int.emod_lt_of_pos _ (by omega)
  have hq0 : 0 ≤ s9 / (60 * σ 3 c9) := Int.ediv_nonneg hs.1 (by omega)
  have hq1 : s9 / (60 * σ 3 c9) ≤ s9 := Int.ediv_le_self _ hs.1
  show Z _ _ _ _ _ _ _ _ _ _ _ _ _ _ _ _ _ _ _ [(0, vR (g 0)), (1, vI c9), (2, vI s9)] []
  refine z_bipush F dX9_round_0 (by decide) ?_
  refine z_aload_n F dX9_round_2 rfl 0 rfl ?_
  refine z_get (v := vR (g 3)) F (mI hI 0 rfl) fX9_13 rfl dX9_round_3 ?_
  refine z_iload_n F dX9_round_6 rfl 1 rfl ?_
  refine z_iaload (N := 5) (f := fun j => σ 3 j) F (mI hI 3 rfl) (by omega) (by omega) (by omega) dX9_round_7 ?_
  refine z_imul F dX9_round_8 ?_
  refine z_istore_n (lv' := [(3, vI (60 * (σ 3 c9))), (0, vR (g 0)), (1, vI c9), (2, vI s9)]) F dX9_round_9 rfl (by decide) rfl ?_
  refine z_iload_n F dX9_round_10 rfl 3 rfl ?_
  refine z_iload_n F dX9_round_11 rfl 0 rfl ?_
  refine z_idiv F dX9_round_12 (by omega) (by omega) ?_
  refine z_istore (lv' := [(4, vI (s9 / (60 * (σ 3 c9)))), (3, vI (60 * (σ 3 c9))), (0, vR (g 0)), (1, vI c9), (2, vI s9)]) F dX9_round_13 (by decide) rfl ?_
  refine z_iload_n F dX9_round_15 rfl 4 rfl ?_
  refine z_iload_n F dX9_round_16 rfl 1 rfl ?_
  refine z_irem F dX9_round_17 (by omega) (by omega) ?_
  refine z_istore (lv' := [(5, vI (s9 % (60 * (σ 3 c9)))), (4, vI (s9 / (60 * (σ 3 c9)))), (3, vI (60 * (σ 3 c9))), (0, vR (g 0)), (1, vI c9), (2, vI s9)]) F dX9_round_18 (by decide) rfl ?_
  refine z_aload_n F dX9_round_20 rfl 3 rfl ?_
  refine z_get (v := vR (g 4)) F (mI hI 0 rfl) fX9_17 rfl dX9_round_21 ?_
  refine z_iload_n F dX9_round_24 rfl 4 rfl ?_
  refine z_caload (N := 5) (f := fun j => σ 4 j) F (mI hI 4 rfl) (by omega) (by omega) (by omega) dX9_round_25 ?_
  refine z_bipush F dX9_round_26 (by decide) ?_
  refine z_icmp_ne (tgt := 44) F dX9_round_28 (by decide) (hR 4 c9) (by decide) (fun c28 => ?_) (fun c28 => ?_)
  · refine z_aload_n F dX9_round_44 rfl 3 rfl ?_
    refine z_get (v := vR (g 4)) F (mI hI 0 rfl) fX9_17 rfl dX9_round_45 ?_
    refine z_iload_n F dX9_round_48 rfl 4 rfl ?_
    refine z_caload (N := 5) (f := fun j => σ 4 j) F (mI hI 4 rfl) (by omega) (by omega) (by omega) dX9_round_49 ?_
    refine z_bipush F dX9_round_50 (by decide) ?_
    refine z_icmp_ne (tgt := 67) F dX9_round_52 (by decide) (hR 4 c9) (by decide) (fun c52 => ?_) (fun c52 => ?_)
    · refine z_iconst F dX9_round_67 ?_
      refine z_istore (lv' := [(6, vI 0), (5, vI (s9 % (60 * (σ 3 c9)))), (4, vI (s9 / (60 * (σ 3 c9)))), (3, vI (60 * (σ 3 c9))), (0, vR (g 0)), (1, vI c9), (2, vI s9)]) F dX9_round_68 (by decide) rfl ?_
      refine z_aload_n F dX9_round_70 rfl 4 rfl ?_
      refine z_get (v := vR (g 3)) F (mI hI 0 rfl) fX9_13 rfl dX9_round_71 ?_
      refine z_iload_n F dX9_round_74 rfl 5 rfl ?_
      refine z_iaload (N := 5) (f := fun j => σ 3 j) F (mI hI 3 rfl) (by omega) (by omega) (by omega) dX9_round_75 ?_
      refine z_iload F dX9_round_76 0 rfl ?_
      refine z_if_eq (tgt := 88) F dX9_round_78 (by decide) (by decide) (fun c78 => ?_) (fun c78 => ?_)
      · refine z_iload F dX9_round_88 2 rfl ?_
        refine z_imul F dX9_round_90 ?_
        exact z_iret (nf_i _) F hr (Nat.le_of_ble_eq_true rfl) (Nat.le_of_ble_eq_true rfl) dX9_round_91 (⟨rI (by unfold rndS; first | rw [if_pos (by omega)] | rw [if_neg (by omega)]), rfl⟩)
      · exact absurd c78 (by decide)
    · refine z_iconst F dX9_round_55 ?_
      refine z_iload F dX9_round_56 0 rfl ?_
      refine z_imul F dX9_round_58 ?_
      refine z_iload_n F dX9_round_59 rfl 2 rfl ?_
      refine z_icmp_lt (tgt := 67) F dX9_round_60 (by decide) (by omega) (by omega) (fun c60 => ?_) (fun c60 => ?_)
      · refine z_iconst F dX9_round_67 ?_
        refine z_istore (lv' := [(6, vI 0), (5, vI (s9 % (60 * (σ 3 c9)))), (4, vI (s9 / (60 * (σ 3 c9)))), (3, vI (60 * (σ 3 c9))), (0, vR (g 0)), (1, vI c9), (2, vI s9)]) F dX9_round_68 (by decide) rfl ?_
        refine z_aload_n F dX9_round_70 rfl 4 rfl ?_
        refine z_get (v := vR (g 3)) F (mI hI 0 rfl) fX9_13 rfl dX9_round_71 ?_
        refine z_iload_n F dX9_round_74 rfl 5 rfl ?_
        refine z_iaload (N := 5) (f := fun j => σ 3 j) F (mI hI 3 rfl) (by omega) (by omega) (by omega) dX9_round_75 ?_
        refine z_iload F dX9_round_76 0 rfl ?_
        refine z_if_eq (tgt := 88) F dX9_round_78 (by decide) (by decide) (fun c78 => ?_) (fun c78 => ?_)
        · refine z_iload F dX9_round_88 2 rfl ?_
          refine z_imul F dX9_round_90 ?_
          exact z_iret (nf_i _) F hr (Nat.le_of_ble_eq_true rfl) (Nat.le_of_ble_eq_true rfl) dX9_round_91 (⟨rI (by unfold rndS; first | rw [if_pos (by omega)] | rw [if_neg (by omega)]), rfl⟩)
        · exact absurd c78 (by decide)
      · refine z_iconst F dX9_round_63 ?_
        refine z_goto (tgt := 68) F dX9_round_64 (by decide) ?_
        refine z_istore (lv' := [(6, vI 1), (5, vI (s9 % (60 * (σ 3 c9)))), (4, vI (s9 / (60 * (σ 3 c9)))), (3, vI (60 * (σ 3 c9))), (0, vR (g 0)), (1, vI c9), (2, vI s9)]) F dX9_round_68 (by decide) rfl ?_
        refine z_aload_n F dX9_round_70 rfl 4 rfl ?_
        refine z_get (v := vR (g 3)) F (mI hI 0 rfl) fX9_13 rfl dX9_round_71 ?_
        refine z_iload_n F dX9_round_74 rfl 5 rfl ?_
        refine z_iaload (N := 5) (f := fun j => σ 3 j) F (mI hI 3 rfl) (by omega) (by omega) (by omega) dX9_round_75 ?_
        refine z_iload F dX9_round_76 0 rfl ?_
        refine z_if_eq (tgt := 88) F dX9_round_78 (by decide) (by decide) (fun c78 => ?_) (fun c78 => ?_)
        · exact absurd c78 (by decide)
        · refine z_iload F dX9_round_81 2 rfl ?_
          refine z_iconst F dX9_round_83 ?_
          refine z_iadd F dX9_round_84 ?_
          refine z_goto (tgt := 90) F dX9_round_85 (by decide) ?_
          refine z_imul F dX9_round_90 ?_
          exact z_iret (nf_i _) F hr (Nat.le_of_ble_eq_true rfl) (Nat.le_of_ble_eq_true rfl) dX9_round_91 (⟨rI (by unfold rndS; first | rw [if_pos (by omega)] | rw [if_neg (by omega)]), rfl⟩)
  · refine z_iload F dX9_round_31 0 rfl ?_
    refine z_if_le (tgt := 40) F dX9_round_33 (by decide) (by omega) (fun c33 => ?_) (fun c33 => ?_)
    · refine z_iconst F dX9_round_40 ?_
      refine z_goto (tgt := 68) F dX9_round_41 (by decide) ?_
      refine z_istore (lv' := [(6, vI 0), (5, vI (s9 % (60 * (σ 3 c9)))), (4, vI (s9 / (60 * (σ 3 c9)))), (3, vI (60 * (σ 3 c9))), (0, vR (g 0)), (1, vI c9), (2, vI s9)]) F dX9_round_68 (by decide) rfl ?_
      refine z_aload_n F dX9_round_70 rfl 4 rfl ?_
      refine z_get (v := vR (g 3)) F (mI hI 0 rfl) fX9_13 rfl dX9_round_71 ?_
      refine z_iload_n F dX9_round_74 rfl 5 rfl ?_
      refine z_iaload (N := 5) (f := fun j => σ 3 j) F (mI hI 3 rfl) (by omega) (by omega) (by omega) dX9_round_75 ?_
      refine z_iload F dX9_round_76 0 rfl ?_
      refine z_if_eq (tgt := 88) F dX9_round_78 (by decide) (by decide) (fun c78 => ?_) (fun c78 => ?_)
      · refine z_iload F dX9_round_88 2 rfl ?_
        refine z_imul F dX9_round_90 ?_
        exact z_iret (nf_i _) F hr (Nat.le_of_ble_eq_true rfl) (Nat.le_of_ble_eq_true rfl) dX9_round_91 (⟨rI (by unfold rndS; first | rw [if_pos (by omega)] | rw [if_neg (by omega)]), rfl⟩)
      · exact absurd c78 (by decide)
    · refine z_iconst F dX9_round_36 ?_
      refine z_goto (tgt := 68) F dX9_round_37 (by decide) ?_
      refine z_istore (lv' := [(6, vI 1), (5, vI (s9 % (60 * (σ 3 c9)))), (4, vI (s9 / (60 * (σ 3 c9)))), (3, vI (60 * (σ 3 c9))), (0, vR (g 0)), (1, vI c9), (2, vI s9)]) F dX9_round_68 (by decide) rfl ?_
      refine z_aload_n F dX9_round_70 rfl 4 rfl ?_
      refine z_get (v := vR (g 3)) F (mI hI 0 rfl) fX9_13 rfl dX9_round_71 ?_
      refine z_iload_n F dX9_round_74 rfl 5 rfl ?_
      refine z_iaload (N := 5) (f := fun j => σ 3 j) F (mI hI 3 rfl) (by omega) (by omega) (by omega) dX9_round_75 ?_
      refine z_iload F dX9_round_76 0 rfl ?_
      refine z_if_eq (tgt := 88) F dX9_round_78 (by decide) (by decide) (fun c78 => ?_) (fun c78 => ?_)
      · exact absurd c78 (by decide)
      · refine z_iload F dX9_round_81 2 rfl ?_
        refine z_iconst F dX9_round_83 ?_
        refine z_iadd F dX9_round_84 ?_
        refine z_goto (tgt := 90) F dX9_round_85 (by decide) ?_
        refine z_imul F dX9_round_90 ?_
        exact z_iret (nf_i _) F hr (Nat.le_of_ble_eq_true rfl) (Nat.le_of_ble_eq_true rfl) dX9_round_91 (⟨rI (by unfold rndS; first | rw [if_pos (by omega)] | rw [if_neg (by omega)]), rfl⟩)
set_option maxRecDepth 100000 in
set_option maxHeartbeats 4000000 in
theorem mX9_belongs (l : Launch) (G : GG) (N0 : Nat) (h : Hp) (g : Nat → Nat) (σ : Sg) (e9 c9 wr : Int) (hI : MI g σ h) (hR : RG σ) (he : 0 ≤ e9 ∧ e9 < 24) (hw : wr = 0 ∨ wr = 1) (r_c9 : -2147483648 ≤ c9 ∧ c9 < 2147483648) : Ct l G N0 yX9_belongs (Cond.code yX9_belongs cX9_belongs 4 (some FieldType.boolean) :: LW) ({ frames := 0, cells := 0, slots := 0, locals := 0 }) [vR (g 0), vI e9, vI c9, vI wr] h (fun r h' => r = some (vI (blI (σ 9) (σ 12) e9 c9 wr)) ∧ h' = h) := by
  refine ct_of rfl rfl ?_
  intro p e s m args below meth c F hr hnm
  have F : Fx p s m args meth c RX9 cX9_belongs 4 G N0 (cA h s.heap.size) := F
  show Z _ _ _ _ _ _ _ _ _ _ _ _ _ _ _ _ _ _ _ [(0, vR (g 0)), (1, vI e9), (2, vI c9), (3, vI wr)] []
  refine z_aload_n F dX9_belongs_0 rfl 0 rfl ?_
  refine z_get (v := vR (g 9)) F (mI hI 0 rfl) fX9_30 rfl dX9_belongs_1 ?_
  refine z_iload_n F dX9_belongs_4 rfl 1 rfl ?_
  refine z_iaload (N := 24) (f := fun j => σ 9 j) F (mI hI 9 rfl) (by omega) (by omega) (by omega) dX9_belongs_5 ?_
  refine z_iload_n F dX9_belongs_6 rfl 2 rfl ?_
  refine z_icmp_ne (tgt := 40) F dX9_belongs_7 (by decide) (hR 9 e9) (by omega) (fun c7 => ?_) (fun c7 => ?_)
  · refine z_iconst F dX9_belongs_40 ?_
    exact z_iret (nf_z (by omega)) F hr (Nat.le_of_ble_eq_true rfl) (Nat.le_of_ble_eq_true rfl) dX9_belongs_41 (⟨rI (by unfold blI; omega), rfl⟩)
  · refine z_aload_n F dX9_belongs_10 rfl 0 rfl ?_
    refine z_get (v := vR (g 12)) F (mI hI 0 rfl) fX9_39 rfl dX9_belongs_11 ?_
    refine z_iload_n F dX9_belongs_14 rfl 1 rfl ?_
    refine z_caload (N := 24) (f := fun j => σ 12 j) F (mI hI 12 rfl) (by omega) (by omega) (by omega) dX9_belongs_15 ?_
    refine z_bipush F dX9_belongs_16 (by decide) ?_
    refine z_icmp_eq (tgt := 36) F dX9_belongs_18 (by decide) (hR 12 e9) (by decide) (fun c18 => ?_) (fun c18 => ?_)
    · refine z_iconst F dX9_belongs_36 ?_
      refine z_goto (tgt := 41) F dX9_belongs_37 (by decide) ?_
      exact z_iret (nf_z (by omega)) F hr (Nat.le_of_ble_eq_true rfl) (Nat.le_of_ble_eq_true rfl) dX9_belongs_41 (⟨rI (by unfold blI; omega), rfl⟩)
    · refine z_iload_n F dX9_belongs_21 rfl 3 rfl ?_
      refine z_if_eq (tgt := 40) F dX9_belongs_22 (by decide) (by omega) (fun c22 => ?_) (fun c22 => ?_)
      · refine z_iconst F dX9_belongs_40 ?_
        exact z_iret (nf_z (by omega)) F hr (Nat.le_of_ble_eq_true rfl) (Nat.le_of_ble_eq_true rfl) dX9_belongs_41 (⟨rI (by unfold blI; omega), rfl⟩)
      · refine z_aload_n F dX9_belongs_25 rfl 0 rfl ?_
        refine z_get (v := vR (g 12)) F (mI hI 0 rfl) fX9_39 rfl dX9_belongs_26 ?_
        refine z_iload_n F dX9_belongs_29 rfl 1 rfl ?_
        refine z_caload (N := 24) (f := fun j => σ 12 j) F (mI hI 12 rfl) (by omega) (by omega) (by omega) dX9_belongs_30 ?_
        refine z_bipush F dX9_belongs_31 (by decide) ?_
        refine z_icmp_ne (tgt := 40) F dX9_belongs_33 (by decide) (hR 12 e9) (by decide) (fun c33 => ?_) (fun c33 => ?_)
        · refine z_iconst F dX9_belongs_40 ?_
          exact z_iret (nf_z (by omega)) F hr (Nat.le_of_ble_eq_true rfl) (Nat.le_of_ble_eq_true rfl) dX9_belongs_41 (⟨rI (by unfold blI; omega), rfl⟩)
        · refine z_iconst F dX9_belongs_36 ?_
          refine z_goto (tgt := 41) F dX9_belongs_37 (by decide) ?_
          exact z_iret (nf_z (by omega)) F hr (Nat.le_of_ble_eq_true rfl) (Nat.le_of_ble_eq_true rfl) dX9_belongs_41 (⟨rI (by unfold blI; omega), rfl⟩)
set_option maxRecDepth 100000 in
set_option maxHeartbeats 4000000 in
theorem mX9_isAhead (l : Launch) (G : GG) (N0 : Nat) (h : Hp) (g : Nat → Nat) (σ : Sg) (a9 b9 : Int) (hI : MI g σ h) (hR : RG σ) (ha : 0 ≤ a9 ∧ a9 < 24) (hb : 0 ≤ b9 ∧ b9 < 24) : Ct l G N0 yX9_isAhead (Cond.code yX9_isAhead cX9_isAhead 3 (some FieldType.boolean) :: LW) ({ frames := 0, cells := 0, slots := 0, locals := 0 }) [vR (g 0), vI a9, vI b9] h (fun r h' => r = some (vI (ahI (σ 10) a9 b9)) ∧ h' = h) := by
  refine ct_of rfl rfl ?_
  intro p e s m args below meth c F hr hnm
  have F : Fx p s m args meth c RX9 cX9_isAhead 3 G N0 (cA h s.heap.size) := F
  show Z _ _ _ _ _ _ _ _ _ _ _ _ _ _ _ _ _ _ _ [(0, vR (g 0)), (1, vI a9), (2, vI b9)] []
  refine z_aload_n F dX9_isAhead_0 rfl 0 rfl ?_
  refine z_get (v := vR (g 10)) F (mI hI 0 rfl) fX9_33 rfl dX9_isAhead_1 ?_
  refine z_iload_n F dX9_isAhead_4 rfl 1 rfl ?_
  refine z_iaload (N := 24) (f := fun j => σ 10 j) F (mI hI 10 rfl) (by omega) (by omega) (by omega) dX9_isAhead_5 ?_
  refine z_aload_n F dX9_isAhead_6 rfl 0 rfl ?_
  refine z_get (v := vR (g 10)) F (mI hI 0 rfl) fX9_33 rfl dX9_isAhead_7 ?_
  refine z_iload_n F dX9_isAhead_10 rfl 2 rfl ?_
  refine z_iaload (N := 24) (f := fun j => σ 10 j) F (mI hI 10 rfl) (by omega) (by omega) (by omega) dX9_isAhead_11 ?_
  refine z_icmp_lt (tgt := 35) F dX9_isAhead_12 (by decide) (hR 10 a9) (hR 10 b9) (fun c12 => ?_) (fun c12 => ?_)
  · refine z_iconst F dX9_isAhead_35 ?_
    refine z_goto (tgt := 40) F dX9_isAhead_36 (by decide) ?_
    exact z_iret (nf_z (by omega)) F hr (Nat.le_of_ble_eq_true rfl) (Nat.le_of_ble_eq_true rfl) dX9_isAhead_40 (⟨rI (by unfold ahI; omega), rfl⟩)
  · refine z_aload_n F dX9_isAhead_15 rfl 0 rfl ?_
    refine z_get (v := vR (g 10)) F (mI hI 0 rfl) fX9_33 rfl dX9_isAhead_16 ?_
    refine z_iload_n F dX9_isAhead_19 rfl 1 rfl ?_
    refine z_iaload (N := 24) (f := fun j => σ 10 j) F (mI hI 10 rfl) (by omega) (by omega) (by omega) dX9_isAhead_20 ?_
    refine z_aload_n F dX9_isAhead_21 rfl 0 rfl ?_
    refine z_get (v := vR (g 10)) F (mI hI 0 rfl) fX9_33 rfl dX9_isAhead_22 ?_
    refine z_iload_n F dX9_isAhead_25 rfl 2 rfl ?_
    refine z_iaload (N := 24) (f := fun j => σ 10 j) F (mI hI 10 rfl) (by omega) (by omega) (by omega) dX9_isAhead_26 ?_
    refine z_icmp_ne (tgt := 39) F dX9_isAhead_27 (by decide) (hR 10 a9) (hR 10 b9) (fun c27 => ?_) (fun c27 => ?_)
    · refine z_iconst F dX9_isAhead_39 ?_
      exact z_iret (nf_z (by omega)) F hr (Nat.le_of_ble_eq_true rfl) (Nat.le_of_ble_eq_true rfl) dX9_isAhead_40 (⟨rI (by unfold ahI; omega), rfl⟩)
    · refine z_iload_n F dX9_isAhead_30 rfl 1 rfl ?_
      refine z_iload_n F dX9_isAhead_31 rfl 2 rfl ?_
      refine z_icmp_ge (tgt := 39) F dX9_isAhead_32 (by decide) (by omega) (by omega) (fun c32 => ?_) (fun c32 => ?_)
      · refine z_iconst F dX9_isAhead_39 ?_
        exact z_iret (nf_z (by omega)) F hr (Nat.le_of_ble_eq_true rfl) (Nat.le_of_ble_eq_true rfl) dX9_isAhead_40 (⟨rI (by unfold ahI; omega), rfl⟩)
      · refine z_iconst F dX9_isAhead_35 ?_
        refine z_goto (tgt := 40) F dX9_isAhead_36 (by decide) ?_
        exact z_iret (nf_z (by omega)) F hr (Nat.le_of_ble_eq_true rfl) (Nat.le_of_ble_eq_true rfl) dX9_isAhead_40 (⟨rI (by unfold ahI; omega), rfl⟩)
set_option maxRecDepth 100000 in
set_option maxHeartbeats 4000000 in
theorem mX9_behind (l : Launch) (G : GG) (N0 : Nat) (h : Hp) (g : Nat → Nat) (σ : Sg) (c9 e9 wr : Int) (hI : MI g σ h) (hR : RG σ) (v8 : 0 ≤ σ 8 0 ∧ σ 8 0 ≤ 24) (hw : wr = 0 ∨ wr = 1) (he : -1 ≤ e9 ∧ e9 < 24) (r_c9 : -2147483648 ≤ c9 ∧ c9 < 2147483648) : Ct l G N0 yX9_behind (Cond.code yX9_behind cX9_behind 6 (some FieldType.int) :: LW) ({ frames := 1, cells := 0, slots := 0, locals := 40 }) [vR (g 0), vI c9, vI e9, vI wr] h (fun r h' => r = some (vI (bhF (σ 9) (σ 12) (σ 10) c9 e9 wr (σ 8 0).toNat)) ∧ h' = h) := by
  refine ct_of rfl rfl ?_
  intro p e s m args below meth c F hr hnm
  have F : Fx p s m args meth c RX9 cX9_behind 6 G N0 (cA h s.heap.size) := F
  obtain ⟨Q, hQ⟩ : ∃ z, z = MQ below (cQc G N0 h s.heap.size (fun r h' => r = some (vI (bhF (σ 9) (σ 12) (σ 10) c9 e9 wr (σ 8 0).toNat)) ∧ h' = h)) args s 0 0 (cA h s.heap.size) := ⟨_, rfl⟩
  rw [← hQ]
  show Z _ _ _ _ _ _ _ _ _ _ _ _ _ _ _ _ _ _ _ [(0, vR (g 0)), (1, vI c9), (2, vI e9), (3, vI wr)] []
  refine z_iconst F dX9_behind_0 ?_
  refine z_istore (lv' := [(4, vI (-1)), (0, vR (g 0)), (1, vI c9), (2, vI e9), (3, vI wr)]) F dX9_behind_1 (by decide) rfl ?_
  refine z_iconst F dX9_behind_3 ?_
  refine z_istore (lv' := [(5, vI 0), (4, vI (-1)), (0, vR (g 0)), (1, vI c9), (2, vI e9), (3, vI wr)]) F dX9_behind_4 (by decide) rfl ?_
  have L6 : ∀ (fuel : Nat) (nx : Int) (i9 : Int), (0 ≤ i9) → (i9 ≤ σ 8 0) → (nx = bhF (σ 9) (σ 12) (σ 10) c9 e9 wr i9.toNat) → σ 8 0 - i9 < (fuel : Int) → Z p l e ({ frames := 1, cells := 0, slots := 0, locals := 40 }) s m args below meth c 6 G N0 (cA h s.heap.size) Q h 0 0 6 [(5, vI i9), (4, vI nx), (0, vR (g 0)), (1, vI c9), (2, vI e9), (3, vI wr)] [] := by
    intro fuel
    induction fuel with
    | zero => intro nx i9  ha hb hn hm; exact absurd hm (by omega)
    | succ fuel ih6 =>
      intro nx i9  ha hb hn hm
      have hnb := bhF_in (σ 9) (σ 12) (σ 10) c9 e9 wr i9.toNat
      refine z_iload F dX9_behind_6 0 rfl ?_
      refine z_aload_n F dX9_behind_8 rfl 2 rfl ?_
      refine z_get (v := vI (σ 8 0)) F (mI hI 0 rfl) fX9_97 rfl dX9_behind_9 ?_
      refine z_icmp_ge (tgt := 66) F dX9_behind_12 (by decide) (by omega) (hR 8 0) (fun c12 => ?_) (fun c12 => ?_)
      · refine z_iload F dX9_behind_66 1 rfl ?_
        rw [hQ]
        exact z_iret (nf_i _) F hr (Nat.le_of_ble_eq_true rfl) (Nat.le_of_ble_eq_true rfl) dX9_behind_68 (⟨rI (by rw [hn, show i9 = σ 8 0 by omega]), rfl⟩)
      · refine z_aload_n F dX9_behind_15 rfl 2 rfl ?_
        refine z_iload F dX9_behind_16 0 rfl ?_
        refine z_iload_n F dX9_behind_18 rfl 3 rfl ?_
        refine z_iload_n F dX9_behind_19 rfl 5 rfl ?_
        refine z_callV (As := [vI i9, vI c9, vI wr]) (st := []) F (mX9_belongs l G N0 h g σ i9 c9 wr hI hR (by omega) (by omega) (by omega)) cvX9_165 (mI hI 0 rfl) (fun r9 h9 => by cases h9; rfl) rfl rfl ⟨Nat.le_of_ble_eq_true rfl, Nat.le_of_ble_eq_true rfl⟩ rfl ⟨Nat.le_of_ble_eq_true rfl, Nat.le_of_ble_eq_true rfl⟩ dX9_behind_20 ?_
        rintro _ h9 ⟨rfl, hh9⟩
        rw [hh9]
        clear hh9 h9
        have q20 := blI_in (σ 9) (σ 12) i9 c9 wr
        show Z _ _ _ _ _ _ _ _ _ _ _ _ _ _ _ _ _ _ _ _ [vI (blI (σ 9) (σ 12) i9 c9 wr)]
        refine z_if_eq (tgt := 60) F dX9_behind_23 (by decide) (by omega) (fun c23 => ?_) (fun c23 => ?_)
        · refine z_iinc (lv' := [(5, vI (i9 + 1)), (4, vI nx), (0, vR (g 0)), (1, vI c9), (2, vI e9), (3, vI wr)]) F dX9_behind_60 0 rfl (by decide) rfl ?_
          refine z_goto (tgt := 6) F dX9_behind_63 (by decide) ?_
          exact ih6 nx (i9 + 1)  (by omega) (by omega) (by rw [bhF_s _ _ _ _ _ _ ha, ← hn]; first | rw [if_pos (by omega)] | rw [if_neg (by omega)]) (by omega)
        · refine z_iload_n F dX9_behind_26 rfl 4 rfl ?_
          refine z_if_lt (tgt := 40) F dX9_behind_27 (by decide) (by omega) (fun c27 => ?_) (fun c27 => ?_)
          · refine z_iload F dX9_behind_40 1 rfl ?_
            refine z_if_lt (tgt := 56) F dX9_behind_42 (by decide) (by omega) (fun c42 => ?_) (fun c42 => ?_)
            · refine z_iload F dX9_behind_56 0 rfl ?_
              refine z_istore (lv' := [(4, vI i9), (5, vI i9), (0, vR (g 0)), (1, vI c9), (2, vI e9), (3, vI wr)]) F dX9_behind_58 (by decide) rfl ?_
              refine z_iinc (lv' := [(5, vI (i9 + 1)), (4, vI i9), (0, vR (g 0)), (1, vI c9), (2, vI e9), (3, vI wr)]) F dX9_behind_60 1 rfl (by decide) rfl ?_
              refine z_goto (tgt := 6) F dX9_behind_63 (by decide) ?_
              exact ih6 i9 (i9 + 1)  (by omega) (by omega) (by rw [bhF_s _ _ _ _ _ _ ha, ← hn]; first | rw [if_pos (by omega)] | rw [if_neg (by omega)]) (by omega)
            · refine z_aload_n F dX9_behind_45 rfl 2 rfl ?_
              refine z_iload F dX9_behind_46 0 rfl ?_
              refine z_iload F dX9_behind_48 1 rfl ?_
              refine z_callV (As := [vI i9, vI nx]) (st := []) F (mX9_isAhead l G N0 h g σ i9 nx hI hR (by omega) (by omega)) cvX9_169 (mI hI 0 rfl) (fun r9 h9 => by cases h9; rfl) rfl rfl ⟨Nat.le_of_ble_eq_true rfl, Nat.le_of_ble_eq_true rfl⟩ rfl ⟨Nat.le_of_ble_eq_true rfl, Nat.le_of_ble_eq_true rfl⟩ dX9_behind_50 ?_
              rintro _ h9 ⟨rfl, hh9⟩
              rw [hh9]
              clear hh9 h9
              have q50 := ahI_in (σ 10) i9 nx
              show Z _ _ _ _ _ _ _ _ _ _ _ _ _ _ _ _ _ _ _ _ [vI (ahI (σ 10) i9 nx)]
              refine z_if_eq (tgt := 60) F dX9_behind_53 (by decide) (by omega) (fun c53 => ?_) (fun c53 => ?_)
              · refine z_iinc (lv' := [(5, vI (i9 + 1)), (4, vI nx), (0, vR (g 0)), (1, vI c9), (2, vI e9), (3, vI wr)]) F dX9_behind_60 0 rfl (by decide) rfl ?_
                refine z_goto (tgt := 6) F dX9_behind_63 (by decide) ?_
                exact ih6 nx (i9 + 1)  (by omega) (by omega) (by rw [bhF_s _ _ _ _ _ _ ha, ← hn]; first | rw [if_pos (by omega)] | rw [if_neg (by omega)]) (by omega)
              · refine z_iload F dX9_behind_56 0 rfl ?_
                refine z_istore (lv' := [(4, vI i9), (5, vI i9), (0, vR (g 0)), (1, vI c9), (2, vI e9), (3, vI wr)]) F dX9_behind_58 (by decide) rfl ?_
                refine z_iinc (lv' := [(5, vI (i9 + 1)), (4, vI i9), (0, vR (g 0)), (1, vI c9), (2, vI e9), (3, vI wr)]) F dX9_behind_60 1 rfl (by decide) rfl ?_
                refine z_goto (tgt := 6) F dX9_behind_63 (by decide) ?_
                exact ih6 i9 (i9 + 1)  (by omega) (by omega) (by rw [bhF_s _ _ _ _ _ _ ha, ← hn]; first | rw [if_pos (by omega)] | rw [if_neg (by omega)]) (by omega)
          · refine z_aload_n F dX9_behind_30 rfl 2 rfl ?_
            refine z_iload_n F dX9_behind_31 rfl 4 rfl ?_
            refine z_iload F dX9_behind_32 0 rfl ?_
            refine z_callV (As := [vI e9, vI i9]) (st := []) F (mX9_isAhead l G N0 h g σ e9 i9 hI hR (by omega) (by omega)) cvX9_169 (mI hI 0 rfl) (fun r9 h9 => by cases h9; rfl) rfl rfl ⟨Nat.le_of_ble_eq_true rfl, Nat.le_of_ble_eq_true rfl⟩ rfl ⟨Nat.le_of_ble_eq_true rfl, Nat.le_of_ble_eq_true rfl⟩ dX9_behind_34 ?_
            rintro _ h9 ⟨rfl, hh9⟩
            rw [hh9]
            clear hh9 h9
            have q34 := ahI_in (σ 10) e9 i9
            show Z _ _ _ _ _ _ _ _ _ _ _ _ _ _ _ _ _ _ _ _ [vI (ahI (σ 10) e9 i9)]
            refine z_if_eq (tgt := 60) F dX9_behind_37 (by decide) (by omega) (fun c37 => ?_) (fun c37 => ?_)
            · refine z_iinc (lv' := [(5, vI (i9 + 1)), (4, vI nx), (0, vR (g 0)), (1, vI c9), (2, vI e9), (3, vI wr)]) F dX9_behind_60 0 rfl (by decide) rfl ?_
              refine z_goto (tgt := 6) F dX9_behind_63 (by decide) ?_
              exact ih6 nx (i9 + 1)  (by omega) (by omega) (by rw [bhF_s _ _ _ _ _ _ ha, ← hn]; first | rw [if_pos (by omega)] | rw [if_neg (by omega)]) (by omega)
            · refine z_iload F dX9_behind_40 1 rfl ?_
              refine z_if_lt (tgt := 56) F dX9_behind_42 (by decide) (by omega) (fun c42 => ?_) (fun c42 => ?_)
              · refine z_iload F dX9_behind_56 0 rfl ?_
                refine z_istore (lv' := [(4, vI i9), (5, vI i9), (0, vR (g 0)), (1, vI c9), (2, vI e9), (3, vI wr)]) F dX9_behind_58 (by decide) rfl ?_
                refine z_iinc (lv' := [(5, vI (i9 + 1)), (4, vI i9), (0, vR (g 0)), (1, vI c9), (2, vI e9), (3, vI wr)]) F dX9_behind_60 1 rfl (by decide) rfl ?_
                refine z_goto (tgt := 6) F dX9_behind_63 (by decide) ?_
                exact ih6 i9 (i9 + 1)  (by omega) (by omega) (by rw [bhF_s _ _ _ _ _ _ ha, ← hn]; first | rw [if_pos (by omega)] | rw [if_neg (by omega)]) (by omega)
              · refine z_aload_n F dX9_behind_45 rfl 2 rfl ?_
                refine z_iload F dX9_behind_46 0 rfl ?_
                refine z_iload F dX9_behind_48 1 rfl ?_
                refine z_callV (As := [vI i9, vI nx]) (st := []) F (mX9_isAhead l G N0 h g σ i9 nx hI hR (by omega) (by omega)) cvX9_169 (mI hI 0 rfl) (fun r9 h9 => by cases h9; rfl) rfl rfl ⟨Nat.le_of_ble_eq_true rfl, Nat.le_of_ble_eq_true rfl⟩ rfl ⟨Nat.le_of_ble_eq_true rfl, Nat.le_of_ble_eq_true rfl⟩ dX9_behind_50 ?_
                rintro _ h9 ⟨rfl, hh9⟩
                rw [hh9]
                clear hh9 h9
                have q50 := ahI_in (σ 10) i9 nx
                show Z _ _ _ _ _ _ _ _ _ _ _ _ _ _ _ _ _ _ _ _ [vI (ahI (σ 10) i9 nx)]
                refine z_if_eq (tgt := 60) F dX9_behind_53 (by decide) (by omega) (fun c53 => ?_) (fun c53 => ?_)
                · refine z_iinc (lv' := [(5, vI (i9 + 1)), (4, vI nx), (0, vR (g 0)), (1, vI c9), (2, vI e9), (3, vI wr)]) F dX9_behind_60 0 rfl (by decide) rfl ?_
                  refine z_goto (tgt := 6) F dX9_behind_63 (by decide) ?_
                  exact ih6 nx (i9 + 1)  (by omega) (by omega) (by rw [bhF_s _ _ _ _ _ _ ha, ← hn]; first | rw [if_pos (by omega)] | rw [if_neg (by omega)]) (by omega)
                · refine z_iload F dX9_behind_56 0 rfl ?_
                  refine z_istore (lv' := [(4, vI i9), (5, vI i9), (0, vR (g 0)), (1, vI c9), (2, vI e9), (3, vI wr)]) F dX9_behind_58 (by decide) rfl ?_
                  refine z_iinc (lv' := [(5, vI (i9 + 1)), (4, vI i9), (0, vR (g 0)), (1, vI c9), (2, vI e9), (3, vI wr)]) F dX9_behind_60 1 rfl (by decide) rfl ?_
                  refine z_goto (tgt := 6) F dX9_behind_63 (by decide) ?_
                  exact ih6 i9 (i9 + 1)  (by omega) (by omega) (by rw [bhF_s _ _ _ _ _ _ ha, ← hn]; first | rw [if_pos (by omega)] | rw [if_neg (by omega)]) (by omega)
  exact L6 ((σ 8 0 - 0 : Int).toNat + 1) (-1) 0  (by omega) (by omega) (rfl) (by omega)
set_option maxRecDepth 100000 in
set_option maxHeartbeats 4000000 in
theorem mX9_aheadOf (l : Launch) (G : GG) (N0 : Nat) (h : Hp) (g : Nat → Nat) (σ : Sg) (c9 e9 wr : Int) (hI : MI g σ h) (hR : RG σ) (v8 : 0 ≤ σ 8 0 ∧ σ 8 0 ≤ 24) (hw : wr = 0 ∨ wr = 1) (he : 0 ≤ e9 ∧ e9 < 24) (r_c9 : -2147483648 ≤ c9 ∧ c9 < 2147483648) : Ct l G N0 yX9_aheadOf (Cond.code yX9_aheadOf cX9_aheadOf 6 (some FieldType.int) :: LW) ({ frames := 1, cells := 0, slots := 0, locals := 40 }) [vR (g 0), vI c9, vI e9, vI wr] h (fun r h' => r = some (vI (ahS (σ 9) (σ 12) (σ 10) (σ 14) c9 e9 wr (σ 8 0).toNat)) ∧ h' = h) := by
  refine ct_of rfl rfl ?_
  intro p e s m args below meth c F hr hnm
  have F : Fx p s m args meth c RX9 cX9_aheadOf 6 G N0 (cA h s.heap.size) := F
  obtain ⟨Q, hQ⟩ : ∃ z, z = MQ below (cQc G N0 h s.heap.size (fun r h' => r = some (vI (ahS (σ 9) (σ 12) (σ 10) (σ 14) c9 e9 wr (σ 8 0).toNat)) ∧ h' = h)) args s 0 0 (cA h s.heap.size) := ⟨_, rfl⟩
  rw [← hQ]
  show Z _ _ _ _ _ _ _ _ _ _ _ _ _ _ _ _ _ _ _ [(0, vR (g 0)), (1, vI c9), (2, vI e9), (3, vI wr)] []
  refine z_iconst F dX9_aheadOf_0 ?_
  refine z_istore (lv' := [(4, vI 0), (0, vR (g 0)), (1, vI c9), (2, vI e9), (3, vI wr)]) F dX9_aheadOf_1 (by decide) rfl ?_
  refine z_iconst F dX9_aheadOf_3 ?_
  refine z_istore (lv' := [(5, vI 0), (4, vI 0), (0, vR (g 0)), (1, vI c9), (2, vI e9), (3, vI wr)]) F dX9_aheadOf_4 (by decide) rfl ?_
  have L6 : ∀ (fuel : Nat) (sm : Int) (i9 : Int), (0 ≤ i9) → (i9 ≤ σ 8 0) → (sm = ahS (σ 9) (σ 12) (σ 10) (σ 14) c9 e9 wr i9.toNat) → σ 8 0 - i9 < (fuel : Int) → Z p l e ({ frames := 1, cells := 0, slots := 0, locals := 40 }) s m args below meth c 6 G N0 (cA h s.heap.size) Q h 0 0 6 [(5, vI i9), (4, vI sm), (0, vR (g 0)), (1, vI c9), (2, vI e9), (3, vI wr)] [] := by
    intro fuel
    induction fuel with
    | zero => intro sm i9  ha hb hn hm; exact absurd hm (by omega)
    | succ fuel ih6 =>
      intro sm i9  ha hb hn hm
      refine z_iload F dX9_aheadOf_6 0 rfl ?_
      refine z_aload_n F dX9_aheadOf_8 rfl 2 rfl ?_
      refine z_get (v := vI (σ 8 0)) F (mI hI 0 rfl) fX9_97 rfl dX9_aheadOf_9 ?_
      refine z_icmp_ge (tgt := 58) F dX9_aheadOf_12 (by decide) (by omega) (hR 8 0) (fun c12 => ?_) (fun c12 => ?_)
      · refine z_iload F dX9_aheadOf_58 1 rfl ?_
        rw [hQ]
        exact z_iret (nf_i _) F hr (Nat.le_of_ble_eq_true rfl) (Nat.le_of_ble_eq_true rfl) dX9_aheadOf_60 (⟨rI (by rw [hn, show i9 = σ 8 0 by omega]), rfl⟩)
      · refine z_iload F dX9_aheadOf_15 1 rfl ?_
        refine z_aload_n F dX9_aheadOf_17 rfl 2 rfl ?_
        refine z_iload F dX9_aheadOf_18 0 rfl ?_
        refine z_iload_n F dX9_aheadOf_20 rfl 3 rfl ?_
        refine z_iload_n F dX9_aheadOf_21 rfl 5 rfl ?_
        refine z_callV (As := [vI i9, vI c9, vI wr]) (st := [vI sm]) F (mX9_belongs l G N0 h g σ i9 c9 wr hI hR (by omega) (by omega) (by omega)) cvX9_165 (mI hI 0 rfl) (fun r9 h9 => by cases h9; rfl) rfl rfl ⟨Nat.le_of_ble_eq_true rfl, Nat.le_of_ble_eq_true rfl⟩ rfl ⟨Nat.le_of_ble_eq_true rfl, Nat.le_of_ble_eq_true rfl⟩ dX9_aheadOf_22 ?_
        rintro _ h9 ⟨rfl, hh9⟩
        rw [hh9]
        clear hh9 h9
        have q22 := blI_in (σ 9) (σ 12) i9 c9 wr
        show Z _ _ _ _ _ _ _ _ _ _ _ _ _ _ _ _ _ _ _ _ [vI (blI (σ 9) (σ 12) i9 c9 wr), vI sm]
        refine z_if_eq (tgt := 48) F dX9_aheadOf_25 (by decide) (by omega) (fun c25 => ?_) (fun c25 => ?_)
        · refine z_iconst F dX9_aheadOf_48 ?_
          refine z_iadd F dX9_aheadOf_49 ?_
          refine z_istore (lv' := [(4, vI (sm + 0)), (5, vI i9), (0, vR (g 0)), (1, vI c9), (2, vI e9), (3, vI wr)]) F dX9_aheadOf_50 (by decide) rfl ?_
          refine z_iinc (lv' := [(5, vI (i9 + 1)), (4, vI (sm + 0)), (0, vR (g 0)), (1, vI c9), (2, vI e9), (3, vI wr)]) F dX9_aheadOf_52 1 rfl (by decide) rfl ?_
          refine z_goto (tgt := 6) F dX9_aheadOf_55 (by decide) ?_
          exact ih6 (sm + 0) (i9 + 1)  (by omega) (by omega) (by rw [ahS_s _ _ _ _ _ _ _ ha, ← hn]; first | rw [if_pos (by omega)] | rw [if_neg (by omega)]) (by omega)
        · refine z_aload_n F dX9_aheadOf_28 rfl 2 rfl ?_
          refine z_iload F dX9_aheadOf_29 0 rfl ?_
          refine z_iload_n F dX9_aheadOf_31 rfl 4 rfl ?_
          refine z_callV (As := [vI i9, vI e9]) (st := [vI sm]) F (mX9_isAhead l G N0 h g σ i9 e9 hI hR (by omega) (by omega)) cvX9_169 (mI hI 0 rfl) (fun r9 h9 => by cases h9; rfl) rfl rfl ⟨Nat.le_of_ble_eq_true rfl, Nat.le_of_ble_eq_true rfl⟩ rfl ⟨Nat.le_of_ble_eq_true rfl, Nat.le_of_ble_eq_true rfl⟩ dX9_aheadOf_32 ?_
          rintro _ h9 ⟨rfl, hh9⟩
          rw [hh9]
          clear hh9 h9
          have q32 := ahI_in (σ 10) i9 e9
          show Z _ _ _ _ _ _ _ _ _ _ _ _ _ _ _ _ _ _ _ _ [vI (ahI (σ 10) i9 e9), vI sm]
          refine z_if_eq (tgt := 48) F dX9_aheadOf_35 (by decide) (by omega) (fun c35 => ?_) (fun c35 => ?_)
          · refine z_iconst F dX9_aheadOf_48 ?_
            refine z_iadd F dX9_aheadOf_49 ?_
            refine z_istore (lv' := [(4, vI (sm + 0)), (5, vI i9), (0, vR (g 0)), (1, vI c9), (2, vI e9), (3, vI wr)]) F dX9_aheadOf_50 (by decide) rfl ?_
            refine z_iinc (lv' := [(5, vI (i9 + 1)), (4, vI (sm + 0)), (0, vR (g 0)), (1, vI c9), (2, vI e9), (3, vI wr)]) F dX9_aheadOf_52 1 rfl (by decide) rfl ?_
            refine z_goto (tgt := 6) F dX9_aheadOf_55 (by decide) ?_
            exact ih6 (sm + 0) (i9 + 1)  (by omega) (by omega) (by rw [ahS_s _ _ _ _ _ _ _ ha, ← hn]; first | rw [if_pos (by omega)] | rw [if_neg (by omega)]) (by omega)
          · refine z_aload_n F dX9_aheadOf_38 rfl 2 rfl ?_
            refine z_get (v := vR (g 14)) F (mI hI 0 rfl) fX9_45 rfl dX9_aheadOf_39 ?_
            refine z_iload F dX9_aheadOf_42 0 rfl ?_
            refine z_iaload (N := 24) (f := fun j => σ 14 j) F (mI hI 14 rfl) (by omega) (by omega) (by omega) dX9_aheadOf_44 ?_
            refine z_goto (tgt := 49) F dX9_aheadOf_45 (by decide) ?_
            refine z_iadd F dX9_aheadOf_49 ?_
            refine z_istore (lv' := [(4, vI (sm + (σ 14 i9))), (5, vI i9), (0, vR (g 0)), (1, vI c9), (2, vI e9), (3, vI wr)]) F dX9_aheadOf_50 (by decide) rfl ?_
            refine z_iinc (lv' := [(5, vI (i9 + 1)), (4, vI (sm + (σ 14 i9))), (0, vR (g 0)), (1, vI c9), (2, vI e9), (3, vI wr)]) F dX9_aheadOf_52 1 rfl (by decide) rfl ?_
            refine z_goto (tgt := 6) F dX9_aheadOf_55 (by decide) ?_
            exact ih6 (sm + (σ 14 i9)) (i9 + 1)  (by omega) (by omega) (by rw [ahS_s _ _ _ _ _ _ _ ha, ← hn]; first | rw [if_pos (by omega)] | rw [if_neg (by omega)]) (by omega)
  exact L6 ((σ 8 0 - 0 : Int).toNat + 1) 0 0  (by omega) (by omega) (rfl) (by omega)
set_option maxRecDepth 100000 in
set_option maxHeartbeats 4000000 in
theorem mX9_roundedOf (l : Launch) (G : GG) (N0 : Nat) (h : Hp) (g : Nat → Nat) (σ : Sg) (c9 e9 wr : Int) (hI : MI g σ h) (hR : RG σ) (v8 : 0 ≤ σ 8 0 ∧ σ 8 0 ≤ 24) (hw : wr = 0 ∨ wr = 1) (hc : 0 ≤ c9 ∧ c9 < 5) (hu : 1 ≤ σ 3 c9 ∧ σ 3 c9 ≤ 60) (he : 0 ≤ e9 ∧ e9 < σ 8 0) (hf : ∀ x : Int, 0 ≤ x → x < σ 8 0 → 0 ≤ σ 14 x ∧ σ 14 x ≤ 180000) : Ct l G N0 yX9_roundedOf (Cond.code yX9_roundedOf cX9_roundedOf 5 (some FieldType.int) :: LW) ({ frames := 2, cells := 0, slots := 0, locals := 70 }) [vR (g 0), vI c9, vI e9, vI wr] h (fun r h' => r = some (vI (rdO (σ 9) (σ 12) (σ 10) (σ 14) (σ 5 c9) (σ 3 c9) (σ 4 c9) c9 e9 wr (σ 8 0).toNat)) ∧ h' = h) := by
  refine ct_of rfl rfl ?_
  intro p e s m args below meth c F hr hnm
  have F : Fx p s m args meth c RX9 cX9_roundedOf 5 G N0 (cA h s.heap.size) := F
  have hfe := hf e9 he.1 he.2
  have hsi := ahS_in (ow := σ 9) (sa := σ 12) (st := σ 10) (f := σ 14) (c := c9) (e := e9) (wr := wr) (M := 180000) (N := (σ 8 0).toNat) (by decide) (fun x q1 q2 => hf x q1 (by omega)) (σ 8 0).toNat (Nat.le_refl _)
  show Z _ _ _ _ _ _ _ _ _ _ _ _ _ _ _ _ _ _ _ [(0, vR (g 0)), (1, vI c9), (2, vI e9), (3, vI wr)] []
  refine z_aload_n F dX9_roundedOf_0 rfl 0 rfl ?_
  refine z_get (v := vR (g 5)) F (mI hI 0 rfl) fX9_21 rfl dX9_roundedOf_1 ?_
  refine z_iload_n F dX9_roundedOf_4 rfl 1 rfl ?_
  refine z_caload (N := 5) (f := fun j => σ 5 j) F (mI hI 5 rfl) (by omega) (by omega) (by omega) dX9_roundedOf_5 ?_
  refine z_bipush F dX9_roundedOf_6 (by decide) ?_
  refine z_icmp_ne (tgt := 23) F dX9_roundedOf_8 (by decide) (hR 5 c9) (by decide) (fun c8 => ?_) (fun c8 => ?_)
  · refine z_aload_n F dX9_roundedOf_23 rfl 0 rfl ?_
    refine z_iload_n F dX9_roundedOf_24 rfl 1 rfl ?_
    refine z_iload_n F dX9_roundedOf_25 rfl 2 rfl ?_
    refine z_iload_n F dX9_roundedOf_26 rfl 3 rfl ?_
    refine z_callV (As := [vI c9, vI e9, vI wr]) (st := []) F (mX9_aheadOf l G N0 h g σ c9 e9 wr hI hR (show 0 ≤ σ 8 0 ∧ σ 8 0 ≤ 24 from by omega) (by omega) (by omega) (by omega)) cvX9_176 (mI hI 0 rfl) (fun r9 h9 => by cases h9; rfl) rfl rfl ⟨Nat.le_of_ble_eq_true rfl, Nat.le_of_ble_eq_true rfl⟩ rfl ⟨Nat.le_of_ble_eq_true rfl, Nat.le_of_ble_eq_true rfl⟩ dX9_roundedOf_27 ?_
    rintro _ h9 ⟨rfl, hh9⟩
    rw [hh9]
    clear hh9 h9
    show Z _ _ _ _ _ _ _ _ _ _ _ _ _ _ _ _ _ _ _ _ [vI (ahS (σ 9) (σ 12) (σ 10) (σ 14) c9 e9 wr (σ 8 0).toNat)]
    refine z_istore (lv' := [(4, vI (ahS (σ 9) (σ 12) (σ 10) (σ 14) c9 e9 wr (σ 8 0).toNat)), (0, vR (g 0)), (1, vI c9), (2, vI e9), (3, vI wr)]) F dX9_roundedOf_30 (by decide) rfl ?_
    refine z_aload_n F dX9_roundedOf_32 rfl 1 rfl ?_
    refine z_iload_n F dX9_roundedOf_33 rfl 2 rfl ?_
    refine z_iload F dX9_roundedOf_34 0 rfl ?_
    refine z_aload_n F dX9_roundedOf_36 rfl 1 rfl ?_
    refine z_get (v := vR (g 14)) F (mI hI 0 rfl) fX9_45 rfl dX9_roundedOf_37 ?_
    refine z_iload_n F dX9_roundedOf_40 rfl 3 rfl ?_
    refine z_iaload (N := 24) (f := fun j => σ 14 j) F (mI hI 14 rfl) (by omega) (by omega) (by omega) dX9_roundedOf_41 ?_
    refine z_iadd F dX9_roundedOf_42 ?_
    refine z_callV (As := [vI c9, vI ((ahS (σ 9) (σ 12) (σ 10) (σ 14) c9 e9 wr (σ 8 0).toNat) + (σ 14 e9))]) (st := []) F (mX9_round l G N0 h g σ c9 ((ahS (σ 9) (σ 12) (σ 10) (σ 14) c9 e9 wr (σ 8 0).toNat) + (σ 14 e9)) hI hR (by omega) (show 1 ≤ σ 3 c9 ∧ σ 3 c9 ≤ 60 from by omega) (by omega)) cvX9_172 (mI hI 0 rfl) (fun r9 h9 => by cases h9; rfl) rfl rfl ⟨Nat.le_of_ble_eq_true rfl, Nat.le_of_ble_eq_true rfl⟩ rfl ⟨Nat.le_of_ble_eq_true rfl, Nat.le_of_ble_eq_true rfl⟩ dX9_roundedOf_43 ?_
    rintro _ h9 ⟨rfl, hh9⟩
    rw [hh9]
    clear hh9 h9
    show Z _ _ _ _ _ _ _ _ _ _ _ _ _ _ _ _ _ _ _ _ [vI (rndS (σ 3 c9) (σ 4 c9) ((ahS (σ 9) (σ 12) (σ 10) (σ 14) c9 e9 wr (σ 8 0).toNat) + (σ 14 e9)))]
    refine z_aload_n F dX9_roundedOf_46 rfl 1 rfl ?_
    refine z_iload_n F dX9_roundedOf_47 rfl 2 rfl ?_
    refine z_iload F dX9_roundedOf_48 0 rfl ?_
    refine z_callV (As := [vI c9, vI (ahS (σ 9) (σ 12) (σ 10) (σ 14) c9 e9 wr (σ 8 0).toNat)]) (st := [vI (rndS (σ 3 c9) (σ 4 c9) ((ahS (σ 9) (σ 12) (σ 10) (σ 14) c9 e9 wr (σ 8 0).toNat) + (σ 14 e9)))]) F (mX9_round l G N0 h g σ c9 (ahS (σ 9) (σ 12) (σ 10) (σ 14) c9 e9 wr (σ 8 0).toNat) hI hR (by omega) (show 1 ≤ σ 3 c9 ∧ σ 3 c9 ≤ 60 from by omega) (by omega)) cvX9_172 (mI hI 0 rfl) (fun r9 h9 => by cases h9; rfl) rfl rfl ⟨Nat.le_of_ble_eq_true rfl, Nat.le_of_ble_eq_true rfl⟩ rfl ⟨Nat.le_of_ble_eq_true rfl, Nat.le_of_ble_eq_true rfl⟩ dX9_roundedOf_50 ?_
    rintro _ h9 ⟨rfl, hh9⟩
    rw [hh9]
    clear hh9 h9
    show Z _ _ _ _ _ _ _ _ _ _ _ _ _ _ _ _ _ _ _ _ [vI (rndS (σ 3 c9) (σ 4 c9) (ahS (σ 9) (σ 12) (σ 10) (σ 14) c9 e9 wr (σ 8 0).toNat)), vI (rndS (σ 3 c9) (σ 4 c9) ((ahS (σ 9) (σ 12) (σ 10) (σ 14) c9 e9 wr (σ 8 0).toNat) + (σ 14 e9)))]
    refine z_isub F dX9_roundedOf_53 ?_
    exact z_iret (nf_i _) F hr (Nat.le_of_ble_eq_true rfl) (Nat.le_of_ble_eq_true rfl) dX9_roundedOf_54 (⟨rI (by unfold rdO; first | rw [if_pos (by omega)] | rw [if_neg (by omega)]), rfl⟩)
  · refine z_aload_n F dX9_roundedOf_11 rfl 0 rfl ?_
    refine z_iload_n F dX9_roundedOf_12 rfl 1 rfl ?_
    refine z_aload_n F dX9_roundedOf_13 rfl 0 rfl ?_
    refine z_get (v := vR (g 14)) F (mI hI 0 rfl) fX9_45 rfl dX9_roundedOf_14 ?_
    refine z_iload_n F dX9_roundedOf_17 rfl 2 rfl ?_
    refine z_iaload (N := 24) (f := fun j => σ 14 j) F (mI hI 14 rfl) (by omega) (by omega) (by omega) dX9_roundedOf_18 ?_
    refine z_callV (As := [vI c9, vI (σ 14 e9)]) (st := []) F (mX9_round l G N0 h g σ c9 (σ 14 e9) hI hR (by omega) (show 1 ≤ σ 3 c9 ∧ σ 3 c9 ≤ 60 from by omega) (by omega)) cvX9_172 (mI hI 0 rfl) (fun r9 h9 => by cases h9; rfl) rfl rfl ⟨Nat.le_of_ble_eq_true rfl, Nat.le_of_ble_eq_true rfl⟩ rfl ⟨Nat.le_of_ble_eq_true rfl, Nat.le_of_ble_eq_true rfl⟩ dX9_roundedOf_19 ?_
    rintro _ h9 ⟨rfl, hh9⟩
    rw [hh9]
    clear hh9 h9
    show Z _ _ _ _ _ _ _ _ _ _ _ _ _ _ _ _ _ _ _ _ [vI (rndS (σ 3 c9) (σ 4 c9) (σ 14 e9))]
    exact z_iret (nf_i _) F hr (Nat.le_of_ble_eq_true rfl) (Nat.le_of_ble_eq_true rfl) dX9_roundedOf_22 (⟨rI (by unfold rdO; first | rw [if_pos (by omega)] | rw [if_neg (by omega)]), rfl⟩)
set_option maxRecDepth 100000 in
set_option maxHeartbeats 4000000 in
theorem mX9_rounded (l : Launch) (G : GG) (N0 : Nat) (h : Hp) (g : Nat → Nat) (σ : Sg) (e9 : Int) (hI : MI g σ h) (hR : RG σ) (hV : MV σ) (r_e9 : -2147483648 ≤ e9 ∧ e9 < 2147483648) : Ct l G N0 yX9_rounded (Cond.code yX9_rounded cX9_rounded 2 (some FieldType.int) :: LW) ({ frames := 4, cells := 0, slots := 0, locals := 150 }) [vR (g 0), vI e9] h (fun r h' => ((¬ (0 ≤ e9 ∧ e9 < σ 8 0)) ∧ r = some (vI 0) ∧ MI g (su σ 30 0 1) h') ∨ (¬ (¬ (0 ≤ e9 ∧ e9 < σ 8 0)) ∧ (¬ (σ 12 e9 = 114 ∨ σ 12 e9 = 101)) ∧ r = some (vI 0) ∧ MI g (su σ 30 0 2) h') ∨ (¬ (¬ (0 ≤ e9 ∧ e9 < σ 8 0)) ∧ ¬ (¬ (σ 12 e9 = 114 ∨ σ 12 e9 = 101)) ∧ (σ 5 (σ 9 e9) = 100) ∧ r = some (vI 0) ∧ MI g (su σ 30 0 3) h') ∨ (¬ (¬ (0 ≤ e9 ∧ e9 < σ 8 0)) ∧ ¬ (¬ (σ 12 e9 = 114 ∨ σ 12 e9 = 101)) ∧ ¬ (σ 5 (σ 9 e9) = 100) ∧ r = some (vI (rdO (σ 9) (σ 12) (σ 10) (secS σ) (σ 5 (σ 9 e9)) (σ 3 (σ 9 e9)) (σ 4 (σ 9 e9)) (σ 9 e9) e9 1 (σ 8 0).toNat)) ∧ ∃ s d : Int → Int, MI g (sw (sw (su σ 30 0 0) 14 s) 15 d) h' ∧ (∀ j, -2147483648 ≤ s j ∧ s j < 2147483648) ∧ (∀ j, -2147483648 ≤ d j ∧ d j < 2147483648))) := by
  refine ct_of rfl rfl ?_
  intro p e s m args below meth c F hr hnm
  have F : Fx p s m args meth c RX9 cX9_rounded 2 G N0 (cA h s.heap.size) := F
  obtain ⟨v0, v1, v2, v8, v16, v24, v29, vC, vE, vL, vK, vT⟩ := id hV
  have E_e9 := vE e9
  have C_o := vC (σ 9 e9)
  show Z _ _ _ _ _ _ _ _ _ _ _ _ _ _ _ _ _ _ _ [(0, vR (g 0)), (1, vI e9)] []
  refine z_aload_n F dX9_rounded_0 rfl 0 rfl ?_
  refine z_aload_n F dX9_rounded_1 rfl 0 rfl ?_
  refine z_iload_n F dX9_rounded_2 rfl 1 rfl ?_
  refine z_callV (As := [vI e9]) (st := [vR (g 0)]) F (mX9_isNone l G N0 h g σ e9 hI hR (by omega) (by omega)) cvX9_131 (mI hI 0 rfl) (fun r9 h9 => by cases h9; rfl) rfl rfl ⟨Nat.le_of_ble_eq_true rfl, Nat.le_of_ble_eq_true rfl⟩ rfl ⟨Nat.le_of_ble_eq_true rfl, Nat.le_of_ble_eq_true rfl⟩ dX9_rounded_3 ?_
  rintro _ h9 ⟨rfl, hh9⟩
  rw [hh9]
  clear hh9 h9
  generalize ex1 : (if 0 ≤ e9 ∧ e9 < σ 8 0 then (0 : Int) else 1) = x1
  show Z _ _ _ _ _ _ _ _ _ _ _ _ _ _ _ _ _ _ _ _ [vI x1, vR (g 0)]
  refine z_if_eq (tgt := 13) F dX9_rounded_6 (by decide) (by omega) (fun c6 => ?_) (fun c6 => ?_)
  · refine z_aload_n F dX9_rounded_13 rfl 0 rfl ?_
    refine z_iload_n F dX9_rounded_14 rfl 1 rfl ?_
    refine z_callV (As := [vI e9]) (st := [vR (g 0)]) F (mX9_isOpen l G N0 h g σ e9 hI hR (by omega)) cvX9_134 (mI hI 0 rfl) (fun r9 h9 => by cases h9; rfl) rfl rfl ⟨Nat.le_of_ble_eq_true rfl, Nat.le_of_ble_eq_true rfl⟩ rfl ⟨Nat.le_of_ble_eq_true rfl, Nat.le_of_ble_eq_true rfl⟩ dX9_rounded_15 ?_
    rintro _ h9 ⟨rfl, hh9⟩
    rw [hh9]
    clear hh9 h9
    generalize ex2 : (if σ 12 e9 = 114 ∨ σ 12 e9 = 101 then (1 : Int) else 0) = x2
    show Z _ _ _ _ _ _ _ _ _ _ _ _ _ _ _ _ _ _ _ _ [vI x2, vR (g 0)]
    refine z_if_ne (tgt := 25) F dX9_rounded_18 (by decide) (by omega) (fun c18 => ?_) (fun c18 => ?_)
    · refine z_aload_n F dX9_rounded_25 rfl 0 rfl ?_
      refine z_get (v := vR (g 5)) F (mI hI 0 rfl) fX9_21 rfl dX9_rounded_26 ?_
      refine z_aload_n F dX9_rounded_29 rfl 0 rfl ?_
      refine z_get (v := vR (g 9)) F (mI hI 0 rfl) fX9_30 rfl dX9_rounded_30 ?_
      refine z_iload_n F dX9_rounded_33 rfl 1 rfl ?_
      refine z_iaload (N := 24) (f := fun j => σ 9 j) F (mI hI 9 rfl) (by omega) (by omega) (by omega) dX9_rounded_34 ?_
      refine z_caload (N := 5) (f := fun j => σ 5 j) F (mI hI 5 rfl) (by omega) (by omega) (by omega) dX9_rounded_35 ?_
      refine z_bipush F dX9_rounded_36 (by decide) ?_
      refine z_icmp_ne (tgt := 45) F dX9_rounded_38 (by decide) (hR 5 (σ 9 e9)) (by decide) (fun c38 => ?_) (fun c38 => ?_)
      · refine z_iconst F dX9_rounded_45 ?_
        refine z_callV (As := [vI 0]) (st := []) F (mX9_fails l G N0 h g σ 0 hI hR (by decide)) cvX9_107 (mI hI 0 rfl) (fun r9 h9 => by cases h9; rfl) rfl rfl ⟨Nat.le_of_ble_eq_true rfl, Nat.le_of_ble_eq_true rfl⟩ rfl ⟨Nat.le_of_ble_eq_true rfl, Nat.le_of_ble_eq_true rfl⟩ dX9_rounded_46 ?_
        rintro _ h3 ⟨rfl, Ih3⟩
        rw [if_neg (by decide)]
        show Z _ _ _ _ _ _ _ _ _ _ _ _ _ _ _ _ _ _ _ _ [vI 0]
        refine z_if_eq (tgt := 54) F dX9_rounded_49 (by decide) (by decide) (fun c49 => ?_) (fun c49 => ?_)
        · refine z_aload_n F dX9_rounded_54 rfl 0 rfl ?_
          refine z_callV (As := []) (st := []) F (mX9_counts l G N0 h3 g (su σ 30 0 0) Ih3 (rg_su hR (by decide)) hV) cvX9_148 (mI Ih3 0 rfl) (fun r9 h9 => by cases h9; rfl) rfl rfl ⟨Nat.le_of_ble_eq_true rfl, Nat.le_of_ble_eq_true rfl⟩ rfl ⟨Nat.le_of_ble_eq_true rfl, Nat.le_of_ble_eq_true rfl⟩ dX9_rounded_55 ?_
          rintro _ h4 ⟨rfl, sh4, dh4, Ih4, Rsh4, Rdh4, Sh4, Dh4⟩
          show Z _ _ _ _ _ _ _ _ _ _ _ _ _ _ _ _ _ _ _ _ []
          simp only [secS_c, dayS_c] at Sh4 Dh4
          have nh4 : ∀ e, 0 ≤ e → e < σ 8 0 → sh4 e = secS σ e := Sh4
          have oh4 : ∀ e dd, 0 ≤ e → e < σ 8 0 → 0 ≤ dd → dd < 5 → dh4 (5 * e + dd) = dayS σ e dd := Dh4
          have hf9 : ∀ x : Int, 0 ≤ x → x < σ 8 0 → 0 ≤ sh4 x ∧ sh4 x ≤ 180000 := fun x q1 q2 => by rw [nh4 x q1 q2]; exact secS_in hV q1 q2
          refine z_aload_n F dX9_rounded_58 rfl 0 rfl ?_
          refine z_aload_n F dX9_rounded_59 rfl 0 rfl ?_
          refine z_get (v := vR (g 9)) F (mI Ih4 0 rfl) fX9_30 rfl dX9_rounded_60 ?_
          refine z_iload_n F dX9_rounded_63 rfl 1 rfl ?_
          refine z_iaload (N := 24) (f := fun j => σ 9 j) F (mI Ih4 9 rfl) (by omega) (by omega) (by omega) dX9_rounded_64 ?_
          refine z_iload_n F dX9_rounded_65 rfl 1 rfl ?_
          refine z_iconst F dX9_rounded_66 ?_
          refine z_callV (As := [vI (σ 9 e9), vI e9, vI 1]) (st := []) F (mX9_roundedOf l G N0 h4 g (sw (sw (su σ 30 0 0) 14 sh4) 15 dh4) (σ 9 e9) e9 1 Ih4 (rg_sw (rg_sw (rg_su hR (by decide)) Rsh4) Rdh4) (show 0 ≤ σ 8 0 ∧ σ 8 0 ≤ 24 from by omega) (by omega) (by omega) (show 1 ≤ σ 3 (σ 9 e9) ∧ σ 3 (σ 9 e9) ≤ 60 from by omega) (show 0 ≤ e9 ∧ e9 < σ 8 0 from by omega) hf9) cvX9_180 (mI Ih4 0 rfl) (fun r9 h9 => by cases h9; rfl) rfl rfl ⟨Nat.le_of_ble_eq_true rfl, Nat.le_of_ble_eq_true rfl⟩ rfl ⟨Nat.le_of_ble_eq_true rfl, Nat.le_of_ble_eq_true rfl⟩ dX9_rounded_67 ?_
          rintro _ h9 ⟨rfl, hh9⟩
          rw [hh9]
          clear hh9 h9
          show Z _ _ _ _ _ _ _ _ _ _ _ _ _ _ _ _ _ _ _ _ [vI (rdO (σ 9) (σ 12) (σ 10) sh4 (σ 5 (σ 9 e9)) (σ 3 (σ 9 e9)) (σ 4 (σ 9 e9)) (σ 9 e9) e9 1 (σ 8 0).toNat)]
          exact z_iret (nf_i _) F hr (Nat.le_of_ble_eq_true rfl) (Nat.le_of_ble_eq_true rfl) dX9_rounded_70 (Or.inr (Or.inr (Or.inr (⟨by omega, by omega, by omega, rI (rdO_c (fun x q1 q2 => nh4 x q1 (by omega)) (by omega) (by omega)), sh4, dh4, Ih4, Rsh4, Rdh4⟩))))
        · exact absurd c49 (by decide)
      · refine z_iconst F dX9_rounded_41 ?_
        refine z_goto (tgt := 46) F dX9_rounded_42 (by decide) ?_
        refine z_callV (As := [vI 3]) (st := []) F (mX9_fails l G N0 h g σ 3 hI hR (by decide)) cvX9_107 (mI hI 0 rfl) (fun r9 h9 => by cases h9; rfl) rfl rfl ⟨Nat.le_of_ble_eq_true rfl, Nat.le_of_ble_eq_true rfl⟩ rfl ⟨Nat.le_of_ble_eq_true rfl, Nat.le_of_ble_eq_true rfl⟩ dX9_rounded_46 ?_
        rintro _ h5 ⟨rfl, Ih5⟩
        rw [if_pos (by decide)]
        show Z _ _ _ _ _ _ _ _ _ _ _ _ _ _ _ _ _ _ _ _ [vI 1]
        refine z_if_eq (tgt := 54) F dX9_rounded_49 (by decide) (by decide) (fun c49 => ?_) (fun c49 => ?_)
        · exact absurd c49 (by decide)
        · refine z_iconst F dX9_rounded_52 ?_
          exact z_iret (nf_i _) F hr (Nat.le_of_ble_eq_true rfl) (Nat.le_of_ble_eq_true rfl) dX9_rounded_53 (Or.inr (Or.inr (Or.inl ⟨by omega, by omega, by omega, rfl, Ih5⟩)))
    · refine z_iconst F dX9_rounded_21 ?_
      refine z_goto (tgt := 46) F dX9_rounded_22 (by decide) ?_
      refine z_callV (As := [vI 2]) (st := []) F (mX9_fails l G N0 h g σ 2 hI hR (by decide)) cvX9_107 (mI hI 0 rfl) (fun r9 h9 => by cases h9; rfl) rfl rfl ⟨Nat.le_of_ble_eq_true rfl, Nat.le_of_ble_eq_true rfl⟩ rfl ⟨Nat.le_of_ble_eq_true rfl, Nat.le_of_ble_eq_true rfl⟩ dX9_rounded_46 ?_
      rintro _ h6 ⟨rfl, Ih6⟩
      rw [if_pos (by decide)]
      show Z _ _ _ _ _ _ _ _ _ _ _ _ _ _ _ _ _ _ _ _ [vI 1]
      refine z_if_eq (tgt := 54) F dX9_rounded_49 (by decide) (by decide) (fun c49 => ?_) (fun c49 => ?_)
      · exact absurd c49 (by decide)
      · refine z_iconst F dX9_rounded_52 ?_
        exact z_iret (nf_i _) F hr (Nat.le_of_ble_eq_true rfl) (Nat.le_of_ble_eq_true rfl) dX9_rounded_53 (Or.inr (Or.inl ⟨by omega, by omega, rfl, Ih6⟩))
  · refine z_iconst F dX9_rounded_9 ?_
    refine z_goto (tgt := 46) F dX9_rounded_10 (by decide) ?_
    refine z_callV (As := [vI 1]) (st := []) F (mX9_fails l G N0 h g σ 1 hI hR (by decide)) cvX9_107 (mI hI 0 rfl) (fun r9 h9 => by cases h9; rfl) rfl rfl ⟨Nat.le_of_ble_eq_true rfl, Nat.le_of_ble_eq_true rfl⟩ rfl ⟨Nat.le_of_ble_eq_true rfl, Nat.le_of_ble_eq_true rfl⟩ dX9_rounded_46 ?_
    rintro _ h7 ⟨rfl, Ih7⟩
    rw [if_pos (by decide)]
    show Z _ _ _ _ _ _ _ _ _ _ _ _ _ _ _ _ _ _ _ _ [vI 1]
    refine z_if_eq (tgt := 54) F dX9_rounded_49 (by decide) (by decide) (fun c49 => ?_) (fun c49 => ?_)
    · exact absurd c49 (by decide)
    · refine z_iconst F dX9_rounded_52 ?_
      exact z_iret (nf_i _) F hr (Nat.le_of_ble_eq_true rfl) (Nat.le_of_ble_eq_true rfl) dX9_rounded_53 (Or.inl ⟨by omega, rfl, Ih7⟩)
set_option maxRecDepth 100000 in
set_option maxHeartbeats 4000000 in
theorem mX9_dayOf (l : Launch) (G : GG) (N0 : Nat) (h : Hp) (g : Nat → Nat) (σ : Sg) (c9 d9 wr : Int) (hI : MI g σ h) (hR : RG σ) (v8 : 0 ≤ σ 8 0 ∧ σ 8 0 ≤ 24) (hw : wr = 0 ∨ wr = 1) (hd : 0 ≤ d9 ∧ d9 < 5) (r_c9 : -2147483648 ≤ c9 ∧ c9 < 2147483648) : Ct l G N0 yX9_dayOf (Cond.code yX9_dayOf cX9_dayOf 6 (some FieldType.int) :: LW) ({ frames := 1, cells := 0, slots := 0, locals := 40 }) [vR (g 0), vI c9, vI d9, vI wr] h (fun r h' => r = some (vI (dyO (σ 9) (σ 12) (σ 15) c9 d9 wr (σ 8 0).toNat)) ∧ h' = h) := by
  refine ct_of rfl rfl ?_
  intro p e s m args below meth c F hr hnm
  have F : Fx p s m args meth c RX9 cX9_dayOf 6 G N0 (cA h s.heap.size) := F
  obtain ⟨Q, hQ⟩ : ∃ z, z = MQ below (cQc G N0 h s.heap.size (fun r h' => r = some (vI (dyO (σ 9) (σ 12) (σ 15) c9 d9 wr (σ 8 0).toNat)) ∧ h' = h)) args s 0 0 (cA h s.heap.size) := ⟨_, rfl⟩
  rw [← hQ]
  show Z _ _ _ _ _ _ _ _ _ _ _ _ _ _ _ _ _ _ _ [(0, vR (g 0)), (1, vI c9), (2, vI d9), (3, vI wr)] []
  refine z_iconst F dX9_dayOf_0 ?_
  refine z_istore (lv' := [(4, vI 0), (0, vR (g 0)), (1, vI c9), (2, vI d9), (3, vI wr)]) F dX9_dayOf_1 (by decide) rfl ?_
  refine z_iconst F dX9_dayOf_3 ?_
  refine z_istore (lv' := [(5, vI 0), (4, vI 0), (0, vR (g 0)), (1, vI c9), (2, vI d9), (3, vI wr)]) F dX9_dayOf_4 (by decide) rfl ?_
  have L6 : ∀ (fuel : Nat) (sm : Int) (i9 : Int), (0 ≤ i9) → (i9 ≤ σ 8 0) → (sm = dyO (σ 9) (σ 12) (σ 15) c9 d9 wr i9.toNat) → σ 8 0 - i9 < (fuel : Int) → Z p l e ({ frames := 1, cells := 0, slots := 0, locals := 40 }) s m args below meth c 6 G N0 (cA h s.heap.size) Q h 0 0 6 [(5, vI i9), (4, vI sm), (0, vR (g 0)), (1, vI c9), (2, vI d9), (3, vI wr)] [] := by
    intro fuel
    induction fuel with
    | zero => intro sm i9  ha hb hn hm; exact absurd hm (by omega)
    | succ fuel ih6 =>
      intro sm i9  ha hb hn hm
      refine z_iload F dX9_dayOf_6 0 rfl ?_
      refine z_aload_n F dX9_dayOf_8 rfl 2 rfl ?_
      refine z_get (v := vI (σ 8 0)) F (mI hI 0 rfl) fX9_97 rfl dX9_dayOf_9 ?_
      refine z_icmp_ge (tgt := 52) F dX9_dayOf_12 (by decide) (by omega) (hR 8 0) (fun c12 => ?_) (fun c12 => ?_)
      · refine z_iload F dX9_dayOf_52 1 rfl ?_
        rw [hQ]
        exact z_iret (nf_i _) F hr (Nat.le_of_ble_eq_true rfl) (Nat.le_of_ble_eq_true rfl) dX9_dayOf_54 (⟨rI (by rw [hn, show i9 = σ 8 0 by omega]), rfl⟩)
      · refine z_iload F dX9_dayOf_15 1 rfl ?_
        refine z_aload_n F dX9_dayOf_17 rfl 2 rfl ?_
        refine z_iload F dX9_dayOf_18 0 rfl ?_
        refine z_iload_n F dX9_dayOf_20 rfl 3 rfl ?_
        refine z_iload_n F dX9_dayOf_21 rfl 5 rfl ?_
        refine z_callV (As := [vI i9, vI c9, vI wr]) (st := [vI sm]) F (mX9_belongs l G N0 h g σ i9 c9 wr hI hR (by omega) (by omega) (by omega)) cvX9_165 (mI hI 0 rfl) (fun r9 h9 => by cases h9; rfl) rfl rfl ⟨Nat.le_of_ble_eq_true rfl, Nat.le_of_ble_eq_true rfl⟩ rfl ⟨Nat.le_of_ble_eq_true rfl, Nat.le_of_ble_eq_true rfl⟩ dX9_dayOf_22 ?_
        rintro _ h9 ⟨rfl, hh9⟩
        rw [hh9]
        clear hh9 h9
        have q22 := blI_in (σ 9) (σ 12) i9 c9 wr
        show Z _ _ _ _ _ _ _ _ _ _ _ _ _ _ _ _ _ _ _ _ [vI (blI (σ 9) (σ 12) i9 c9 wr), vI sm]
        refine z_if_eq (tgt := 42) F dX9_dayOf_25 (by decide) (by omega) (fun c25 => ?_) (fun c25 => ?_)
        · refine z_iconst F dX9_dayOf_42 ?_
          refine z_iadd F dX9_dayOf_43 ?_
          refine z_istore (lv' := [(4, vI (sm + 0)), (5, vI i9), (0, vR (g 0)), (1, vI c9), (2, vI d9), (3, vI wr)]) F dX9_dayOf_44 (by decide) rfl ?_
          refine z_iinc (lv' := [(5, vI (i9 + 1)), (4, vI (sm + 0)), (0, vR (g 0)), (1, vI c9), (2, vI d9), (3, vI wr)]) F dX9_dayOf_46 1 rfl (by decide) rfl ?_
          refine z_goto (tgt := 6) F dX9_dayOf_49 (by decide) ?_
          exact ih6 (sm + 0) (i9 + 1)  (by omega) (by omega) (by rw [dyO_s _ _ _ _ _ _ ha, ← hn]; first | rw [if_pos (by omega)] | rw [if_neg (by omega)]) (by omega)
        · refine z_aload_n F dX9_dayOf_28 rfl 2 rfl ?_
          refine z_get (v := vR (g 15)) F (mI hI 0 rfl) fX9_48 rfl dX9_dayOf_29 ?_
          refine z_iconst F dX9_dayOf_32 ?_
          refine z_iload F dX9_dayOf_33 0 rfl ?_
          refine z_imul F dX9_dayOf_35 ?_
          refine z_iload_n F dX9_dayOf_36 rfl 4 rfl ?_
          refine z_iadd F dX9_dayOf_37 ?_
          refine z_iaload (N := 120) (f := fun j => σ 15 j) F (mI hI 15 rfl) (by omega) (by omega) (by omega) dX9_dayOf_38 ?_
          refine z_goto (tgt := 43) F dX9_dayOf_39 (by decide) ?_
          refine z_iadd F dX9_dayOf_43 ?_
          refine z_istore (lv' := [(4, vI (sm + (σ 15 ((5 * i9) + d9)))), (5, vI i9), (0, vR (g 0)), (1, vI c9), (2, vI d9), (3, vI wr)]) F dX9_dayOf_44 (by decide) rfl ?_
          refine z_iinc (lv' := [(5, vI (i9 + 1)), (4, vI (sm + (σ 15 ((5 * i9) + d9)))), (0, vR (g 0)), (1, vI c9), (2, vI d9), (3, vI wr)]) F dX9_dayOf_46 1 rfl (by decide) rfl ?_
          refine z_goto (tgt := 6) F dX9_dayOf_49 (by decide) ?_
          exact ih6 (sm + (σ 15 ((5 * i9) + d9))) (i9 + 1)  (by omega) (by omega) (by rw [dyO_s _ _ _ _ _ _ ha, ← hn]; first | rw [if_pos (by omega)] | rw [if_neg (by omega)]) (by omega)
  exact L6 ((σ 8 0 - 0 : Int).toNat + 1) 0 0  (by omega) (by omega) (rfl) (by omega)
set_option maxRecDepth 100000 in
set_option maxHeartbeats 4000000 in
theorem mX9_secondsIn (l : Launch) (G : GG) (N0 : Nat) (h : Hp) (g : Nat → Nat) (σ : Sg) (c9 d9 : Int) (hI : MI g σ h) (hR : RG σ) (hV : MV σ) (r_c9 : -2147483648 ≤ c9 ∧ c9 < 2147483648) (r_d9 : -2147483648 ≤ d9 ∧ d9 < 2147483648) : Ct l G N0 yX9_secondsIn (Cond.code yX9_secondsIn cX9_secondsIn 3 (some FieldType.int) :: LW) ({ frames := 4, cells := 0, slots := 0, locals := 150 }) [vR (g 0), vI c9, vI d9] h (fun r h' => ((¬ (0 ≤ c9 ∧ c9 < σ 2 0)) ∧ r = some (vI 0) ∧ MI g (su σ 30 0 1) h') ∨ (¬ (¬ (0 ≤ c9 ∧ c9 < σ 2 0)) ∧ (¬ (0 ≤ d9 ∧ d9 ≤ 4)) ∧ r = some (vI 0) ∧ MI g (su σ 30 0 2) h') ∨ (¬ (¬ (0 ≤ c9 ∧ c9 < σ 2 0)) ∧ ¬ (¬ (0 ≤ d9 ∧ d9 ≤ 4)) ∧ r = some (vI (dyO (σ 9) (σ 12) (dyF σ) c9 d9 1 (σ 8 0).toNat)) ∧ ∃ s d : Int → Int, MI g (sw (sw (su σ 30 0 0) 14 s) 15 d) h' ∧ (∀ j, -2147483648 ≤ s j ∧ s j < 2147483648) ∧ (∀ j, -2147483648 ≤ d j ∧ d j < 2147483648))) := by
  refine ct_of rfl rfl ?_
  intro p e s m args below meth c F hr hnm
  have F : Fx p s m args meth c RX9 cX9_secondsIn 3 G N0 (cA h s.heap.size) := F
  obtain ⟨v0, v1, v2, v8, v16, v24, v29, vC, vE, vL, vK, vT⟩ := id hV
  show Z _ _ _ _ _ _ _ _ _ _ _ _ _ _ _ _ _ _ _ [(0, vR (g 0)), (1, vI c9), (2, vI d9)] []
  refine z_aload_n F dX9_secondsIn_0 rfl 0 rfl ?_
  refine z_aload_n F dX9_secondsIn_1 rfl 0 rfl ?_
  refine z_iload_n F dX9_secondsIn_2 rfl 1 rfl ?_
  refine z_callV (As := [vI c9]) (st := [vR (g 0)]) F (mX9_isNoClient l G N0 h g σ c9 hI hR (by omega) (by omega)) cvX9_120 (mI hI 0 rfl) (fun r9 h9 => by cases h9; rfl) rfl rfl ⟨Nat.le_of_ble_eq_true rfl, Nat.le_of_ble_eq_true rfl⟩ rfl ⟨Nat.le_of_ble_eq_true rfl, Nat.le_of_ble_eq_true rfl⟩ dX9_secondsIn_3 ?_
  rintro _ h9 ⟨rfl, hh9⟩
  rw [hh9]
  clear hh9 h9
  generalize ex1 : (if 0 ≤ c9 ∧ c9 < σ 2 0 then (0 : Int) else 1) = x1
  show Z _ _ _ _ _ _ _ _ _ _ _ _ _ _ _ _ _ _ _ _ [vI x1, vR (g 0)]
  refine z_if_eq (tgt := 13) F dX9_secondsIn_6 (by decide) (by omega) (fun c6 => ?_) (fun c6 => ?_)
  · refine z_iload_n F dX9_secondsIn_13 rfl 2 rfl ?_
    refine z_iconst F dX9_secondsIn_14 ?_
    refine z_iconst F dX9_secondsIn_15 ?_
    refine z_callS (As := [vI d9, vI 0, vI 4]) (st := [vR (g 0)]) F (mX9_in l G N0 h d9 0 4 (by omega) (by decide) (by decide)) csX9_93 rfl rfl ⟨Nat.le_of_ble_eq_true rfl, Nat.le_of_ble_eq_true rfl⟩ rfl ⟨Nat.le_of_ble_eq_true rfl, Nat.le_of_ble_eq_true rfl⟩ dX9_secondsIn_16 ?_
    rintro _ h9 ⟨rfl, hh9⟩
    rw [hh9]
    clear hh9 h9
    generalize ex2 : (if 0 ≤ d9 ∧ d9 ≤ 4 then (1 : Int) else 0) = x2
    show Z _ _ _ _ _ _ _ _ _ _ _ _ _ _ _ _ _ _ _ _ [vI x2, vR (g 0)]
    refine z_if_eq (tgt := 26) F dX9_secondsIn_19 (by decide) (by omega) (fun c19 => ?_) (fun c19 => ?_)
    · refine z_iconst F dX9_secondsIn_26 ?_
      refine z_callV (As := [vI 2]) (st := []) F (mX9_fails l G N0 h g σ 2 hI hR (by decide)) cvX9_107 (mI hI 0 rfl) (fun r9 h9 => by cases h9; rfl) rfl rfl ⟨Nat.le_of_ble_eq_true rfl, Nat.le_of_ble_eq_true rfl⟩ rfl ⟨Nat.le_of_ble_eq_true rfl, Nat.le_of_ble_eq_true rfl⟩ dX9_secondsIn_27 ?_
      rintro _ h3 ⟨rfl, Ih3⟩
      rw [if_pos (by decide)]
      show Z _ _ _ _ _ _ _ _ _ _ _ _ _ _ _ _ _ _ _ _ [vI 1]
      refine z_if_eq (tgt := 35) F dX9_secondsIn_30 (by decide) (by decide) (fun c30 => ?_) (fun c30 => ?_)
      · exact absurd c30 (by decide)
      · refine z_iconst F dX9_secondsIn_33 ?_
        exact z_iret (nf_i _) F hr (Nat.le_of_ble_eq_true rfl) (Nat.le_of_ble_eq_true rfl) dX9_secondsIn_34 (Or.inr (Or.inl ⟨by omega, by omega, rfl, Ih3⟩))
    · refine z_iconst F dX9_secondsIn_22 ?_
      refine z_goto (tgt := 27) F dX9_secondsIn_23 (by decide) ?_
      refine z_callV (As := [vI 0]) (st := []) F (mX9_fails l G N0 h g σ 0 hI hR (by decide)) cvX9_107 (mI hI 0 rfl) (fun r9 h9 => by cases h9; rfl) rfl rfl ⟨Nat.le_of_ble_eq_true rfl, Nat.le_of_ble_eq_true rfl⟩ rfl ⟨Nat.le_of_ble_eq_true rfl, Nat.le_of_ble_eq_true rfl⟩ dX9_secondsIn_27 ?_
      rintro _ h4 ⟨rfl, Ih4⟩
      rw [if_neg (by decide)]
      show Z _ _ _ _ _ _ _ _ _ _ _ _ _ _ _ _ _ _ _ _ [vI 0]
      refine z_if_eq (tgt := 35) F dX9_secondsIn_30 (by decide) (by decide) (fun c30 => ?_) (fun c30 => ?_)
      · refine z_aload_n F dX9_secondsIn_35 rfl 0 rfl ?_
        refine z_callV (As := []) (st := []) F (mX9_counts l G N0 h4 g (su σ 30 0 0) Ih4 (rg_su hR (by decide)) hV) cvX9_148 (mI Ih4 0 rfl) (fun r9 h9 => by cases h9; rfl) rfl rfl ⟨Nat.le_of_ble_eq_true rfl, Nat.le_of_ble_eq_true rfl⟩ rfl ⟨Nat.le_of_ble_eq_true rfl, Nat.le_of_ble_eq_true rfl⟩ dX9_secondsIn_36 ?_
        rintro _ h5 ⟨rfl, sh5, dh5, Ih5, Rsh5, Rdh5, Sh5, Dh5⟩
        show Z _ _ _ _ _ _ _ _ _ _ _ _ _ _ _ _ _ _ _ _ []
        simp only [secS_c, dayS_c] at Sh5 Dh5
        have nh5 : ∀ e, 0 ≤ e → e < σ 8 0 → sh5 e = secS σ e := Sh5
        have oh5 : ∀ e dd, 0 ≤ e → e < σ 8 0 → 0 ≤ dd → dd < 5 → dh5 (5 * e + dd) = dayS σ e dd := Dh5
        refine z_aload_n F dX9_secondsIn_39 rfl 0 rfl ?_
        refine z_iload_n F dX9_secondsIn_40 rfl 1 rfl ?_
        refine z_iload_n F dX9_secondsIn_41 rfl 2 rfl ?_
        refine z_iconst F dX9_secondsIn_42 ?_
        refine z_callV (As := [vI c9, vI d9, vI 1]) (st := []) F (mX9_dayOf l G N0 h5 g (sw (sw (su σ 30 0 0) 14 sh5) 15 dh5) c9 d9 1 Ih5 (rg_sw (rg_sw (rg_su hR (by decide)) Rsh5) Rdh5) (show 0 ≤ σ 8 0 ∧ σ 8 0 ≤ 24 from by omega) (by omega) (by omega) (by omega)) cvX9_183 (mI Ih5 0 rfl) (fun r9 h9 => by cases h9; rfl) rfl rfl ⟨Nat.le_of_ble_eq_true rfl, Nat.le_of_ble_eq_true rfl⟩ rfl ⟨Nat.le_of_ble_eq_true rfl, Nat.le_of_ble_eq_true rfl⟩ dX9_secondsIn_43 ?_
        rintro _ h9 ⟨rfl, hh9⟩
        rw [hh9]
        clear hh9 h9
        show Z _ _ _ _ _ _ _ _ _ _ _ _ _ _ _ _ _ _ _ _ [vI (dyO (σ 9) (σ 12) dh5 c9 d9 1 (σ 8 0).toNat)]
        exact z_iret (nf_i _) F hr (Nat.le_of_ble_eq_true rfl) (Nat.le_of_ble_eq_true rfl) dX9_secondsIn_46 (Or.inr (Or.inr (⟨by omega, by omega, rI (dyO_c _ (fun x q1 q2 => (oh5 x d9 q1 (by omega) (by omega) (by omega)).trans (dyF_at σ (by omega) (by omega)).symm)), sh5, dh5, Ih5, Rsh5, Rdh5⟩)))
      · exact absurd c30 (by decide)
  · refine z_iconst F dX9_secondsIn_9 ?_
    refine z_goto (tgt := 27) F dX9_secondsIn_10 (by decide) ?_
    refine z_callV (As := [vI 1]) (st := []) F (mX9_fails l G N0 h g σ 1 hI hR (by decide)) cvX9_107 (mI hI 0 rfl) (fun r9 h9 => by cases h9; rfl) rfl rfl ⟨Nat.le_of_ble_eq_true rfl, Nat.le_of_ble_eq_true rfl⟩ rfl ⟨Nat.le_of_ble_eq_true rfl, Nat.le_of_ble_eq_true rfl⟩ dX9_secondsIn_27 ?_
    rintro _ h6 ⟨rfl, Ih6⟩
    rw [if_pos (by decide)]
    show Z _ _ _ _ _ _ _ _ _ _ _ _ _ _ _ _ _ _ _ _ [vI 1]
    refine z_if_eq (tgt := 35) F dX9_secondsIn_30 (by decide) (by decide) (fun c30 => ?_) (fun c30 => ?_)
    · exact absurd c30 (by decide)
    · refine z_iconst F dX9_secondsIn_33 ?_
      exact z_iret (nf_i _) F hr (Nat.le_of_ble_eq_true rfl) (Nat.le_of_ble_eq_true rfl) dX9_secondsIn_34 (Or.inl ⟨by omega, rfl, Ih6⟩)
set_option maxRecDepth 100000 in
set_option maxHeartbeats 4000000 in
theorem mX9_daySeconds (l : Launch) (G : GG) (N0 : Nat) (h : Hp) (g : Nat → Nat) (σ : Sg) (c9 d9 : Int) (hI : MI g σ h) (hR : RG σ) (hV : MV σ) (r_c9 : -2147483648 ≤ c9 ∧ c9 < 2147483648) (r_d9 : -2147483648 ≤ d9 ∧ d9 < 2147483648) : Ct l G N0 yX9_daySeconds (Cond.code yX9_daySeconds cX9_daySeconds 3 (some FieldType.int) :: LW) ({ frames := 5, cells := 0, slots := 0, locals := 180 }) [vR (g 0), vI c9, vI d9] h (fun r h' => ((¬ (0 ≤ c9 ∧ c9 < σ 2 0)) ∧ r = some (vI 0) ∧ MI g (su σ 30 0 1) h') ∨ (¬ (¬ (0 ≤ c9 ∧ c9 < σ 2 0)) ∧ (¬ (0 ≤ d9 ∧ d9 ≤ 4)) ∧ r = some (vI 0) ∧ MI g (su σ 30 0 2) h') ∨ (¬ (¬ (0 ≤ c9 ∧ c9 < σ 2 0)) ∧ ¬ (¬ (0 ≤ d9 ∧ d9 ≤ 4)) ∧ r = some (vI (dyO (σ 9) (σ 12) (dyF σ) c9 d9 1 (σ 8 0).toNat)) ∧ ∃ s d : Int → Int, MI g (sw (sw (su σ 30 0 0) 14 s) 15 d) h' ∧ (∀ j, -2147483648 ≤ s j ∧ s j < 2147483648) ∧ (∀ j, -2147483648 ≤ d j ∧ d j < 2147483648))) := by
  refine ct_of rfl rfl ?_
  intro p e s m args below meth c F hr hnm
  have F : Fx p s m args meth c RX9 cX9_daySeconds 3 G N0 (cA h s.heap.size) := F
  obtain ⟨v0, v1, v2, v8, v16, v24, v29, vC, vE, vL, vK, vT⟩ := id hV
  show Z _ _ _ _ _ _ _ _ _ _ _ _ _ _ _ _ _ _ _ [(0, vR (g 0)), (1, vI c9), (2, vI d9)] []
  refine z_aload_n F dX9_daySeconds_0 rfl 0 rfl ?_
  refine z_iload_n F dX9_daySeconds_1 rfl 1 rfl ?_
  refine z_iload_n F dX9_daySeconds_2 rfl 2 rfl ?_
  refine z_callV (As := [vI c9, vI d9]) (st := []) F (mX9_secondsIn l G N0 h g σ c9 d9 hI hR hV (by omega) (by omega)) cvX9_186 (mI hI 0 rfl) (fun r9 h9 => by cases h9; rfl) rfl rfl ⟨Nat.le_of_ble_eq_true rfl, Nat.le_of_ble_eq_true rfl⟩ rfl ⟨Nat.le_of_ble_eq_true rfl, Nat.le_of_ble_eq_true rfl⟩ dX9_daySeconds_3 ?_
  intro r h9 hp
  obtain ⟨x9, ex9⟩ : ∃ z, r = some (vI z) := by rcases hp with ⟨_, h8, _⟩ | ⟨_, _, h8, _⟩ | ⟨_, _, h8, _⟩ <;> exact ⟨_, h8⟩
  subst ex9
  exact z_iret (nf_i _) F hr (Nat.le_of_ble_eq_true rfl) (Nat.le_of_ble_eq_true rfl) dX9_daySeconds_6 hp
set_option maxRecDepth 100000 in
set_option maxHeartbeats 4000000 in
theorem mX9_daySecondsByMinutes (l : Launch) (G : GG) (N0 : Nat) (h : Hp) (g : Nat → Nat) (σ : Sg) (c9 d9 : Int) (hI : MI g σ h) (hR : RG σ) (hV : MV σ) (r_c9 : -2147483648 ≤ c9 ∧ c9 < 2147483648) (r_d9 : -2147483648 ≤ d9 ∧ d9 < 2147483648) : Ct l G N0 yX9_daySecondsByMinutes (Cond.code yX9_daySecondsByMinutes cX9_daySecondsByMinutes 3 (some FieldType.int) :: LW) ({ frames := 5, cells := 0, slots := 0, locals := 180 }) [vR (g 0), vI c9, vI d9] h (fun r h' => ((¬ (0 ≤ c9 ∧ c9 < σ 2 0)) ∧ r = some (vI 0) ∧ MI g (su σ 30 0 1) h') ∨ (¬ (¬ (0 ≤ c9 ∧ c9 < σ 2 0)) ∧ (¬ (0 ≤ d9 ∧ d9 ≤ 4)) ∧ r = some (vI 0) ∧ MI g (su σ 30 0 2) h') ∨ (¬ (¬ (0 ≤ c9 ∧ c9 < σ 2 0)) ∧ ¬ (¬ (0 ≤ d9 ∧ d9 ≤ 4)) ∧ r = some (vI (dyO (σ 9) (σ 12) (dyF σ) c9 d9 1 (σ 8 0).toNat)) ∧ ∃ s d : Int → Int, MI g (sw (sw (su σ 30 0 0) 14 s) 15 d) h' ∧ (∀ j, -2147483648 ≤ s j ∧ s j < 2147483648) ∧ (∀ j, -2147483648 ≤ d j ∧ d j < 2147483648))) := by
  refine ct_of rfl rfl ?_
  intro p e s m args below meth c F hr hnm
  have F : Fx p s m args meth c RX9 cX9_daySecondsByMinutes 3 G N0 (cA h s.heap.size) := F
  obtain ⟨v0, v1, v2, v8, v16, v24, v29, vC, vE, vL, vK, vT⟩ := id hV
  show Z _ _ _ _ _ _ _ _ _ _ _ _ _ _ _ _ _ _ _ [(0, vR (g 0)), (1, vI c9), (2, vI d9)] []
  refine z_aload_n F dX9_daySecondsByMinutes_0 rfl 0 rfl ?_
  refine z_iload_n F dX9_daySecondsByMinutes_1 rfl 1 rfl ?_
  refine z_iload_n F dX9_daySecondsByMinutes_2 rfl 2 rfl ?_
  refine z_callV (As := [vI c9, vI d9]) (st := []) F (mX9_secondsIn l G N0 h g σ c9 d9 hI hR hV (by omega) (by omega)) cvX9_186 (mI hI 0 rfl) (fun r9 h9 => by cases h9; rfl) rfl rfl ⟨Nat.le_of_ble_eq_true rfl, Nat.le_of_ble_eq_true rfl⟩ rfl ⟨Nat.le_of_ble_eq_true rfl, Nat.le_of_ble_eq_true rfl⟩ dX9_daySecondsByMinutes_3 ?_
  intro r h9 hp
  obtain ⟨x9, ex9⟩ : ∃ z, r = some (vI z) := by rcases hp with ⟨_, h8, _⟩ | ⟨_, _, h8, _⟩ | ⟨_, _, h8, _⟩ <;> exact ⟨_, h8⟩
  subst ex9
  exact z_iret (nf_i _) F hr (Nat.le_of_ble_eq_true rfl) (Nat.le_of_ble_eq_true rfl) dX9_daySecondsByMinutes_6 hp
set_option maxRecDepth 100000 in
set_option maxHeartbeats 4000000 in
theorem mX9_openOf (l : Launch) (G : GG) (N0 : Nat) (h : Hp) (g : Nat → Nat) (σ : Sg) (c9 : Int) (hI : MI g σ h) (hR : RG σ) (hV : MV σ) (hc : 0 ≤ c9 ∧ c9 < σ 2 0) : Ct l G N0 yX9_openOf (Cond.code yX9_openOf cX9_openOf 4 (some FieldType.int) :: LW) ({ frames := 4, cells := 0, slots := 0, locals := 150 }) [vR (g 0), vI c9] h (fun r h' => ∃ s d : Int → Int, r = some (vI (opS σ c9)) ∧ MI g (sw (sw σ 14 s) 15 d) h' ∧ RF s ∧ RF d) := by
  refine ct_of rfl rfl ?_
  intro p e s m args below meth c F hr hnm
  have F : Fx p s m args meth c RX9 cX9_openOf 4 G N0 (cA h s.heap.size) := F
  obtain ⟨v0, v1, v2, v8, v16, v24, v29, vC, vE, vL, vK, vT⟩ := id hV
  have C_c9 := vC c9
  obtain ⟨Q, hQ⟩ : ∃ z, z = MQ below (cQc G N0 h s.heap.size (fun r h' => ∃ s d : Int → Int, r = some (vI (opS σ c9)) ∧ MI g (sw (sw σ 14 s) 15 d) h' ∧ RF s ∧ RF d)) args s 0 0 (cA h s.heap.size) := ⟨_, rfl⟩
  rw [← hQ]
  show Z _ _ _ _ _ _ _ _ _ _ _ _ _ _ _ _ _ _ _ [(0, vR (g 0)), (1, vI c9)] []
  refine z_aload_n F dX9_openOf_0 rfl 0 rfl ?_
  refine z_callV (As := []) (st := []) F (mX9_counts l G N0 h g σ hI hR hV) cvX9_148 (mI hI 0 rfl) (fun r9 h9 => by cases h9; rfl) rfl rfl ⟨Nat.le_of_ble_eq_true rfl, Nat.le_of_ble_eq_true rfl⟩ rfl ⟨Nat.le_of_ble_eq_true rfl, Nat.le_of_ble_eq_true rfl⟩ dX9_openOf_1 ?_
  rintro _ h1 ⟨rfl, sh1, dh1, Ih1, Rsh1, Rdh1, Sh1, Dh1⟩
  show Z _ _ _ _ _ _ _ _ _ _ _ _ _ _ _ _ _ _ _ _ []
  have nh1 := Sh1
  have oh1 := Dh1
  have hf9 : ∀ x : Int, 0 ≤ x → x < σ 8 0 → 0 ≤ sh1 x ∧ sh1 x ≤ 180000 := fun x q1 q2 => by rw [nh1 x q1 q2]; exact secS_in hV q1 q2
  refine z_iconst F dX9_openOf_4 ?_
  refine z_istore_n (lv' := [(2, vI 0), (0, vR (g 0)), (1, vI c9)]) F dX9_openOf_5 rfl (by decide) rfl ?_
  refine z_aload_n F dX9_openOf_6 rfl 1 rfl ?_
  refine z_get (v := vR (g 5)) F (mI Ih1 0 rfl) fX9_21 rfl dX9_openOf_7 ?_
  refine z_iload_n F dX9_openOf_10 rfl 2 rfl ?_
  refine z_caload (N := 5) (f := fun j => σ 5 j) F (mI Ih1 5 rfl) (by omega) (by omega) (by omega) dX9_openOf_11 ?_
  refine z_bipush F dX9_openOf_12 (by decide) ?_
  refine z_icmp_ne (tgt := 47) F dX9_openOf_14 (by decide) (hR 5 c9) (by decide) (fun c14 => ?_) (fun c14 => ?_)
  · refine z_iconst F dX9_openOf_47 ?_
    refine z_istore_n (lv' := [(3, vI 0), (2, vI 0), (0, vR (g 0)), (1, vI c9)]) F dX9_openOf_48 rfl (by decide) rfl ?_
    have L49 : ∀ (fuel : Nat) (sm : Int) (i9 : Int), (0 ≤ i9) → (i9 ≤ σ 8 0) → (sm = opE (σ 9) (σ 12) (σ 10) sh1 (σ 5 c9) (σ 3 c9) (σ 4 c9) c9 (σ 8 0).toNat i9.toNat) → σ 8 0 - i9 < (fuel : Int) → Z p l e ({ frames := 4, cells := 0, slots := 0, locals := 150 }) s m args below meth c 4 G N0 (cA h s.heap.size) Q h1 0 0 49 [(3, vI i9), (2, vI sm), (0, vR (g 0)), (1, vI c9)] [] := by
      intro fuel
      induction fuel with
      | zero => intro sm i9  ha hb hn hm; exact absurd hm (by omega)
      | succ fuel ih49 =>
        intro sm i9  ha hb hn hm
        refine z_iload_n F dX9_openOf_49 rfl 0 rfl ?_
        refine z_aload_n F dX9_openOf_50 rfl 2 rfl ?_
        refine z_get (v := vI (σ 8 0)) F (mI Ih1 0 rfl) fX9_97 rfl dX9_openOf_51 ?_
        refine z_icmp_ge (tgt := 87) F dX9_openOf_54 (by decide) (by omega) (hR 8 0) (fun c54 => ?_) (fun c54 => ?_)
        · refine z_iload_n F dX9_openOf_87 rfl 1 rfl ?_
          rw [hQ]
          exact z_iret (nf_i _) F hr (Nat.le_of_ble_eq_true rfl) (Nat.le_of_ble_eq_true rfl) dX9_openOf_88 (⟨sh1, dh1, rI (by rw [show opS σ c9 = opO (σ 9) (σ 12) (σ 10) sh1 dh1 (σ 5 c9) (σ 3 c9) (σ 4 c9) c9 (σ 8 0).toNat from (opO_c (fun x q1 q2 => (nh1 x q1 (by omega)).symm) (fun x dd q1 q2 q3 q4 => ((oh1 x dd q1 (by omega) q3 q4).trans (dyF_at σ q3 q4).symm).symm))]; unfold opO; rw [if_neg (by omega)]; rw [hn, show i9 = σ 8 0 by omega]), Ih1, Rsh1, Rdh1⟩)
        · refine z_iload_n F dX9_openOf_57 rfl 1 rfl ?_
          refine z_aload_n F dX9_openOf_58 rfl 2 rfl ?_
          refine z_iload_n F dX9_openOf_59 rfl 0 rfl ?_
          refine z_iload_n F dX9_openOf_60 rfl 3 rfl ?_
          refine z_iconst F dX9_openOf_61 ?_
          refine z_callV (As := [vI i9, vI c9, vI 1]) (st := [vI sm]) F (mX9_belongs l G N0 h1 g (sw (sw σ 14 sh1) 15 dh1) i9 c9 1 Ih1 (rg_sw (rg_sw hR Rsh1) Rdh1) (by omega) (by omega) (by omega)) cvX9_165 (mI Ih1 0 rfl) (fun r9 h9 => by cases h9; rfl) rfl rfl ⟨Nat.le_of_ble_eq_true rfl, Nat.le_of_ble_eq_true rfl⟩ rfl ⟨Nat.le_of_ble_eq_true rfl, Nat.le_of_ble_eq_true rfl⟩ dX9_openOf_62 ?_
          rintro _ h9 ⟨rfl, hh9⟩
          rw [hh9]
          clear hh9 h9
          have q62 := blI_in (σ 9) (σ 12) i9 c9 1
          show Z _ _ _ _ _ _ _ _ _ _ _ _ _ _ _ _ _ _ _ _ [vI (blI (σ 9) (σ 12) i9 c9 1), vI sm]
          refine z_if_eq (tgt := 78) F dX9_openOf_65 (by decide) (by omega) (fun c65 => ?_) (fun c65 => ?_)
          · refine z_iconst F dX9_openOf_78 ?_
            refine z_iadd F dX9_openOf_79 ?_
            refine z_istore_n (lv' := [(2, vI (sm + 0)), (3, vI i9), (0, vR (g 0)), (1, vI c9)]) F dX9_openOf_80 rfl (by decide) rfl ?_
            refine z_iinc (lv' := [(3, vI (i9 + 1)), (2, vI (sm + 0)), (0, vR (g 0)), (1, vI c9)]) F dX9_openOf_81 1 rfl (by decide) rfl ?_
            refine z_goto (tgt := 49) F dX9_openOf_84 (by decide) ?_
            exact ih49 (sm + 0) (i9 + 1)  (by omega) (by omega) (by rw [opE_s _ _ _ _ _ _ _ _ _ ha, ← hn]; first | rw [if_pos (by omega)] | rw [if_neg (by omega)]) (by omega)
          · refine z_aload_n F dX9_openOf_68 rfl 2 rfl ?_
            refine z_iload_n F dX9_openOf_69 rfl 3 rfl ?_
            refine z_iload_n F dX9_openOf_70 rfl 0 rfl ?_
            refine z_iconst F dX9_openOf_71 ?_
            refine z_callV (As := [vI c9, vI i9, vI 1]) (st := [vI sm]) F (mX9_roundedOf l G N0 h1 g (sw (sw σ 14 sh1) 15 dh1) c9 i9 1 Ih1 (rg_sw (rg_sw hR Rsh1) Rdh1) (show 0 ≤ σ 8 0 ∧ σ 8 0 ≤ 24 from by omega) (by omega) (by omega) (show 1 ≤ σ 3 c9 ∧ σ 3 c9 ≤ 60 from by omega) (show 0 ≤ i9 ∧ i9 < σ 8 0 from by omega) hf9) cvX9_180 (mI Ih1 0 rfl) (fun r9 h9 => by cases h9; rfl) rfl rfl ⟨Nat.le_of_ble_eq_true rfl, Nat.le_of_ble_eq_true rfl⟩ rfl ⟨Nat.le_of_ble_eq_true rfl, Nat.le_of_ble_eq_true rfl⟩ dX9_openOf_72 ?_
            rintro _ h9 ⟨rfl, hh9⟩
            rw [hh9]
            clear hh9 h9
            show Z _ _ _ _ _ _ _ _ _ _ _ _ _ _ _ _ _ _ _ _ [vI (rdO (σ 9) (σ 12) (σ 10) sh1 (σ 5 c9) (σ 3 c9) (σ 4 c9) c9 i9 1 (σ 8 0).toNat), vI sm]
            refine z_goto (tgt := 79) F dX9_openOf_75 (by decide) ?_
            refine z_iadd F dX9_openOf_79 ?_
            refine z_istore_n (lv' := [(2, vI (sm + (rdO (σ 9) (σ 12) (σ 10) sh1 (σ 5 c9) (σ 3 c9) (σ 4 c9) c9 i9 1 (σ 8 0).toNat))), (3, vI i9), (0, vR (g 0)), (1, vI c9)]) F dX9_openOf_80 rfl (by decide) rfl ?_
            refine z_iinc (lv' := [(3, vI (i9 + 1)), (2, vI (sm + (rdO (σ 9) (σ 12) (σ 10) sh1 (σ 5 c9) (σ 3 c9) (σ 4 c9) c9 i9 1 (σ 8 0).toNat))), (0, vR (g 0)), (1, vI c9)]) F dX9_openOf_81 1 rfl (by decide) rfl ?_
            refine z_goto (tgt := 49) F dX9_openOf_84 (by decide) ?_
            exact ih49 (sm + (rdO (σ 9) (σ 12) (σ 10) sh1 (σ 5 c9) (σ 3 c9) (σ 4 c9) c9 i9 1 (σ 8 0).toNat)) (i9 + 1)  (by omega) (by omega) (by rw [opE_s _ _ _ _ _ _ _ _ _ ha, ← hn]; first | rw [if_pos (by omega)] | rw [if_neg (by omega)]) (by omega)
    exact L49 ((σ 8 0 - 0 : Int).toNat + 1) 0 0  (by omega) (by omega) (rfl) (by omega)
  · refine z_iconst F dX9_openOf_17 ?_
    refine z_istore_n (lv' := [(3, vI 0), (2, vI 0), (0, vR (g 0)), (1, vI c9)]) F dX9_openOf_18 rfl (by decide) rfl ?_
    have L19 : ∀ (fuel : Nat) (sm : Int) (d9 : Int), (0 ≤ d9) → (d9 ≤ 5) → (sm = opD (σ 9) (σ 12) dh1 (σ 3 c9) (σ 4 c9) c9 (σ 8 0).toNat d9.toNat) → 5 - d9 < (fuel : Int) → Z p l e ({ frames := 4, cells := 0, slots := 0, locals := 150 }) s m args below meth c 4 G N0 (cA h s.heap.size) Q h1 0 0 19 [(3, vI d9), (2, vI sm), (0, vR (g 0)), (1, vI c9)] [] := by
      intro fuel
      induction fuel with
      | zero => intro sm d9  ha hb hn hm; exact absurd hm (by omega)
      | succ fuel ih19 =>
        intro sm d9  ha hb hn hm
        have hdi := fun q3 q4 => dyO_in (ow := σ 9) (sa := σ 12) (D := dh1) (c := c9) (d := d9) (wr := 1) (M := 180000) (N := (σ 8 0).toNat) (by decide) (fun x q1 q2 => by rw [oh1 x d9 q1 (by omega) q3 q4]; exact dayS_in hV q1 (by omega)) (σ 8 0).toNat (Nat.le_refl _)
        refine z_iload_n F dX9_openOf_19 rfl 0 rfl ?_
        refine z_iconst F dX9_openOf_20 ?_
        refine z_icmp_ge (tgt := 45) F dX9_openOf_21 (by decide) (by omega) (by decide) (fun c21 => ?_) (fun c21 => ?_)
        · refine z_iload_n F dX9_openOf_45 rfl 1 rfl ?_
          rw [hQ]
          exact z_iret (nf_i _) F hr (Nat.le_of_ble_eq_true rfl) (Nat.le_of_ble_eq_true rfl) dX9_openOf_46 (⟨sh1, dh1, rI (by rw [show opS σ c9 = opO (σ 9) (σ 12) (σ 10) sh1 dh1 (σ 5 c9) (σ 3 c9) (σ 4 c9) c9 (σ 8 0).toNat from (opO_c (fun x q1 q2 => (nh1 x q1 (by omega)).symm) (fun x dd q1 q2 q3 q4 => ((oh1 x dd q1 (by omega) q3 q4).trans (dyF_at σ q3 q4).symm).symm))]; unfold opO; rw [if_pos (by omega)]; rw [hn, show d9 = 5 by omega]; rfl), Ih1, Rsh1, Rdh1⟩)
        · refine z_iload_n F dX9_openOf_24 rfl 1 rfl ?_
          refine z_aload_n F dX9_openOf_25 rfl 2 rfl ?_
          refine z_iload_n F dX9_openOf_26 rfl 3 rfl ?_
          refine z_aload_n F dX9_openOf_27 rfl 2 rfl ?_
          refine z_iload_n F dX9_openOf_28 rfl 3 rfl ?_
          refine z_iload_n F dX9_openOf_29 rfl 0 rfl ?_
          refine z_iconst F dX9_openOf_30 ?_
          refine z_callV (As := [vI c9, vI d9, vI 1]) (st := [vI c9, vR (g 0), vI sm]) F (mX9_dayOf l G N0 h1 g (sw (sw σ 14 sh1) 15 dh1) c9 d9 1 Ih1 (rg_sw (rg_sw hR Rsh1) Rdh1) (show 0 ≤ σ 8 0 ∧ σ 8 0 ≤ 24 from by omega) (by omega) (by omega) (by omega)) cvX9_183 (mI Ih1 0 rfl) (fun r9 h9 => by cases h9; rfl) rfl rfl ⟨Nat.le_of_ble_eq_true rfl, Nat.le_of_ble_eq_true rfl⟩ rfl ⟨Nat.le_of_ble_eq_true rfl, Nat.le_of_ble_eq_true rfl⟩ dX9_openOf_31 ?_
          rintro _ h9 ⟨rfl, hh9⟩
          rw [hh9]
          clear hh9 h9
          show Z _ _ _ _ _ _ _ _ _ _ _ _ _ _ _ _ _ _ _ _ [vI (dyO (σ 9) (σ 12) dh1 c9 d9 1 (σ 8 0).toNat), vI c9, vR (g 0), vI sm]
          have hdi := hdi (by omega) (by omega)
          refine z_callV (As := [vI c9, vI (dyO (σ 9) (σ 12) dh1 c9 d9 1 (σ 8 0).toNat)]) (st := [vI sm]) F (mX9_round l G N0 h1 g (sw (sw σ 14 sh1) 15 dh1) c9 (dyO (σ 9) (σ 12) dh1 c9 d9 1 (σ 8 0).toNat) Ih1 (rg_sw (rg_sw hR Rsh1) Rdh1) (by omega) (show 1 ≤ σ 3 c9 ∧ σ 3 c9 ≤ 60 from by omega) (by omega)) cvX9_172 (mI Ih1 0 rfl) (fun r9 h9 => by cases h9; rfl) rfl rfl ⟨Nat.le_of_ble_eq_true rfl, Nat.le_of_ble_eq_true rfl⟩ rfl ⟨Nat.le_of_ble_eq_true rfl, Nat.le_of_ble_eq_true rfl⟩ dX9_openOf_34 ?_
          rintro _ h9 ⟨rfl, hh9⟩
          rw [hh9]
          clear hh9 h9
          show Z _ _ _ _ _ _ _ _ _ _ _ _ _ _ _ _ _ _ _ _ [vI (rndS (σ 3 c9) (σ 4 c9) (dyO (σ 9) (σ 12) dh1 c9 d9 1 (σ 8 0).toNat)), vI sm]
          refine z_iadd F dX9_openOf_37 ?_
          refine z_istore_n (lv' := [(2, vI (sm + (rndS (σ 3 c9) (σ 4 c9) (dyO (σ 9) (σ 12) dh1 c9 d9 1 (σ 8 0).toNat)))), (3, vI d9), (0, vR (g 0)), (1, vI c9)]) F dX9_openOf_38 rfl (by decide) rfl ?_
          refine z_iinc (lv' := [(3, vI (d9 + 1)), (2, vI (sm + (rndS (σ 3 c9) (σ 4 c9) (dyO (σ 9) (σ 12) dh1 c9 d9 1 (σ 8 0).toNat)))), (0, vR (g 0)), (1, vI c9)]) F dX9_openOf_39 1 rfl (by decide) rfl ?_
          refine z_goto (tgt := 19) F dX9_openOf_42 (by decide) ?_
          exact ih19 (sm + (rndS (σ 3 c9) (σ 4 c9) (dyO (σ 9) (σ 12) dh1 c9 d9 1 (σ 8 0).toNat))) (d9 + 1)  (by omega) (by omega) (by rw [opD_s _ _ _ _ _ _ _ ha, ← hn]) (by omega)
    exact L19 ((5 - 0 : Int).toNat + 1) 0 0  (by omega) (by omega) (rfl) (by omega)
set_option maxRecDepth 100000 in
set_option maxHeartbeats 4000000 in
theorem mX9_openMinutes (l : Launch) (G : GG) (N0 : Nat) (h : Hp) (g : Nat → Nat) (σ : Sg) (c9 : Int) (hI : MI g σ h) (hR : RG σ) (hV : MV σ) (r_c9 : -2147483648 ≤ c9 ∧ c9 < 2147483648) : Ct l G N0 yX9_openMinutes (Cond.code yX9_openMinutes cX9_openMinutes 2 (some FieldType.int) :: LW) ({ frames := 5, cells := 0, slots := 0, locals := 180 }) [vR (g 0), vI c9] h (fun r h' => ((¬ (0 ≤ c9 ∧ c9 < σ 2 0)) ∧ r = some (vI 0) ∧ MI g (su σ 30 0 1) h') ∨ (¬ (¬ (0 ≤ c9 ∧ c9 < σ 2 0)) ∧ r = some (vI (opS σ c9)) ∧ ∃ s d : Int → Int, MI g (sw (sw (su σ 30 0 0) 14 s) 15 d) h' ∧ (∀ j, -2147483648 ≤ s j ∧ s j < 2147483648) ∧ (∀ j, -2147483648 ≤ d j ∧ d j < 2147483648))) := by
  refine ct_of rfl rfl ?_
  intro p e s m args below meth c F hr hnm
  have F : Fx p s m args meth c RX9 cX9_openMinutes 2 G N0 (cA h s.heap.size) := F
  obtain ⟨v0, v1, v2, v8, v16, v24, v29, vC, vE, vL, vK, vT⟩ := id hV
  have C_c9 := vC c9
  show Z _ _ _ _ _ _ _ _ _ _ _ _ _ _ _ _ _ _ _ [(0, vR (g 0)), (1, vI c9)] []
  refine z_aload_n F dX9_openMinutes_0 rfl 0 rfl ?_
  refine z_aload_n F dX9_openMinutes_1 rfl 0 rfl ?_
  refine z_iload_n F dX9_openMinutes_2 rfl 1 rfl ?_
  refine z_callV (As := [vI c9]) (st := [vR (g 0)]) F (mX9_isNoClient l G N0 h g σ c9 hI hR (by omega) (by omega)) cvX9_120 (mI hI 0 rfl) (fun r9 h9 => by cases h9; rfl) rfl rfl ⟨Nat.le_of_ble_eq_true rfl, Nat.le_of_ble_eq_true rfl⟩ rfl ⟨Nat.le_of_ble_eq_true rfl, Nat.le_of_ble_eq_true rfl⟩ dX9_openMinutes_3 ?_
  rintro _ h9 ⟨rfl, hh9⟩
  rw [hh9]
  clear hh9 h9
  generalize ex1 : (if 0 ≤ c9 ∧ c9 < σ 2 0 then (0 : Int) else 1) = x1
  show Z _ _ _ _ _ _ _ _ _ _ _ _ _ _ _ _ _ _ _ _ [vI x1, vR (g 0)]
  refine z_if_eq (tgt := 13) F dX9_openMinutes_6 (by decide) (by omega) (fun c6 => ?_) (fun c6 => ?_)
  · refine z_iconst F dX9_openMinutes_13 ?_
    refine z_callV (As := [vI 0]) (st := []) F (mX9_fails l G N0 h g σ 0 hI hR (by decide)) cvX9_107 (mI hI 0 rfl) (fun r9 h9 => by cases h9; rfl) rfl rfl ⟨Nat.le_of_ble_eq_true rfl, Nat.le_of_ble_eq_true rfl⟩ rfl ⟨Nat.le_of_ble_eq_true rfl, Nat.le_of_ble_eq_true rfl⟩ dX9_openMinutes_14 ?_
    rintro _ h2 ⟨rfl, Ih2⟩
    rw [if_neg (by decide)]
    show Z _ _ _ _ _ _ _ _ _ _ _ _ _ _ _ _ _ _ _ _ [vI 0]
    refine z_if_eq (tgt := 24) F dX9_openMinutes_17 (by decide) (by decide) (fun c17 => ?_) (fun c17 => ?_)
    · refine z_aload_n F dX9_openMinutes_24 rfl 0 rfl ?_
      refine z_iload_n F dX9_openMinutes_25 rfl 1 rfl ?_
      refine z_callV (As := [vI c9]) (st := []) F (mX9_openOf l G N0 h2 g (su σ 30 0 0) c9 Ih2 (rg_su hR (by decide)) hV (show 0 ≤ c9 ∧ c9 < σ 2 0 from by omega)) cvX9_189 (mI Ih2 0 rfl) (fun r9 h9 => by cases h9; rfl) rfl rfl ⟨Nat.le_of_ble_eq_true rfl, Nat.le_of_ble_eq_true rfl⟩ rfl ⟨Nat.le_of_ble_eq_true rfl, Nat.le_of_ble_eq_true rfl⟩ dX9_openMinutes_26 ?_
      rintro _ h3 ⟨sh3, dh3, rfl, Ih3, Rsh3, Rdh3⟩
      have eoh3 : opS (su σ 30 0 0) c9 = opS σ c9 := by show opO _ _ _ (secS (su σ 30 0 0)) (dyF (su σ 30 0 0)) _ _ _ _ _ = _; rw [secSf_c, dyF_c]; rfl
      rw [eoh3]
      show Z _ _ _ _ _ _ _ _ _ _ _ _ _ _ _ _ _ _ _ _ [vI (opS σ c9)]
      exact z_iret (nf_i _) F hr (Nat.le_of_ble_eq_true rfl) (Nat.le_of_ble_eq_true rfl) dX9_openMinutes_29 (Or.inr (⟨by omega, rI (rfl), sh3, dh3, Ih3, Rsh3, Rdh3⟩))
    · exact absurd c17 (by decide)
  · refine z_iconst F dX9_openMinutes_9 ?_
    refine z_goto (tgt := 14) F dX9_openMinutes_10 (by decide) ?_
    refine z_callV (As := [vI 1]) (st := []) F (mX9_fails l G N0 h g σ 1 hI hR (by decide)) cvX9_107 (mI hI 0 rfl) (fun r9 h9 => by cases h9; rfl) rfl rfl ⟨Nat.le_of_ble_eq_true rfl, Nat.le_of_ble_eq_true rfl⟩ rfl ⟨Nat.le_of_ble_eq_true rfl, Nat.le_of_ble_eq_true rfl⟩ dX9_openMinutes_14 ?_
    rintro _ h4 ⟨rfl, Ih4⟩
    rw [if_pos (by decide)]
    show Z _ _ _ _ _ _ _ _ _ _ _ _ _ _ _ _ _ _ _ _ [vI 1]
    refine z_if_eq (tgt := 24) F dX9_openMinutes_17 (by decide) (by decide) (fun c17 => ?_) (fun c17 => ?_)
    · exact absurd c17 (by decide)
    · refine z_iconst F dX9_openMinutes_20 ?_
      refine z_goto (tgt := 29) F dX9_openMinutes_21 (by decide) ?_
      exact z_iret (nf_i _) F hr (Nat.le_of_ble_eq_true rfl) (Nat.le_of_ble_eq_true rfl) dX9_openMinutes_29 (Or.inl ⟨by omega, rfl, Ih4⟩)
set_option maxRecDepth 100000 in
set_option maxHeartbeats 4000000 in
theorem mX9_openMinutesByLines (l : Launch) (G : GG) (N0 : Nat) (h : Hp) (g : Nat → Nat) (σ : Sg) (c9 : Int) (hI : MI g σ h) (hR : RG σ) (hV : MV σ) (r_c9 : -2147483648 ≤ c9 ∧ c9 < 2147483648) : Ct l G N0 yX9_openMinutesByLines (Cond.code yX9_openMinutesByLines cX9_openMinutesByLines 2 (some FieldType.int) :: LW) ({ frames := 5, cells := 0, slots := 0, locals := 180 }) [vR (g 0), vI c9] h (fun r h' => ((¬ (0 ≤ c9 ∧ c9 < σ 2 0)) ∧ r = some (vI 0) ∧ MI g (su σ 30 0 1) h') ∨ (¬ (¬ (0 ≤ c9 ∧ c9 < σ 2 0)) ∧ r = some (vI (opS σ c9)) ∧ ∃ s d : Int → Int, MI g (sw (sw (su σ 30 0 0) 14 s) 15 d) h' ∧ (∀ j, -2147483648 ≤ s j ∧ s j < 2147483648) ∧ (∀ j, -2147483648 ≤ d j ∧ d j < 2147483648))) := by
  refine ct_of rfl rfl ?_
  intro p e s m args below meth c F hr hnm
  have F : Fx p s m args meth c RX9 cX9_openMinutesByLines 2 G N0 (cA h s.heap.size) := F
  obtain ⟨v0, v1, v2, v8, v16, v24, v29, vC, vE, vL, vK, vT⟩ := id hV
  have C_c9 := vC c9
  show Z _ _ _ _ _ _ _ _ _ _ _ _ _ _ _ _ _ _ _ [(0, vR (g 0)), (1, vI c9)] []
  refine z_aload_n F dX9_openMinutesByLines_0 rfl 0 rfl ?_
  refine z_aload_n F dX9_openMinutesByLines_1 rfl 0 rfl ?_
  refine z_iload_n F dX9_openMinutesByLines_2 rfl 1 rfl ?_
  refine z_callV (As := [vI c9]) (st := [vR (g 0)]) F (mX9_isNoClient l G N0 h g σ c9 hI hR (by omega) (by omega)) cvX9_120 (mI hI 0 rfl) (fun r9 h9 => by cases h9; rfl) rfl rfl ⟨Nat.le_of_ble_eq_true rfl, Nat.le_of_ble_eq_true rfl⟩ rfl ⟨Nat.le_of_ble_eq_true rfl, Nat.le_of_ble_eq_true rfl⟩ dX9_openMinutesByLines_3 ?_
  rintro _ h9 ⟨rfl, hh9⟩
  rw [hh9]
  clear hh9 h9
  generalize ex1 : (if 0 ≤ c9 ∧ c9 < σ 2 0 then (0 : Int) else 1) = x1
  show Z _ _ _ _ _ _ _ _ _ _ _ _ _ _ _ _ _ _ _ _ [vI x1, vR (g 0)]
  refine z_if_eq (tgt := 13) F dX9_openMinutesByLines_6 (by decide) (by omega) (fun c6 => ?_) (fun c6 => ?_)
  · refine z_iconst F dX9_openMinutesByLines_13 ?_
    refine z_callV (As := [vI 0]) (st := []) F (mX9_fails l G N0 h g σ 0 hI hR (by decide)) cvX9_107 (mI hI 0 rfl) (fun r9 h9 => by cases h9; rfl) rfl rfl ⟨Nat.le_of_ble_eq_true rfl, Nat.le_of_ble_eq_true rfl⟩ rfl ⟨Nat.le_of_ble_eq_true rfl, Nat.le_of_ble_eq_true rfl⟩ dX9_openMinutesByLines_14 ?_
    rintro _ h2 ⟨rfl, Ih2⟩
    rw [if_neg (by decide)]
    show Z _ _ _ _ _ _ _ _ _ _ _ _ _ _ _ _ _ _ _ _ [vI 0]
    refine z_if_eq (tgt := 24) F dX9_openMinutesByLines_17 (by decide) (by decide) (fun c17 => ?_) (fun c17 => ?_)
    · refine z_aload_n F dX9_openMinutesByLines_24 rfl 0 rfl ?_
      refine z_iload_n F dX9_openMinutesByLines_25 rfl 1 rfl ?_
      refine z_callV (As := [vI c9]) (st := []) F (mX9_openOf l G N0 h2 g (su σ 30 0 0) c9 Ih2 (rg_su hR (by decide)) hV (show 0 ≤ c9 ∧ c9 < σ 2 0 from by omega)) cvX9_189 (mI Ih2 0 rfl) (fun r9 h9 => by cases h9; rfl) rfl rfl ⟨Nat.le_of_ble_eq_true rfl, Nat.le_of_ble_eq_true rfl⟩ rfl ⟨Nat.le_of_ble_eq_true rfl, Nat.le_of_ble_eq_true rfl⟩ dX9_openMinutesByLines_26 ?_
      rintro _ h3 ⟨sh3, dh3, rfl, Ih3, Rsh3, Rdh3⟩
      have eoh3 : opS (su σ 30 0 0) c9 = opS σ c9 := by show opO _ _ _ (secS (su σ 30 0 0)) (dyF (su σ 30 0 0)) _ _ _ _ _ = _; rw [secSf_c, dyF_c]; rfl
      rw [eoh3]
      show Z _ _ _ _ _ _ _ _ _ _ _ _ _ _ _ _ _ _ _ _ [vI (opS σ c9)]
      exact z_iret (nf_i _) F hr (Nat.le_of_ble_eq_true rfl) (Nat.le_of_ble_eq_true rfl) dX9_openMinutesByLines_29 (Or.inr (⟨by omega, rI (rfl), sh3, dh3, Ih3, Rsh3, Rdh3⟩))
    · exact absurd c17 (by decide)
  · refine z_iconst F dX9_openMinutesByLines_9 ?_
    refine z_goto (tgt := 14) F dX9_openMinutesByLines_10 (by decide) ?_
    refine z_callV (As := [vI 1]) (st := []) F (mX9_fails l G N0 h g σ 1 hI hR (by decide)) cvX9_107 (mI hI 0 rfl) (fun r9 h9 => by cases h9; rfl) rfl rfl ⟨Nat.le_of_ble_eq_true rfl, Nat.le_of_ble_eq_true rfl⟩ rfl ⟨Nat.le_of_ble_eq_true rfl, Nat.le_of_ble_eq_true rfl⟩ dX9_openMinutesByLines_14 ?_
    rintro _ h4 ⟨rfl, Ih4⟩
    rw [if_pos (by decide)]
    show Z _ _ _ _ _ _ _ _ _ _ _ _ _ _ _ _ _ _ _ _ [vI 1]
    refine z_if_eq (tgt := 24) F dX9_openMinutesByLines_17 (by decide) (by decide) (fun c17 => ?_) (fun c17 => ?_)
    · exact absurd c17 (by decide)
    · refine z_iconst F dX9_openMinutesByLines_20 ?_
      refine z_goto (tgt := 29) F dX9_openMinutesByLines_21 (by decide) ?_
      exact z_iret (nf_i _) F hr (Nat.le_of_ble_eq_true rfl) (Nat.le_of_ble_eq_true rfl) dX9_openMinutesByLines_29 (Or.inl ⟨by omega, rfl, Ih4⟩)
