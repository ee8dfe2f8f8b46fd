theorem mo_sc {ρ b : Sg} {p f : Int → Int} {k : Nat} (hk : (scrB k || oB k) = false) : (sw (sw (mo ρ b) 34 p) 14 f) k = ρ k := by
  have n14 : k ≠ 14 := fun z => by rw [z] at hk; cases hk
  have n34 : k ≠ 34 := fun z => by rw [z] at hk; cases hk
  have ho : oB k = false := by
    cases e : oB k with
    | true => rw [e, Bool.or_true] at hk; cases hk
    | false => rfl
  funext j
  show (if k = 14 then f j else if k = 34 then p j else mo ρ b k j) = _
  rw [if_neg n14, if_neg n34]
  unfold mo
  rw [ho]
  rfl
set_option maxRecDepth 100000 in
set_option maxHeartbeats 4000000 in
theorem mX8_writeEntry (l : Launch) (G : GG) (N0 : Nat) (h : Hp) (hl9 : l.stackTraces = false) (g : Int → Nat) (ρ : Sg) (e9 : Int) (hI : CI G g ρ h) (hV : MC ρ) (r_e9 : -2147483648 ≤ e9 ∧ e9 < 2147483648) : CtX l G N0 yX8_writeEntry (Cond.code yX8_writeEntry cX8_writeEntry 3 (some FieldType.int) :: LW) ({ frames := 9, cells := 12, slots := 1000, locals := 460 }) [vR (g 0), vI e9] h (fun r h' => ¬ (¬ (0 ≤ e9 ∧ e9 < ρ 8 0)) ∧ ∃ ρ', r = some (vI ((weL ρ e9).length : Int)) ∧ (∀ k, (scrB k || oB k) = false → ρ' k = ρ k) ∧ OU ρ' (weL ρ e9) ∧ CI G g ρ' h') (fun E h' => ∃ ρ', SA ρ ρ' ∧ CI G g ρ' h' ∧ ((E = "java/lang/IndexOutOfBoundsException" ∧ (¬ (0 ≤ e9 ∧ e9 < ρ 8 0))))) := by
  refine ctX_of rfl rfl ?_
  intro p e s m args below meth c F hr htab
  have F : Fx p s m args meth c RX8 cX8_writeEntry 3 G N0 (cA h s.heap.size) := F
  obtain ⟨v0, v1, v2, v8, v16, v24, v39, vC, vE, vJ, vK, vB, vO⟩ := id hV
  have E9 := vE e9
  show Z _ _ _ _ _ _ _ _ _ _ _ _ _ _ _ _ _ _ _ [(0, vR (g 0)), (1, vI e9)] []
  refine z_aload_n F dX8_writeEntry_0 rfl 0 rfl ?_
  refine z_iload_n F dX8_writeEntry_1 rfl 1 rfl ?_
  refine z_xcallV (As := [vI e9]) (st := []) F htab (mX8_entryAt l G N0 h hl9 g ρ e9 hI hV (by omega)) cvX8_138 (ci_0 hI) (fun r9 h9 => by cases h9; rfl) rfl rfl ⟨Nat.le_of_ble_eq_true rfl, Nat.le_of_ble_eq_true rfl⟩ rfl ⟨Nat.le_of_ble_eq_true rfl, Nat.le_of_ble_eq_true rfl⟩ dX8_writeEntry_2 (fun E h9 hx => by obtain ⟨e1, rfl⟩ := hx; refine ⟨ρ, SA.refl _, hI, ?_⟩; obtain ⟨rfl, e2⟩ := e1; first | exact ⟨rfl, by omega⟩) (Nat.le_of_ble_eq_true rfl) (Nat.le_of_ble_eq_true rfl) ?_
  rintro _ h9 ⟨f2_0, rfl, hh9⟩
  rw [hh9]
  clear hh9 h9
  show Z _ _ _ _ _ _ _ _ _ _ _ _ _ _ _ _ _ _ _ _ [vR (aE ρ e9)]
  refine z_astore_n (lv' := [(2, vR (aE ρ e9)), (0, vR (g 0)), (1, vI e9)]) F dX8_writeEntry_5 rfl (by decide) rfl ?_
  refine z_aload_n F dX8_writeEntry_6 rfl 1 rfl ?_
  refine z_get (v := vR (g 2)) F (ci_0 hI) fX8_21 rfl dX8_writeEntry_7 ?_
  refine z_aload_n F dX8_writeEntry_10 rfl 0 rfl ?_
  refine z_get (v := vI (ρ 10 e9)) F (ci_e hI (show 0 ≤ e9 ∧ e9 < ρ 8 0 ∧ e9 < 100 from by omega)) fX8_152 rfl dX8_writeEntry_11 ?_
  refine z_aload_n F dX8_writeEntry_14 rfl 0 rfl ?_
  refine z_get (v := vI (ρ 11 e9)) F (ci_e hI (show 0 ≤ e9 ∧ e9 < ρ 8 0 ∧ e9 < 100 from by omega)) fX8_149 rfl dX8_writeEntry_15 ?_
  refine z_callV (As := [vI (ρ 10 e9), vI (ρ 11 e9)]) (st := []) F (mX6_countByIntervals0 l G N0 h g ρ (ρ 10 e9) (ρ 11 e9) hI hV (by omega)) cvX8_173 (ci_2 hI) (fun r9 h9 => by cases h9; rfl) rfl rfl ⟨Nat.le_of_ble_eq_true rfl, Nat.le_of_ble_eq_true rfl⟩ rfl ⟨Nat.le_of_ble_eq_true rfl, Nat.le_of_ble_eq_true rfl⟩ dX8_writeEntry_18 ?_
  rintro _ h5 ⟨rfl, p5, f5, I5, hf5⟩
  show Z _ _ _ _ _ _ _ _ _ _ _ _ _ _ _ _ _ _ _ _ []
  refine z_aload_n F dX8_writeEntry_21 rfl 1 rfl ?_
  refine z_get (v := vR (g 13)) F (ci_0 (ρ := (sw (sw ρ 34 p5) 14 f5)) I5) fX8_53 rfl dX8_writeEntry_22 ?_
  refine z_iconst F dX8_writeEntry_25 ?_
  refine z_callV (As := [vI 0]) (st := []) F (cOut0 l G N0 h5 g (sw (sw ρ 34 p5) 14 f5) I5 ⟨vO.1, vO.2.1, vO.2.2.1⟩) cvX8_184 (ci_13 (ρ := (sw (sw ρ 34 p5) 14 f5)) I5) (fun r9 h9 => by cases h9; rfl) rfl rfl ⟨Nat.le_of_ble_eq_true rfl, Nat.le_of_ble_eq_true rfl⟩ rfl ⟨Nat.le_of_ble_eq_true rfl, Nat.le_of_ble_eq_true rfl⟩ dX8_writeEntry_26 ?_
  rintro _ h1 ⟨rfl, b1, q1, O1, J1⟩
  have I1 : CI G g (sw (sw (mo ρ b1) 34 p5) 14 f5) h1 := CI.eq J1 (mo_of (b := ρ) (by rw [mo_self]; exact q1))
  have hl0 : (([] : List Int).length : Int) = 0 := rfl
  show Z _ _ _ _ _ _ _ _ _ _ _ _ _ _ _ _ _ _ _ _ []
  refine z_aload_n F dX8_writeEntry_29 rfl 1 rfl ?_
  refine z_get (v := vR (g 13)) F (ci_0 (ρ := (sw (sw (mo ρ b1) 34 p5) 14 f5)) I1) fX8_53 rfl dX8_writeEntry_30 ?_
  refine z_aload_n F dX8_writeEntry_33 rfl 0 rfl ?_
  refine z_get (v := vI e9) F (ci_e (ρ := (sw (sw (mo ρ b1) 34 p5) 14 f5)) I1 (show 0 ≤ e9 ∧ e9 < ρ 8 0 ∧ e9 < 100 from by omega)) fX8_187 rfl dX8_writeEntry_34 ?_
  have zs2 := szI_in e9
  have zd2 := decL_sz e9
  have hs2 : szI e9 ≤ 2 := by omega
  refine z_callV (As := [vI e9]) (st := []) F (cOutI l G N0 h1 g (sw (sw (mo ρ b1) 34 p5) 14 f5) [] e9 I1 (show OU (sw (sw (mo ρ b1) 34 p5) 14 f5) [] from O1) (by omega) (by omega)) cvX8_190 (ci_13 (ρ := (sw (sw (mo ρ b1) 34 p5) 14 f5)) I1) (fun r9 h9 => by cases h9; rfl) rfl rfl ⟨Nat.le_of_ble_eq_true rfl, Nat.le_of_ble_eq_true rfl⟩ rfl ⟨Nat.le_of_ble_eq_true rfl, Nat.le_of_ble_eq_true rfl⟩ dX8_writeEntry_37 ?_
  rintro _ h2 ⟨rfl, b2, q2, O2, J2⟩
  have I2 : CI G g (sw (sw (mo ρ b2) 34 p5) 14 f5) h2 := CI.eq J2 (mo_of q2)
  have hl2 : (([] ++ decL e9).length : Int) ≤ 2 := by rw [List.length_append]; show ((([] : List Int).length + (decL e9).length : Nat) : Int) ≤ 2; omega
  show Z _ _ _ _ _ _ _ _ _ _ _ _ _ _ _ _ _ _ _ _ [vR (g 13)]
  refine z_aload_n F dX8_writeEntry_40 rfl 0 rfl ?_
  refine z_get (v := vI (ρ 12 e9)) F (ci_e (ρ := (sw (sw (mo ρ b2) 34 p5) 14 f5)) I2 (show 0 ≤ e9 ∧ e9 < ρ 8 0 ∧ e9 < 100 from by omega)) fX8_142 rfl dX8_writeEntry_41 ?_
  refine z_callV (As := [vI (ρ 12 e9)]) (st := []) F (cOutC l G N0 h2 g (sw (sw (mo ρ b2) 34 p5) 14 f5) ([] ++ decL e9) (ρ 12 e9) I2 (show OU (sw (sw (mo ρ b2) 34 p5) 14 f5) ([] ++ decL e9) from O2) (by omega) (by omega)) cvX8_193 (ci_13 (ρ := (sw (sw (mo ρ b2) 34 p5) 14 f5)) I2) (fun r9 h9 => by cases h9; rfl) rfl rfl ⟨Nat.le_of_ble_eq_true rfl, Nat.le_of_ble_eq_true rfl⟩ rfl ⟨Nat.le_of_ble_eq_true rfl, Nat.le_of_ble_eq_true rfl⟩ dX8_writeEntry_44 ?_
  rintro _ h3 ⟨rfl, b3, q3, O3, J3⟩
  have I3 : CI G g (sw (sw (mo ρ b3) 34 p5) 14 f5) h3 := CI.eq J3 (mo_of q3)
  have hl3 : ((([] ++ decL e9) ++ [ρ 12 e9]).length : Int) ≤ 3 := by rw [List.length_append]; show (((([] ++ decL e9) : List Int).length + 1 : Nat) : Int) ≤ 3; omega
  show Z _ _ _ _ _ _ _ _ _ _ _ _ _ _ _ _ _ _ _ _ [vR (g 13)]
  refine z_aload_n F dX8_writeEntry_47 rfl 0 rfl ?_
  refine z_get (v := vR (aC ρ (ρ 9 e9))) F (ci_e (ρ := (sw (sw (mo ρ b3) 34 p5) 14 f5)) I3 (show 0 ≤ e9 ∧ e9 < ρ 8 0 ∧ e9 < 100 from by omega)) fX8_196 rfl dX8_writeEntry_48 ?_
  refine z_get (v := vI (ρ 9 e9)) F (ci_c (ρ := (sw (sw (mo ρ b3) 34 p5) 14 f5)) I3 (show 0 ≤ ρ 9 e9 ∧ ρ 9 e9 < ρ 2 0 ∧ ρ 9 e9 < 100 from by omega)) fX8_200 rfl dX8_writeEntry_51 ?_
  have zs4 := szI_in (ρ 9 e9)
  have zd4 := decL_sz (ρ 9 e9)
  have hs4 : szI (ρ 9 e9) ≤ 1 := by omega
  refine z_callV (As := [vI (ρ 9 e9)]) (st := []) F (cOutI l G N0 h3 g (sw (sw (mo ρ b3) 34 p5) 14 f5) (([] ++ decL e9) ++ [ρ 12 e9]) (ρ 9 e9) I3 (show OU (sw (sw (mo ρ b3) 34 p5) 14 f5) (([] ++ decL e9) ++ [ρ 12 e9]) from O3) (by omega) (by omega)) cvX8_190 (ci_13 (ρ := (sw (sw (mo ρ b3) 34 p5) 14 f5)) I3) (fun r9 h9 => by cases h9; rfl) rfl rfl ⟨Nat.le_of_ble_eq_true rfl, Nat.le_of_ble_eq_true rfl⟩ rfl ⟨Nat.le_of_ble_eq_true rfl, Nat.le_of_ble_eq_true rfl⟩ dX8_writeEntry_54 ?_
  rintro _ h4 ⟨rfl, b4, q4, O4, J4⟩
  have I4 : CI G g (sw (sw (mo ρ b4) 34 p5) 14 f5) h4 := CI.eq J4 (mo_of q4)
  have hl4 : (((([] ++ decL e9) ++ [ρ 12 e9]) ++ decL (ρ 9 e9)).length : Int) ≤ 4 := by rw [List.length_append]; show ((((([] ++ decL e9) ++ [ρ 12 e9]) : List Int).length + (decL (ρ 9 e9)).length : Nat) : Int) ≤ 4; omega
  show Z _ _ _ _ _ _ _ _ _ _ _ _ _ _ _ _ _ _ _ _ [vR (g 13)]
  refine z_pop F dX8_writeEntry_57 rfl ?_
  refine z_aload_n F dX8_writeEntry_58 rfl 1 rfl ?_
  refine z_get (v := vR (g 13)) F (ci_0 (ρ := (sw (sw (mo ρ b4) 34 p5) 14 f5)) I4) fX8_53 rfl dX8_writeEntry_59 ?_
  refine z_bipush F dX8_writeEntry_62 (by decide) ?_
  refine z_callV (As := [vI 58]) (st := []) F (cOutC l G N0 h4 g (sw (sw (mo ρ b4) 34 p5) 14 f5) ((([] ++ decL e9) ++ [ρ 12 e9]) ++ decL (ρ 9 e9)) 58 I4 (show OU (sw (sw (mo ρ b4) 34 p5) 14 f5) ((([] ++ decL e9) ++ [ρ 12 e9]) ++ decL (ρ 9 e9)) from O4) (by omega) (by omega)) cvX8_193 (ci_13 (ρ := (sw (sw (mo ρ b4) 34 p5) 14 f5)) I4) (fun r9 h9 => by cases h9; rfl) rfl rfl ⟨Nat.le_of_ble_eq_true rfl, Nat.le_of_ble_eq_true rfl⟩ rfl ⟨Nat.le_of_ble_eq_true rfl, Nat.le_of_ble_eq_true rfl⟩ dX8_writeEntry_64 ?_
  rintro _ h5 ⟨rfl, b5, q5, O5, J5⟩
  have I5 : CI G g (sw (sw (mo ρ b5) 34 p5) 14 f5) h5 := CI.eq J5 (mo_of q5)
  have hl5 : ((((([] ++ decL e9) ++ [ρ 12 e9]) ++ decL (ρ 9 e9)) ++ [58]).length : Int) ≤ 5 := by rw [List.length_append]; show (((((([] ++ decL e9) ++ [ρ 12 e9]) ++ decL (ρ 9 e9)) : List Int).length + 1 : Nat) : Int) ≤ 5; omega
  show Z _ _ _ _ _ _ _ _ _ _ _ _ _ _ _ _ _ _ _ _ [vR (g 13)]
  refine z_aload_n F dX8_writeEntry_67 rfl 0 rfl ?_
  refine z_get (v := vI (ρ 10 e9)) F (ci_e (ρ := (sw (sw (mo ρ b5) 34 p5) 14 f5)) I5 (show 0 ≤ e9 ∧ e9 < ρ 8 0 ∧ e9 < 100 from by omega)) fX8_152 rfl dX8_writeEntry_68 ?_
  have zs6 := szI_in (ρ 10 e9)
  have zd6 := decL_sz (ρ 10 e9)
  have hs6 : szI (ρ 10 e9) ≤ 4 := by omega
  refine z_callV (As := [vI (ρ 10 e9)]) (st := []) F (cOutI l G N0 h5 g (sw (sw (mo ρ b5) 34 p5) 14 f5) (((([] ++ decL e9) ++ [ρ 12 e9]) ++ decL (ρ 9 e9)) ++ [58]) (ρ 10 e9) I5 (show OU (sw (sw (mo ρ b5) 34 p5) 14 f5) (((([] ++ decL e9) ++ [ρ 12 e9]) ++ decL (ρ 9 e9)) ++ [58]) from O5) (by omega) (by omega)) cvX8_190 (ci_13 (ρ := (sw (sw (mo ρ b5) 34 p5) 14 f5)) I5) (fun r9 h9 => by cases h9; rfl) rfl rfl ⟨Nat.le_of_ble_eq_true rfl, Nat.le_of_ble_eq_true rfl⟩ rfl ⟨Nat.le_of_ble_eq_true rfl, Nat.le_of_ble_eq_true rfl⟩ dX8_writeEntry_71 ?_
  rintro _ h6 ⟨rfl, b6, q6, O6, J6⟩
  have I6 : CI G g (sw (sw (mo ρ b6) 34 p5) 14 f5) h6 := CI.eq J6 (mo_of q6)
  have hl6 : (((((([] ++ decL e9) ++ [ρ 12 e9]) ++ decL (ρ 9 e9)) ++ [58]) ++ decL (ρ 10 e9)).length : Int) ≤ 9 := by rw [List.length_append]; show ((((((([] ++ decL e9) ++ [ρ 12 e9]) ++ decL (ρ 9 e9)) ++ [58]) : List Int).length + (decL (ρ 10 e9)).length : Nat) : Int) ≤ 9; omega
  show Z _ _ _ _ _ _ _ _ _ _ _ _ _ _ _ _ _ _ _ _ [vR (g 13)]
  refine z_pop F dX8_writeEntry_74 rfl ?_
  refine z_aload_n F dX8_writeEntry_75 rfl 1 rfl ?_
  refine z_get (v := vR (g 13)) F (ci_0 (ρ := (sw (sw (mo ρ b6) 34 p5) 14 f5)) I6) fX8_53 rfl dX8_writeEntry_76 ?_
  refine z_bipush F dX8_writeEntry_79 (by decide) ?_
  refine z_callV (As := [vI 45]) (st := []) F (cOutC l G N0 h6 g (sw (sw (mo ρ b6) 34 p5) 14 f5) ((((([] ++ decL e9) ++ [ρ 12 e9]) ++ decL (ρ 9 e9)) ++ [58]) ++ decL (ρ 10 e9)) 45 I6 (show OU (sw (sw (mo ρ b6) 34 p5) 14 f5) ((((([] ++ decL e9) ++ [ρ 12 e9]) ++ decL (ρ 9 e9)) ++ [58]) ++ decL (ρ 10 e9)) from O6) (by omega) (by omega)) cvX8_193 (ci_13 (ρ := (sw (sw (mo ρ b6) 34 p5) 14 f5)) I6) (fun r9 h9 => by cases h9; rfl) rfl rfl ⟨Nat.le_of_ble_eq_true rfl, Nat.le_of_ble_eq_true rfl⟩ rfl ⟨Nat.le_of_ble_eq_true rfl, Nat.le_of_ble_eq_true rfl⟩ dX8_writeEntry_81 ?_
  rintro _ h7 ⟨rfl, b7, q7, O7, J7⟩
  have I7 : CI G g (sw (sw (mo ρ b7) 34 p5) 14 f5) h7 := CI.eq J7 (mo_of q7)
  have hl7 : ((((((([] ++ decL e9) ++ [ρ 12 e9]) ++ decL (ρ 9 e9)) ++ [58]) ++ decL (ρ 10 e9)) ++ [45]).length : Int) ≤ 10 := by rw [List.length_append]; show (((((((([] ++ decL e9) ++ [ρ 12 e9]) ++ decL (ρ 9 e9)) ++ [58]) ++ decL (ρ 10 e9)) : List Int).length + 1 : Nat) : Int) ≤ 10; omega
  show Z _ _ _ _ _ _ _ _ _ _ _ _ _ _ _ _ _ _ _ _ [vR (g 13)]
  refine z_aload_n F dX8_writeEntry_84 rfl 0 rfl ?_
  refine z_get (v := vI (ρ 11 e9)) F (ci_e (ρ := (sw (sw (mo ρ b7) 34 p5) 14 f5)) I7 (show 0 ≤ e9 ∧ e9 < ρ 8 0 ∧ e9 < 100 from by omega)) fX8_149 rfl dX8_writeEntry_85 ?_
  have zs8 := szI_in (ρ 11 e9)
  have zd8 := decL_sz (ρ 11 e9)
  have hs8 : szI (ρ 11 e9) ≤ 4 := by omega
  refine z_callV (As := [vI (ρ 11 e9)]) (st := []) F (cOutI l G N0 h7 g (sw (sw (mo ρ b7) 34 p5) 14 f5) (((((([] ++ decL e9) ++ [ρ 12 e9]) ++ decL (ρ 9 e9)) ++ [58]) ++ decL (ρ 10 e9)) ++ [45]) (ρ 11 e9) I7 (show OU (sw (sw (mo ρ b7) 34 p5) 14 f5) (((((([] ++ decL e9) ++ [ρ 12 e9]) ++ decL (ρ 9 e9)) ++ [58]) ++ decL (ρ 10 e9)) ++ [45]) from O7) (by omega) (by omega)) cvX8_190 (ci_13 (ρ := (sw (sw (mo ρ b7) 34 p5) 14 f5)) I7) (fun r9 h9 => by cases h9; rfl) rfl rfl ⟨Nat.le_of_ble_eq_true rfl, Nat.le_of_ble_eq_true rfl⟩ rfl ⟨Nat.le_of_ble_eq_true rfl, Nat.le_of_ble_eq_true rfl⟩ dX8_writeEntry_88 ?_
  rintro _ h8 ⟨rfl, b8, q8, O8, J8⟩
  have I8 : CI G g (sw (sw (mo ρ b8) 34 p5) 14 f5) h8 := CI.eq J8 (mo_of q8)
  have hl8 : (((((((([] ++ decL e9) ++ [ρ 12 e9]) ++ decL (ρ 9 e9)) ++ [58]) ++ decL (ρ 10 e9)) ++ [45]) ++ decL (ρ 11 e9)).length : Int) ≤ 14 := by rw [List.length_append]; show ((((((((([] ++ decL e9) ++ [ρ 12 e9]) ++ decL (ρ 9 e9)) ++ [58]) ++ decL (ρ 10 e9)) ++ [45]) : List Int).length + (decL (ρ 11 e9)).length : Nat) : Int) ≤ 14; omega
  show Z _ _ _ _ _ _ _ _ _ _ _ _ _ _ _ _ _ _ _ _ [vR (g 13)]
  refine z_pop F dX8_writeEntry_91 rfl ?_
  refine z_aload_n F dX8_writeEntry_92 rfl 1 rfl ?_
  refine z_get (v := vR (g 13)) F (ci_0 (ρ := (sw (sw (mo ρ b8) 34 p5) 14 f5)) I8) fX8_53 rfl dX8_writeEntry_93 ?_
  refine z_bipush F dX8_writeEntry_96 (by decide) ?_
  refine z_callV (As := [vI 61]) (st := []) F (cOutC l G N0 h8 g (sw (sw (mo ρ b8) 34 p5) 14 f5) ((((((([] ++ decL e9) ++ [ρ 12 e9]) ++ decL (ρ 9 e9)) ++ [58]) ++ decL (ρ 10 e9)) ++ [45]) ++ decL (ρ 11 e9)) 61 I8 (show OU (sw (sw (mo ρ b8) 34 p5) 14 f5) ((((((([] ++ decL e9) ++ [ρ 12 e9]) ++ decL (ρ 9 e9)) ++ [58]) ++ decL (ρ 10 e9)) ++ [45]) ++ decL (ρ 11 e9)) from O8) (by omega) (by omega)) cvX8_193 (ci_13 (ρ := (sw (sw (mo ρ b8) 34 p5) 14 f5)) I8) (fun r9 h9 => by cases h9; rfl) rfl rfl ⟨Nat.le_of_ble_eq_true rfl, Nat.le_of_ble_eq_true rfl⟩ rfl ⟨Nat.le_of_ble_eq_true rfl, Nat.le_of_ble_eq_true rfl⟩ dX8_writeEntry_98 ?_
  rintro _ h9 ⟨rfl, b9, q9, O9, J9⟩
  have I9 : CI G g (sw (sw (mo ρ b9) 34 p5) 14 f5) h9 := CI.eq J9 (mo_of q9)
  have hl9 : ((((((((([] ++ decL e9) ++ [ρ 12 e9]) ++ decL (ρ 9 e9)) ++ [58]) ++ decL (ρ 10 e9)) ++ [45]) ++ decL (ρ 11 e9)) ++ [61]).length : Int) ≤ 15 := by rw [List.length_append]; show (((((((((([] ++ decL e9) ++ [ρ 12 e9]) ++ decL (ρ 9 e9)) ++ [58]) ++ decL (ρ 10 e9)) ++ [45]) ++ decL (ρ 11 e9)) : List Int).length + 1 : Nat) : Int) ≤ 15; omega
  show Z _ _ _ _ _ _ _ _ _ _ _ _ _ _ _ _ _ _ _ _ [vR (g 13)]
  refine z_aload_n F dX8_writeEntry_101 rfl 1 rfl ?_
  refine z_get (v := vR (g 2)) F (ci_0 (ρ := (sw (sw (mo ρ b9) 34 p5) 14 f5)) I9) fX8_21 rfl dX8_writeEntry_102 ?_
  refine z_aload_n F dX8_writeEntry_105 rfl 0 rfl ?_
  have hcs : (if ρ 12 e9 = 102 then ρ 13 e9 else sumI f5 (5 * e9) 5) = secS ρ e9 := cnt_is hV hf5 (by omega) (by omega)
  have hsb := secS_b hV (e := e9) (by omega) (by omega)
  refine z_callV (As := [vR (aE ρ e9)]) (st := [vR (g 13)]) F (mX6_secondsOf0 l G N0 h9 g (sw (sw (mo ρ b9) 34 p5) 14 f5) e9 I9 (show 0 ≤ e9 ∧ e9 < ρ 8 0 from by omega) (show ρ 8 0 ≤ 24 from by omega) (show 0 ≤ ρ 12 e9 ∧ ρ 12 e9 ≤ 200 from by omega)) cvX8_177 (ci_2 (ρ := (sw (sw (mo ρ b9) 34 p5) 14 f5)) I9) (fun r9 h9 => by cases h9; rfl) rfl rfl ⟨Nat.le_of_ble_eq_true rfl, Nat.le_of_ble_eq_true rfl⟩ rfl ⟨Nat.le_of_ble_eq_true rfl, Nat.le_of_ble_eq_true rfl⟩ dX8_writeEntry_106 ?_
  rintro _ h9 ⟨rfl, hh9⟩
  rw [hh9]
  clear hh9 h9
  show Z _ _ _ _ _ _ _ _ _ _ _ _ _ _ _ _ _ _ _ _ [vI (if ρ 12 e9 = 102 then ρ 13 e9 else sumI f5 (5 * e9) 5), vR (g 13)]
  rw [hcs]
  show Z _ _ _ _ _ _ _ _ _ _ _ _ _ _ _ _ _ _ _ _ [vI (secS ρ e9), vR (g 13)]
  have zs10 := szI_in (secS ρ e9)
  have zd10 := decL_sz (secS ρ e9)
  have hs10 : szI (secS ρ e9) ≤ 6 := by omega
  refine z_callV (As := [vI (secS ρ e9)]) (st := []) F (cOutI l G N0 h9 g (sw (sw (mo ρ b9) 34 p5) 14 f5) (((((((([] ++ decL e9) ++ [ρ 12 e9]) ++ decL (ρ 9 e9)) ++ [58]) ++ decL (ρ 10 e9)) ++ [45]) ++ decL (ρ 11 e9)) ++ [61]) (secS ρ e9) I9 (show OU (sw (sw (mo ρ b9) 34 p5) 14 f5) (((((((([] ++ decL e9) ++ [ρ 12 e9]) ++ decL (ρ 9 e9)) ++ [58]) ++ decL (ρ 10 e9)) ++ [45]) ++ decL (ρ 11 e9)) ++ [61]) from O9) (by omega) (by omega)) cvX8_190 (ci_13 (ρ := (sw (sw (mo ρ b9) 34 p5) 14 f5)) I9) (fun r9 h9 => by cases h9; rfl) rfl rfl ⟨Nat.le_of_ble_eq_true rfl, Nat.le_of_ble_eq_true rfl⟩ rfl ⟨Nat.le_of_ble_eq_true rfl, Nat.le_of_ble_eq_true rfl⟩ dX8_writeEntry_109 ?_
  rintro _ h10 ⟨rfl, b10, q10, O10, J10⟩
  have I10 : CI G g (sw (sw (mo ρ b10) 34 p5) 14 f5) h10 := CI.eq J10 (mo_of q10)
  have hl10 : (((((((((([] ++ decL e9) ++ [ρ 12 e9]) ++ decL (ρ 9 e9)) ++ [58]) ++ decL (ρ 10 e9)) ++ [45]) ++ decL (ρ 11 e9)) ++ [61]) ++ decL (secS ρ e9)).length : Int) ≤ 21 := by rw [List.length_append]; show ((((((((((([] ++ decL e9) ++ [ρ 12 e9]) ++ decL (ρ 9 e9)) ++ [58]) ++ decL (ρ 10 e9)) ++ [45]) ++ decL (ρ 11 e9)) ++ [61]) : List Int).length + (decL (secS ρ e9)).length : Nat) : Int) ≤ 21; omega
  show Z _ _ _ _ _ _ _ _ _ _ _ _ _ _ _ _ _ _ _ _ [vR (g 13)]
  refine z_pop F dX8_writeEntry_112 rfl ?_
  refine z_aload_n F dX8_writeEntry_113 rfl 1 rfl ?_
  refine z_get (v := vR (g 13)) F (ci_0 (ρ := (sw (sw (mo ρ b10) 34 p5) 14 f5)) I10) fX8_53 rfl dX8_writeEntry_114 ?_
  refine z_callV (As := []) (st := []) F (mJ4_length_8abf5 l G N0 h10 (g 13) ((b10 40 5).toNat) 0 (b10 38 0) (b10 29 0) (fun _ => 0) (ci_13 (ρ := (sw (sw (mo ρ b10) 34 p5) 14 f5)) I10)) cvX8_201 (ci_13 (ρ := (sw (sw (mo ρ b10) 34 p5) 14 f5)) I10) (fun r9 h9 => by cases h9; rfl) rfl rfl ⟨Nat.le_of_ble_eq_true rfl, Nat.le_of_ble_eq_true rfl⟩ rfl ⟨Nat.le_of_ble_eq_true rfl, Nat.le_of_ble_eq_true rfl⟩ dX8_writeEntry_117 ?_
  rintro _ h9 ⟨rfl, hh9⟩
  rw [hh9]
  clear hh9 h9
  show Z _ _ _ _ _ _ _ _ _ _ _ _ _ _ _ _ _ _ _ _ [vI (b10 29 0)]
  have hwe : weL ρ e9 = ((((((((([] ++ decL e9) ++ [ρ 12 e9]) ++ decL (ρ 9 e9)) ++ [58]) ++ decL (ρ 10 e9)) ++ [45]) ++ decL (ρ 11 e9)) ++ [61]) ++ decL (secS ρ e9)) := by unfold weL; rw [hV.en (by omega) (by omega)]
  exact z_iretX (nf_i _) F hr (Nat.le_of_ble_eq_true rfl) (Nat.le_of_ble_eq_true rfl) dX8_writeEntry_120 (⟨by omega, (sw (sw (mo ρ b10) 34 p5) 14 f5), by rw [hwe]; exact rI O10.2.1, fun k hk => mo_sc hk, by rw [hwe]; exact O10, I10⟩)
