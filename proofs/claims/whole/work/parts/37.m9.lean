set_option maxRecDepth 100000 in
set_option maxHeartbeats 4000000 in
theorem mX9_invoice (l : Launch) (G : GG) (N0 : Nat) (h : Hp) (g : Nat → Nat) (σ : Sg) (c9 : Int) (hI : MI g σ h) (hR : RG σ) (hV : MV σ) (r_c9 : -2147483648 ≤ c9 ∧ c9 < 2147483648) : Ct l G N0 yX9_invoice (Cond.code yX9_invoice cX9_invoice 3 (some FieldType.int) :: LW) ({ frames := 4, cells := 0, slots := 0, locals := 150 }) [vR (g 0), vI c9] h (fun r h' => (¬ (0 ≤ c9 ∧ c9 < σ 2 0) ∧ r = some (vI 0) ∧ MI g (su σ 30 0 1) h') ∨ (¬ (¬ (0 ≤ c9 ∧ c9 < σ 2 0)) ∧ (σ 16 0 = 8 ∨ (bhF (σ 9) (σ 12) (σ 10) c9 (-1) 0 (σ 8 0).toNat < 0 ∧ hcF σ c9 (σ 24 0).toNat = 0)) ∧ r = some (vI 0) ∧ MI g (su σ 30 0 2) h') ∨ (¬ (¬ (0 ≤ c9 ∧ c9 < σ 2 0)) ∧ ¬ (σ 16 0 = 8 ∨ (bhF (σ 9) (σ 12) (σ 10) c9 (-1) 0 (σ 8 0).toNat < 0 ∧ hcF σ c9 (σ 24 0).toNat = 0)) ∧ ∃ s d : Int → Int, r = some (vI (σ 16 0)) ∧ MI g (ivS σ s d c9) h' ∧ RF s ∧ RF d ∧ ((ivL σ c9).length : Int) ≤ 40 ∧ LB (ivL σ c9))) := by
  refine ct_of rfl rfl ?_
  intro p e s m args below meth c F hr hnm
  have F : Fx p s m args meth c RX9 cX9_invoice 3 G N0 (cA h s.heap.size) := F
  obtain ⟨v0, v1, v2, v8, v16, v24, v29, vC, vE, vL, vK, vT⟩ := id hV
  have C_c9 := vC c9
  have L_v := vL (σ 16 0)
  obtain ⟨Q, hQ⟩ : ∃ z, z = MQ below (cQc G N0 h s.heap.size (fun r h' => (¬ (0 ≤ c9 ∧ c9 < σ 2 0) ∧ r = some (vI 0) ∧ MI g (su σ 30 0 1) h') ∨ (¬ (¬ (0 ≤ c9 ∧ c9 < σ 2 0)) ∧ (σ 16 0 = 8 ∨ (bhF (σ 9) (σ 12) (σ 10) c9 (-1) 0 (σ 8 0).toNat < 0 ∧ hcF σ c9 (σ 24 0).toNat = 0)) ∧ r = some (vI 0) ∧ MI g (su σ 30 0 2) h') ∨ (¬ (¬ (0 ≤ c9 ∧ c9 < σ 2 0)) ∧ ¬ (σ 16 0 = 8 ∨ (bhF (σ 9) (σ 12) (σ 10) c9 (-1) 0 (σ 8 0).toNat < 0 ∧ hcF σ c9 (σ 24 0).toNat = 0)) ∧ ∃ s d : Int → Int, r = some (vI (σ 16 0)) ∧ MI g (ivS σ s d c9) h' ∧ RF s ∧ RF d ∧ ((ivL σ c9).length : Int) ≤ 40 ∧ LB (ivL σ c9)))) args s 0 0 (cA h s.heap.size) := ⟨_, rfl⟩
  rw [← hQ]
  show Z _ _ _ _ _ _ _ _ _ _ _ _ _ _ _ _ _ _ _ [(0, vR (g 0)), (1, vI c9)] []
  refine z_aload_n F dX9_invoice_0 rfl 0 rfl ?_
  refine z_aload_n F dX9_invoice_1 rfl 0 rfl ?_
  refine z_iload_n F dX9_invoice_2 rfl 1 rfl ?_
  refine z_callV (As := [vI c9]) (st := [vR (g 0)]) F (mX9_isNoClient l G N0 h g σ c9 hI hR (by omega) (by omega)) cvX9_120 (mI hI 0 rfl) (fun r9 h9 => by cases h9; rfl) rfl rfl ⟨Nat.le_of_ble_eq_true rfl, Nat.le_of_ble_eq_true rfl⟩ rfl ⟨Nat.le_of_ble_eq_true rfl, Nat.le_of_ble_eq_true rfl⟩ dX9_invoice_3 ?_
  rintro _ h9 ⟨rfl, hh9⟩
  rw [hh9]
  clear hh9 h9
  generalize ex1 : (if 0 ≤ c9 ∧ c9 < σ 2 0 then (0 : Int) else 1) = x1
  show Z _ _ _ _ _ _ _ _ _ _ _ _ _ _ _ _ _ _ _ _ [vI x1, vR (g 0)]
  refine z_if_eq (tgt := 13) F dX9_invoice_6 (by decide) (by omega) (fun c6 => ?_) (fun c6 => ?_)
  · refine z_aload_n F dX9_invoice_13 rfl 0 rfl ?_
    refine z_get (v := vI (σ 16 0)) F (mI hI 0 rfl) fX9_192 rfl dX9_invoice_14 ?_
    refine z_bipush F dX9_invoice_17 (by decide) ?_
    refine z_icmp_eq (tgt := 40) F dX9_invoice_19 (by decide) (hR 16 0) (by decide) (fun c19 => ?_) (fun c19 => ?_)
    · refine z_iconst F dX9_invoice_40 ?_
      refine z_goto (tgt := 45) F dX9_invoice_41 (by decide) ?_
      refine z_callV (As := [vI 2]) (st := []) F (mX9_fails l G N0 h g σ 2 hI hR (by decide)) cvX9_107 (mI hI 0 rfl) (fun r9 h9 => by cases h9; rfl) rfl rfl ⟨Nat.le_of_ble_eq_true rfl, Nat.le_of_ble_eq_true rfl⟩ rfl ⟨Nat.le_of_ble_eq_true rfl, Nat.le_of_ble_eq_true rfl⟩ dX9_invoice_45 ?_
      rintro _ h2 ⟨rfl, Ih2⟩
      rw [if_pos (by decide)]
      show Z _ _ _ _ _ _ _ _ _ _ _ _ _ _ _ _ _ _ _ _ [vI 1]
      refine z_if_eq (tgt := 53) F dX9_invoice_48 (by decide) (by decide) (fun c48 => ?_) (fun c48 => ?_)
      · exact absurd c48 (by decide)
      · refine z_iconst F dX9_invoice_51 ?_
        rw [hQ]
        exact z_iret (nf_i _) F hr (Nat.le_of_ble_eq_true rfl) (Nat.le_of_ble_eq_true rfl) dX9_invoice_52 (Or.inr (Or.inl ⟨by omega, by omega, rfl, Ih2⟩))
    · refine z_aload_n F dX9_invoice_22 rfl 0 rfl ?_
      refine z_iload_n F dX9_invoice_23 rfl 1 rfl ?_
      refine z_iconst F dX9_invoice_24 ?_
      refine z_iconst F dX9_invoice_25 ?_
      refine z_callV (As := [vI c9, vI (-1), vI 0]) (st := [vR (g 0)]) F (mX9_behind l G N0 h g σ c9 (-1) 0 hI hR (show 0 ≤ σ 8 0 ∧ σ 8 0 ≤ 24 from by omega) (by omega) (by omega) (by omega)) cvX9_199 (mI hI 0 rfl) (fun r9 h9 => by cases h9; rfl) rfl rfl ⟨Nat.le_of_ble_eq_true rfl, Nat.le_of_ble_eq_true rfl⟩ rfl ⟨Nat.le_of_ble_eq_true rfl, Nat.le_of_ble_eq_true rfl⟩ dX9_invoice_26 ?_
      rintro _ h9 ⟨rfl, hh9⟩
      rw [hh9]
      clear hh9 h9
      have q26 := bhF_in (σ 9) (σ 12) (σ 10) c9 (-1) 0 (σ 8 0).toNat
      show Z _ _ _ _ _ _ _ _ _ _ _ _ _ _ _ _ _ _ _ _ [vI (bhF (σ 9) (σ 12) (σ 10) c9 (-1) 0 (σ 8 0).toNat), vR (g 0)]
      refine z_if_ge (tgt := 44) F dX9_invoice_29 (by decide) (by omega) (fun c29 => ?_) (fun c29 => ?_)
      · refine z_iconst F dX9_invoice_44 ?_
        refine z_callV (As := [vI 0]) (st := []) F (mX9_fails l G N0 h g σ 0 hI hR (by decide)) cvX9_107 (mI hI 0 rfl) (fun r9 h9 => by cases h9; rfl) rfl rfl ⟨Nat.le_of_ble_eq_true rfl, Nat.le_of_ble_eq_true rfl⟩ rfl ⟨Nat.le_of_ble_eq_true rfl, Nat.le_of_ble_eq_true rfl⟩ dX9_invoice_45 ?_
        rintro _ h3 ⟨rfl, Ih3⟩
        rw [if_neg (by decide)]
        show Z _ _ _ _ _ _ _ _ _ _ _ _ _ _ _ _ _ _ _ _ [vI 0]
        refine z_if_eq (tgt := 53) F dX9_invoice_48 (by decide) (by decide) (fun c48 => ?_) (fun c48 => ?_)
        · refine z_aload_n F dX9_invoice_53 rfl 0 rfl ?_
          refine z_callV (As := []) (st := []) F (mX9_counts l G N0 h3 g (su σ 30 0 0) Ih3 (rg_su hR (by omega)) hV) cvX9_148 (mI Ih3 0 rfl) (fun r9 h9 => by cases h9; rfl) rfl rfl ⟨Nat.le_of_ble_eq_true rfl, Nat.le_of_ble_eq_true rfl⟩ rfl ⟨Nat.le_of_ble_eq_true rfl, Nat.le_of_ble_eq_true rfl⟩ dX9_invoice_54 ?_
          rintro _ h4 ⟨rfl, sh4, dh4, Ih4, Rsh4, Rdh4, Sh4, Dh4⟩
          show Z _ _ _ _ _ _ _ _ _ _ _ _ _ _ _ _ _ _ _ _ []
          simp only [secS_c, dayS_c] at Sh4 Dh4
          have nh4 : ∀ e, 0 ≤ e → e < σ 8 0 → sh4 e = secS σ e := Sh4
          have oh4 : ∀ e dd, 0 ≤ e → e < σ 8 0 → 0 ≤ dd → dd < 5 → dh4 (5 * e + dd) = dayS σ e dd := Dh4
          have hf9 : ∀ x : Int, 0 ≤ x → x < σ 8 0 → 0 ≤ sh4 x ∧ sh4 x ≤ 180000 := fun x q1 q2 => by rw [nh4 x q1 q2]; exact secS_in hV q1 q2
          refine z_aload_n F dX9_invoice_57 rfl 0 rfl ?_
          refine z_get (v := vR (g 18)) F (mI Ih4 0 rfl) fX9_54 rfl dX9_invoice_58 ?_
          refine z_aload_n F dX9_invoice_61 rfl 0 rfl ?_
          refine z_get (v := vI (σ 16 0)) F (mI Ih4 0 rfl) fX9_192 rfl dX9_invoice_62 ?_
          refine z_iload_n F dX9_invoice_65 rfl 1 rfl ?_
          obtain ⟨h5, eh5, Ih5⟩ : ∃ z : Hp, hu h4 (g 18) (eA 0 8 (fun j => vI (if j = σ 16 0 then c9 else σ 18 j))) = z ∧ MI g (su (sw (sw (su σ 30 0 0) 14 sh4) 15 dh4) 18 (σ 16 0) c9) z := ⟨_, rfl, mP Ih4 18 rfl rfl (σ 16 0) c9⟩
          refine z_iastore (N := 8) (f := fun j => σ 18 j) (h' := h5) F (mI Ih4 18 rfl) (by omega) (by omega) (by omega) dX9_invoice_66 eh5 ?_
          refine z_aload_n F dX9_invoice_67 rfl 0 rfl ?_
          refine z_get (v := vR (g 5)) F (mI Ih5 0 rfl) fX9_21 rfl dX9_invoice_68 ?_
          refine z_iload_n F dX9_invoice_71 rfl 1 rfl ?_
          refine z_caload (N := 5) (f := fun j => σ 5 j) F (mI Ih5 5 rfl) (by omega) (by omega) (by omega) dX9_invoice_72 ?_
          refine z_bipush F dX9_invoice_73 (by decide) ?_
          refine z_icmp_ne (tgt := 123) F dX9_invoice_75 (by decide) (hR 5 c9) (by decide) (fun c75 => ?_) (fun c75 => ?_)
          · have In6 : MI g (LX (su (sw (sw (su σ 30 0 0) 14 sh4) 15 dh4) 18 (σ 16 0) c9) σ (σ 6 c9) []) h5 := LX_nil Ih5 (fun k hk => by rcases hk with rfl | rfl | rfl | rfl | rfl | rfl <;> rfl) (by omega) (by omega)
            have hB0 : LB [] := LB.nil
            refine z_aload_n F dX9_invoice_123 rfl 0 rfl ?_
            refine z_iload_n F dX9_invoice_124 rfl 1 rfl ?_
            refine z_iconst F dX9_invoice_125 ?_
            refine z_iconst F dX9_invoice_126 ?_
            refine z_callV (As := [vI c9, vI (-1), vI 0]) (st := []) F (mX9_behind l G N0 h5 g (sw (sw (sw (sw (sw (sw (su (sw (sw (su σ 30 0 0) 14 sh4) 15 dh4) 18 (σ 16 0) c9) 19 (u19 σ [])) 21 (u21 σ [])) 20 (u20 σ [])) 22 (u22 σ (σ 6 c9) [])) 23 (u23 σ (σ 6 c9) [])) 17 (u17 σ [])) c9 (-1) 0 In6 (rLX (rg_su (rg_sw (rg_sw (rg_su hR (by omega)) Rsh4) Rdh4) (by omega)) hR hB0 (by decide)) (show 0 ≤ σ 8 0 ∧ σ 8 0 ≤ 24 from by omega) (by omega) (by omega) (by omega)) cvX9_199 (mI In6 0 rfl) (fun r9 h9 => by cases h9; rfl) rfl rfl ⟨Nat.le_of_ble_eq_true rfl, Nat.le_of_ble_eq_true rfl⟩ rfl ⟨Nat.le_of_ble_eq_true rfl, Nat.le_of_ble_eq_true rfl⟩ dX9_invoice_127 ?_
            rintro _ h9 ⟨rfl, hh9⟩
            rw [hh9]
            clear hh9 h9
            have q127 := bhF_in (σ 9) (σ 12) (σ 10) c9 (-1) 0 (σ 8 0).toNat
            show Z _ _ _ _ _ _ _ _ _ _ _ _ _ _ _ _ _ _ _ _ [vI (bhF (σ 9) (σ 12) (σ 10) c9 (-1) 0 (σ 8 0).toNat)]
            refine z_istore_n (lv' := [(2, vI (bhF (σ 9) (σ 12) (σ 10) c9 (-1) 0 (σ 8 0).toNat)), (0, vR (g 0)), (1, vI c9)]) F dX9_invoice_130 rfl (by decide) rfl ?_
            have L131 : ∀ (fuel : Nat) (e9 : Int) (L : List Ln) (k : Nat) (h1 : Hp), (MI g (sw (sw (sw (sw (sw (sw (su (sw (sw (su σ 30 0 0) 14 sh4) 15 dh4) 18 (σ 16 0) c9) 19 (u19 σ L)) 21 (u21 σ L)) 20 (u20 σ L)) 22 (u22 σ (σ 6 c9) L)) 23 (u23 σ (σ 6 c9) L)) 17 (u17 σ L)) h1) → (eLi (σ 9) (σ 12) (σ 10) (secS σ) (σ 5 c9) (σ 3 c9) (σ 4 c9) c9 (σ 8 0).toNat (σ 8 0).toNat (bhF (σ 9) (σ 12) (σ 10) c9 (-1) 0 (σ 8 0).toNat) = L ++ eLi (σ 9) (σ 12) (σ 10) (secS σ) (σ 5 c9) (σ 3 c9) (σ 4 c9) c9 (σ 8 0).toNat k e9) → (-1 ≤ e9 ∧ e9 < σ 8 0) → (0 ≤ e9 → blI (σ 9) (σ 12) e9 c9 0 = 1) → (0 ≤ e9 → σ 8 0 ≤ (k : Int) + rkS (σ 9) (σ 12) (σ 10) c9 e9 (σ 8 0).toNat) → ((L.length : Int) ≤ σ 8 0) → (0 ≤ e9 → (L.length : Int) ≤ rkS (σ 9) (σ 12) (σ 10) c9 e9 (σ 8 0).toNat) → (LB L) → (k : Int) < (fuel : Int) → Z p l e ({ frames := 4, cells := 0, slots := 0, locals := 150 }) s m args below meth c 3 G N0 (cA h s.heap.size) Q h1 0 0 131 [(2, vI e9), (0, vR (g 0)), (1, vI c9)] [] := by
              intro fuel
              induction fuel with
              | zero => intro e9 L  k  h1  I1 hk he hbl hf hl hlr hB hm; exact absurd hm (by omega)
              | succ fuel ih131 =>
                intro e9 L  k  h1  I1 hk he hbl hf hl hlr hB hm
                refine z_iload_n F dX9_invoice_131 rfl 0 rfl ?_
                refine z_if_lt (tgt := 160) F dX9_invoice_132 (by decide) (by omega) (fun c132 => ?_) (fun c132 => ?_)
                · have hE : L = ivE σ c9 := by rw [eLi_neg _ _ _ _ _ _ _ _ _ _ (show e9 < 0 by omega), List.append_nil] at hk; rw [← hk]; exact (if_neg (by omega)).symm
                  have hL24 : (L.length : Int) ≤ 24 := by omega
                  have In7 : MI g (LX (sw (su (sw (sw (su σ 30 0 0) 14 sh4) 15 dh4) 18 (σ 16 0) c9) 27 (bl27 σ c9 0)) σ (σ 6 c9) (L ++ [])) h1 := by rw [List.append_nil]; exact bl_0 I1 rfl
                  have hB1 : LB (L ++ []) := by rw [List.append_nil]; exact hB
                  refine z_iconst F dX9_invoice_160 ?_
                  refine z_istore_n (lv' := [(2, vI 0), (0, vR (g 0)), (1, vI c9)]) F dX9_invoice_161 rfl (by decide) rfl ?_
                  have L162 : ∀ (fuel : Nat) (i9 : Int) (M : List Ln) (h2 : Hp), (MI g (sw (sw (sw (sw (sw (sw (sw (su (sw (sw (su σ 30 0 0) 14 sh4) 15 dh4) 18 (σ 16 0) c9) 27 (bl27 σ c9 i9)) 19 (u19 σ (L ++ M))) 21 (u21 σ (L ++ M))) 20 (u20 σ (L ++ M))) 22 (u22 σ (σ 6 c9) (L ++ M))) 23 (u23 σ (σ 6 c9) (L ++ M))) 17 (u17 σ (L ++ M))) h2) → (0 ≤ i9) → (i9 ≤ σ 24 0) → (M = cLn (σ 27) (σ 9) (σ 25) (σ 26) c9 i9.toNat) → ((M.length : Int) ≤ i9) → (LB (L ++ M)) → σ 24 0 - i9 < (fuel : Int) → Z p l e ({ frames := 4, cells := 0, slots := 0, locals := 150 }) s m args below meth c 3 G N0 (cA h s.heap.size) Q h2 0 0 162 [(2, vI i9), (0, vR (g 0)), (1, vI c9)] [] := by
                    intro fuel
                    induction fuel with
                    | zero => intro i9 M  h2  I2 ha2 hb2 hM hl2 hB2 hm; exact absurd hm (by omega)
                    | succ fuel ih162 =>
                      intro i9 M  h2  I2 ha2 hb2 hM hl2 hB2 hm
                      have K_i := vK i9 ha2
                      have b9 : bl27 σ c9 i9 i9 = σ 27 i9 := if_neg (by omega)
                      have lLM := @List.length_append Ln L M
                      refine z_iload_n F dX9_invoice_162 rfl 0 rfl ?_
                      refine z_aload_n F dX9_invoice_163 rfl 1 rfl ?_
                      refine z_get (v := vI (σ 24 0)) F (mI I2 0 rfl) fX9_196 rfl dX9_invoice_164 ?_
                      refine z_icmp_ge (tgt := 228) F dX9_invoice_167 (by decide) (by omega) (hR 24 0) (fun c167 => ?_) (fun c167 => ?_)
                      · have hiv : L ++ M = ivL σ c9 := by show _ = ivE σ c9 ++ cLn _ _ _ _ _ _; rw [← hE, hM, show i9 = σ 24 0 by omega]
                        have hB3 : LB (ivL σ c9) := hiv ▸ hB2
                        have hl3 : ((ivL σ c9).length : Int) ≤ 40 := by rw [← hiv, List.length_append]; omega
                        have In8 : MI g (FX (sw (sw (sw (sw (sw (sw (sw (su (sw (sw (su σ 30 0 0) 14 sh4) 15 dh4) 18 (σ 16 0) c9) 27 (bl27 σ c9 (σ 24 0))) 19 (u19 σ (ivL σ c9))) 21 (u21 σ (ivL σ c9))) 20 (u20 σ (ivL σ c9))) 22 (u22 σ (σ 6 c9) (ivL σ c9))) 23 (u23 σ (σ 6 c9) (ivL σ c9))) 17 (u17 σ (ivL σ c9))) σ c9 0) h2 := fx_0 (by rw [← hiv, ← show i9 = σ 24 0 by omega]; exact I2) rfl rfl
                        refine z_iconst F dX9_invoice_228 ?_
                        refine z_istore_n (lv' := [(2, vI 0), (0, vR (g 0)), (1, vI c9)]) F dX9_invoice_229 rfl (by decide) rfl ?_
                        have L230 : ∀ (fuel : Nat) (x9 : Int) (h3 : Hp), (MI g (sw (sw (sw (sw (sw (sw (sw (sw (sw (su (sw (sw (su σ 30 0 0) 14 sh4) 15 dh4) 18 (σ 16 0) c9) 27 (bl27 σ c9 (σ 24 0))) 19 (u19 σ (ivL σ c9))) 21 (u21 σ (ivL σ c9))) 20 (u20 σ (ivL σ c9))) 22 (u22 σ (σ 6 c9) (ivL σ c9))) 23 (u23 σ (σ 6 c9) (ivL σ c9))) 17 (u17 σ (ivL σ c9))) 13 (fx13 σ c9 x9)) 12 (st12 σ c9 x9)) h3) → (0 ≤ x9) → (x9 ≤ σ 8 0) → σ 8 0 - x9 < (fuel : Int) → Z p l e ({ frames := 4, cells := 0, slots := 0, locals := 150 }) s m args below meth c 3 G N0 (cA h s.heap.size) Q h3 0 0 230 [(2, vI x9), (0, vR (g 0)), (1, vI c9)] [] := by
                          intro fuel
                          induction fuel with
                          | zero => intro x9 h3  I3 ha3 hb3 hm; exact absurd hm (by omega)
                          | succ fuel ih230 =>
                            intro x9 h3  I3 ha3 hb3 hm
                            refine z_iload_n F dX9_invoice_230 rfl 0 rfl ?_
                            refine z_aload_n F dX9_invoice_231 rfl 1 rfl ?_
                            refine z_get (v := vI (σ 8 0)) F (mI I3 0 rfl) fX9_97 rfl dX9_invoice_232 ?_
                            refine z_icmp_ge (tgt := 277) F dX9_invoice_235 (by decide) (by omega) (hR 8 0) (fun c235 => ?_) (fun c235 => ?_)
                            · refine z_aload_n F dX9_invoice_277 rfl 1 rfl ?_
                              refine z_dup F dX9_invoice_278 rfl ?_
                              refine z_get (v := vI (σ 16 0)) F (mI I3 0 rfl) fX9_192 rfl dX9_invoice_279 ?_
                              refine z_iconst F dX9_invoice_282 ?_
                              refine z_iadd F dX9_invoice_283 ?_
                              obtain ⟨h9, eh9, Ih9⟩ : ∃ z : Hp, hu h3 (g 0) (eO 14 [vI (σ 0 0), vI (σ 1 0), vI (σ 2 0), vR (g 3), vR (g 4), vR (g 5), vR (g 6), vR (g 7), vI (σ 8 0), vR (g 9), vR (g 10), vR (g 11), vR (g 12), vR (g 13), vR (g 14), vR (g 15), vI ((σ 16 0) + 1), vR (g 17), vR (g 18), vR (g 19), vR (g 20), vR (g 21), vR (g 22), vR (g 23), vI (σ 24 0), vR (g 25), vR (g 26), vR (g 27), vR (g 28), vI (σ 29 0), vI 0]) = z ∧ MI g (su (sw (sw (sw (sw (sw (sw (sw (sw (sw (su (sw (sw (su σ 30 0 0) 14 sh4) 15 dh4) 18 (σ 16 0) c9) 27 (bl27 σ c9 (σ 24 0))) 19 (u19 σ (ivL σ c9))) 21 (u21 σ (ivL σ c9))) 20 (u20 σ (ivL σ c9))) 22 (u22 σ (σ 6 c9) (ivL σ c9))) 23 (u23 σ (σ 6 c9) (ivL σ c9))) 17 (u17 σ (ivL σ c9))) 13 (fx13 σ c9 x9)) 12 (st12 σ c9 x9)) 16 0 ((σ 16 0) + 1)) z := ⟨_, rfl, mPs I3 16 rfl ((σ 16 0) + 1)⟩
                              refine z_put (fs := [vI (σ 0 0), vI (σ 1 0), vI (σ 2 0), vR (g 3), vR (g 4), vR (g 5), vR (g 6), vR (g 7), vI (σ 8 0), vR (g 9), vR (g 10), vR (g 11), vR (g 12), vR (g 13), vR (g 14), vR (g 15), vI (σ 16 0), vR (g 17), vR (g 18), vR (g 19), vR (g 20), vR (g 21), vR (g 22), vR (g 23), vI (σ 24 0), vR (g 25), vR (g 26), vR (g 27), vR (g 28), vI (σ 29 0), vI 0]) (fs' := [vI (σ 0 0), vI (σ 1 0), vI (σ 2 0), vR (g 3), vR (g 4), vR (g 5), vR (g 6), vR (g 7), vI (σ 8 0), vR (g 9), vR (g 10), vR (g 11), vR (g 12), vR (g 13), vR (g 14), vR (g 15), vI ((σ 16 0) + 1), vR (g 17), vR (g 18), vR (g 19), vR (g 20), vR (g 21), vR (g 22), vR (g 23), vI (σ 24 0), vR (g 25), vR (g 26), vR (g 27), vR (g 28), vI (σ 29 0), vI 0]) (h' := h9) F (mI I3 0 rfl) fX9_192 ftX9_16 (nf_i _) (Nat.le_of_ble_eq_true rfl) rfl dX9_invoice_284 eh9 ?_
                              refine z_aload_n F dX9_invoice_287 rfl 1 rfl ?_
                              refine z_get (v := vI ((σ 16 0) + 1)) F (mI Ih9 0 rfl) fX9_192 rfl dX9_invoice_288 ?_
                              refine z_iconst F dX9_invoice_291 ?_
                              refine z_isub F dX9_invoice_292 ?_
                              rw [hQ]
                              exact z_iret (nf_i _) F hr (Nat.le_of_ble_eq_true rfl) (Nat.le_of_ble_eq_true rfl) dX9_invoice_293 (Or.inr (Or.inr ⟨by omega, by omega, sh4, dh4, rI (by omega), by have z9 : x9 = σ 8 0 := (by omega); rw [z9] at Ih9; exact Ih9, Rsh4, Rdh4, hl3, hB3⟩))
                            · refine z_aload_n F dX9_invoice_238 rfl 1 rfl ?_
                              refine z_iload_n F dX9_invoice_239 rfl 0 rfl ?_
                              refine z_iload_n F dX9_invoice_240 rfl 2 rfl ?_
                              refine z_iconst F dX9_invoice_241 ?_
                              refine z_callV (As := [vI x9, vI c9, vI 0]) (st := []) F (mX9_belongs l G N0 h3 g (sw (sw (sw (sw (sw (sw (sw (sw (sw (su (sw (sw (su σ 30 0 0) 14 sh4) 15 dh4) 18 (σ 16 0) c9) 27 (bl27 σ c9 (σ 24 0))) 19 (u19 σ (ivL σ c9))) 21 (u21 σ (ivL σ c9))) 20 (u20 σ (ivL σ c9))) 22 (u22 σ (σ 6 c9) (ivL σ c9))) 23 (u23 σ (σ 6 c9) (ivL σ c9))) 17 (u17 σ (ivL σ c9))) 13 (fx13 σ c9 x9)) 12 (st12 σ c9 x9)) x9 c9 0 I3 (rg_sw (rg_sw (rLX (rg_sw (rg_su (rg_sw (rg_sw (rg_su hR (by omega)) Rsh4) Rdh4) (by omega)) (r27 hR _ _)) hR hB3 (by omega)) (r13 hR hV _ (by omega))) (r12 hR _ _)) (by omega) (by omega) (by omega)) cvX9_165 (mI I3 0 rfl) (fun r9 h9 => by cases h9; rfl) rfl rfl ⟨Nat.le_of_ble_eq_true rfl, Nat.le_of_ble_eq_true rfl⟩ rfl ⟨Nat.le_of_ble_eq_true rfl, Nat.le_of_ble_eq_true rfl⟩ dX9_invoice_242 ?_
                              rintro _ h9 ⟨rfl, hh9⟩
                              rw [hh9]
                              clear hh9 h9
                              show Z _ _ _ _ _ _ _ _ _ _ _ _ _ _ _ _ _ _ _ _ [vI (blI (σ 9) (st12 σ c9 x9) x9 c9 0)]
                              rw [bl_st c9 x9]
                              have q242 := blI_in (σ 9) (σ 12) x9 c9 0
                              show Z _ _ _ _ _ _ _ _ _ _ _ _ _ _ _ _ _ _ _ _ [vI (blI (σ 9) (σ 12) x9 c9 0)]
                              refine z_if_ne (tgt := 251) F dX9_invoice_245 (by decide) (by omega) (fun c245 => ?_) (fun c245 => ?_)
                              · refine z_aload_n F dX9_invoice_251 rfl 1 rfl ?_
                                refine z_get (v := vR (g 13)) F (mI I3 0 rfl) fX9_42 rfl dX9_invoice_252 ?_
                                refine z_iload_n F dX9_invoice_255 rfl 0 rfl ?_
                                refine z_aload_n F dX9_invoice_256 rfl 1 rfl ?_
                                refine z_get (v := vR (g 14)) F (mI I3 0 rfl) fX9_45 rfl dX9_invoice_257 ?_
                                refine z_iload_n F dX9_invoice_260 rfl 0 rfl ?_
                                refine z_iaload (N := 24) (f := fun j => sh4 j) F (mI I3 14 rfl) (by omega) (by omega) (by omega) dX9_invoice_261 ?_
                                obtain ⟨h10, eh10, Ih10⟩ : ∃ z : Hp, hu h3 (g 13) (eA 0 24 (fun j => vI (if j = x9 then sh4 x9 else (fx13 σ c9 x9) j))) = z ∧ MI g (su (sw (sw (sw (sw (sw (sw (sw (sw (sw (su (sw (sw (su σ 30 0 0) 14 sh4) 15 dh4) 18 (σ 16 0) c9) 27 (bl27 σ c9 (σ 24 0))) 19 (u19 σ (ivL σ c9))) 21 (u21 σ (ivL σ c9))) 20 (u20 σ (ivL σ c9))) 22 (u22 σ (σ 6 c9) (ivL σ c9))) 23 (u23 σ (σ 6 c9) (ivL σ c9))) 17 (u17 σ (ivL σ c9))) 13 (fx13 σ c9 x9)) 12 (st12 σ c9 x9)) 13 x9 (sh4 x9)) z := ⟨_, rfl, mP I3 13 rfl rfl x9 (sh4 x9)⟩
                                refine z_iastore (N := 24) (f := fun j => (fx13 σ c9 x9) j) (h' := h10) F (mI I3 13 rfl) (by omega) (by omega) (by omega) dX9_invoice_262 eh10 ?_
                                refine z_aload_n F dX9_invoice_263 rfl 1 rfl ?_
                                refine z_get (v := vR (g 12)) F (mI Ih10 0 rfl) fX9_39 rfl dX9_invoice_264 ?_
                                refine z_iload_n F dX9_invoice_267 rfl 0 rfl ?_
                                refine z_bipush F dX9_invoice_268 (by decide) ?_
                                obtain ⟨h11, eh11, Ih11⟩ : ∃ z : Hp, hu h10 (g 12) (eA 1 24 (fun j => vI (if j = x9 then 102 else (st12 σ c9 x9) j))) = z ∧ MI g (su (su (sw (sw (sw (sw (sw (sw (sw (sw (sw (su (sw (sw (su σ 30 0 0) 14 sh4) 15 dh4) 18 (σ 16 0) c9) 27 (bl27 σ c9 (σ 24 0))) 19 (u19 σ (ivL σ c9))) 21 (u21 σ (ivL σ c9))) 20 (u20 σ (ivL σ c9))) 22 (u22 σ (σ 6 c9) (ivL σ c9))) 23 (u23 σ (σ 6 c9) (ivL σ c9))) 17 (u17 σ (ivL σ c9))) 13 (fx13 σ c9 x9)) 12 (st12 σ c9 x9)) 13 x9 (sh4 x9)) 12 x9 102) z := ⟨_, rfl, mP Ih10 12 rfl rfl x9 102⟩
                                refine z_castore (N := 24) (f := fun j => (st12 σ c9 x9) j) (h' := h11) F (mI Ih10 12 rfl) (nf_c (by omega)) (by omega) (by omega) (by omega) dX9_invoice_270 eh11 ?_
                                refine z_iinc (lv' := [(2, vI (x9 + 1)), (0, vR (g 0)), (1, vI c9)]) F dX9_invoice_271 0 rfl (by decide) rfl ?_
                                refine z_goto (tgt := 230) F dX9_invoice_274 (by decide) ?_
                                exact ih230 (x9 + 1) h11 (fx_set (Y := (sw (sw (sw (sw (sw (sw (sw (su (sw (sw (su σ 30 0 0) 14 sh4) 15 dh4) 18 (σ 16 0) c9) 27 (bl27 σ c9 (σ 24 0))) 19 (u19 σ (ivL σ c9))) 21 (u21 σ (ivL σ c9))) 20 (u20 σ (ivL σ c9))) 22 (u22 σ (σ 6 c9) (ivL σ c9))) 23 (u23 σ (σ 6 c9) (ivL σ c9))) 17 (u17 σ (ivL σ c9)))) Ih11 ha3 (by omega) (nh4 x9 ha3 (by omega))) (by omega) (by omega) (by omega)
                              · refine z_goto (tgt := 271) F dX9_invoice_248 (by decide) ?_
                                refine z_iinc (lv' := [(2, vI (x9 + 1)), (0, vR (g 0)), (1, vI c9)]) F dX9_invoice_271 0 rfl (by decide) rfl ?_
                                refine z_goto (tgt := 230) F dX9_invoice_274 (by decide) ?_
                                exact ih230 (x9 + 1) h3 (by rw [(fx_skip (by omega)).1, (fx_skip (by omega)).2]; exact I3) (by omega) (by omega) (by omega)
                        exact L230 ((σ 8 0 - 0 : Int).toNat + 1) 0 h2 (In8) (by omega) (by omega) (by omega)
                      · refine z_aload_n F dX9_invoice_170 rfl 1 rfl ?_
                        refine z_get (v := vR (g 27)) F (mI I2 0 rfl) fX9_79 rfl dX9_invoice_171 ?_
                        refine z_iload_n F dX9_invoice_174 rfl 0 rfl ?_
                        refine z_zaload (N := 16) (f := fun j => (bl27 σ c9 i9) j) F (mI I2 27 rfl) (by omega) (by omega) (by omega) dX9_invoice_175 ?_
                        refine z_if_ne (tgt := 222) F dX9_invoice_176 (by decide) (by omega) (fun c176 => ?_) (fun c176 => ?_)
                        · refine z_iinc (lv' := [(2, vI (i9 + 1)), (0, vR (g 0)), (1, vI c9)]) F dX9_invoice_222 0 rfl (by decide) rfl ?_
                          refine z_goto (tgt := 162) F dX9_invoice_225 (by decide) ?_
                          exact ih162 (i9 + 1) M h2 (by rw [bl_skip (by omega)]; exact I2) (by omega) (by omega) (by rw [cLn_s _ _ _ _ _ ha2, ← hM, if_neg (by omega), List.append_nil]) (by omega) (hB2) (by omega)
                        · refine z_aload_n F dX9_invoice_179 rfl 1 rfl ?_
                          refine z_get (v := vR (g 9)) F (mI I2 0 rfl) fX9_30 rfl dX9_invoice_180 ?_
                          refine z_aload_n F dX9_invoice_183 rfl 1 rfl ?_
                          refine z_get (v := vR (g 25)) F (mI I2 0 rfl) fX9_73 rfl dX9_invoice_184 ?_
                          refine z_iload_n F dX9_invoice_187 rfl 0 rfl ?_
                          refine z_iaload (N := 16) (f := fun j => σ 25 j) F (mI I2 25 rfl) (by omega) (by omega) (by omega) dX9_invoice_188 ?_
                          refine z_iaload (N := 24) (f := fun j => σ 9 j) F (mI I2 9 rfl) (by omega) (by omega) (by omega) dX9_invoice_189 ?_
                          refine z_iload_n F dX9_invoice_190 rfl 2 rfl ?_
                          refine z_icmp_eq (tgt := 197) F dX9_invoice_191 (by decide) (hR 9 (σ 25 i9)) (by omega) (fun c191 => ?_) (fun c191 => ?_)
                          · refine z_aload_n F dX9_invoice_197 rfl 1 rfl ?_
                            refine z_get (v := vR (g 27)) F (mI I2 0 rfl) fX9_79 rfl dX9_invoice_198 ?_
                            refine z_iload_n F dX9_invoice_201 rfl 0 rfl ?_
                            refine z_iconst F dX9_invoice_202 ?_
                            obtain ⟨h12, eh12, Ih12⟩ : ∃ z : Hp, hu h2 (g 27) (eA 3 16 (fun j => vI (if j = i9 then 1 else (bl27 σ c9 i9) j))) = z ∧ MI g (su (sw (sw (sw (sw (sw (sw (sw (su (sw (sw (su σ 30 0 0) 14 sh4) 15 dh4) 18 (σ 16 0) c9) 27 (bl27 σ c9 i9)) 19 (u19 σ (L ++ M))) 21 (u21 σ (L ++ M))) 20 (u20 σ (L ++ M))) 22 (u22 σ (σ 6 c9) (L ++ M))) 23 (u23 σ (σ 6 c9) (L ++ M))) 17 (u17 σ (L ++ M))) 27 i9 1) z := ⟨_, rfl, mP I2 27 rfl rfl i9 1⟩
                            refine z_zastore (N := 16) (f := fun j => (bl27 σ c9 i9) j) (h' := h12) F (mI I2 27 rfl) (nf_z (by omega)) (by omega) (by omega) (by omega) dX9_invoice_203 eh12 ?_
                            have In13 : MI g (LX (sw (su (sw (sw (su σ 30 0 0) 14 sh4) 15 dh4) 18 (σ 16 0) c9) 27 (bl27 σ c9 (i9 + 1))) σ (σ 6 c9) (L ++ M)) h12 := bl_set Ih12 ha2 (by omega) (by omega)
                            refine z_aload_n F dX9_invoice_204 rfl 1 rfl ?_
                            refine z_bipush F dX9_invoice_205 (by decide) ?_
                            refine z_aload_n F dX9_invoice_207 rfl 1 rfl ?_
                            refine z_get (v := vR (g 25)) F (mI In13 0 rfl) fX9_73 rfl dX9_invoice_208 ?_
                            refine z_iload_n F dX9_invoice_211 rfl 0 rfl ?_
                            refine z_iaload (N := 16) (f := fun j => σ 25 j) F (mI In13 25 rfl) (by omega) (by omega) (by omega) dX9_invoice_212 ?_
                            refine z_aload_n F dX9_invoice_213 rfl 1 rfl ?_
                            refine z_get (v := vR (g 26)) F (mI In13 0 rfl) fX9_76 rfl dX9_invoice_214 ?_
                            refine z_iload_n F dX9_invoice_217 rfl 0 rfl ?_
                            refine z_iaload (N := 16) (f := fun j => σ 26 j) F (mI In13 26 rfl) (by omega) (by omega) (by omega) dX9_invoice_218 ?_
                            refine z_callV (As := [vI 99, vI (σ 25 i9), vI (σ 26 i9)]) (st := []) F (mX9_adds l G N0 h12 g (sw (sw (sw (sw (sw (sw (sw (su (sw (sw (su σ 30 0 0) 14 sh4) 15 dh4) 18 (σ 16 0) c9) 27 (bl27 σ c9 (i9 + 1))) 19 (u19 σ (L ++ M))) 21 (u21 σ (L ++ M))) 20 (u20 σ (L ++ M))) 22 (u22 σ (σ 6 c9) (L ++ M))) 23 (u23 σ (σ 6 c9) (L ++ M))) 17 (u17 σ (L ++ M))) 99 (σ 25 i9) (σ 26 i9) (159 + 2 * (L ++ M).length) In13 (rLX (rg_sw (rg_su (rg_sw (rg_sw (rg_su hR (by omega)) Rsh4) Rdh4) (by omega)) (r27 hR _ _)) hR hB2 (by omega)) (show 0 ≤ σ 16 0 ∧ σ 16 0 < 8 from by omega) (by have z9 : u17 σ (L ++ M) (σ 16 0) = ((L ++ M).length : Int) := if_pos rfl; show 0 ≤ u17 σ (L ++ M) (σ 16 0) ∧ u17 σ (L ++ M) (σ 16 0) < 40; have := @List.length_append Ln L M; omega) (show 0 ≤ (if σ 16 0 = σ 16 0 then c9 else σ 18 (σ 16 0)) ∧ (if σ 16 0 = σ 16 0 then c9 else σ 18 (σ 16 0)) < 5 from by omega) (by show 0 ≤ σ 6 (if σ 16 0 = σ 16 0 then c9 else σ 18 (σ 16 0)) ∧ σ 6 (if σ 16 0 = σ 16 0 then c9 else σ 18 (σ 16 0)) ≤ 50000; rw [show (if σ 16 0 = σ 16 0 then c9 else σ 18 (σ 16 0)) = c9 from if_pos rfl]; omega) (by omega) (by have := @List.length_append Ln L M; omega) (by show MG _ (fb (u23 σ (σ 6 c9) (L ++ M) (σ 16 0))); rw [show u23 σ (σ 6 c9) (L ++ M) (σ 16 0) = fi (totL (σ 6 c9) (L ++ M)) from if_pos rfl, fb_fi]; exact totL_mg (by omega) _ (L ++ M) rfl hB2 (by have := @List.length_append Ln L M; omega)) (by omega) (by omega)) cvX9_205 (mI In13 0 rfl) (fun r9 h9 => by cases h9; rfl) rfl rfl ⟨Nat.le_of_ble_eq_true rfl, Nat.le_of_ble_eq_true rfl⟩ rfl ⟨Nat.le_of_ble_eq_true rfl, Nat.le_of_ble_eq_true rfl⟩ dX9_invoice_219 ?_
                            rintro _ h14 ⟨rfl, Jh14⟩
                            have Ih14 : MI g (LX (sw (su (sw (sw (su σ 30 0 0) 14 sh4) 15 dh4) 18 (σ 16 0) c9) 27 (bl27 σ c9 (i9 + 1))) σ (σ 6 c9) ((L ++ M) ++ [(99, (σ 25 i9), (σ 26 i9))])) h14 := fold_ad (X := (sw (su (sw (sw (su σ 30 0 0) 14 sh4) 15 dh4) 18 (σ 16 0) c9) 27 (bl27 σ c9 (i9 + 1)))) Jh14 rfl (show σ 6 (if σ 16 0 = σ 16 0 then c9 else σ 18 (σ 16 0)) = σ 6 c9 from by rw [if_pos rfl])
                            show Z _ _ _ _ _ _ _ _ _ _ _ _ _ _ _ _ _ _ _ _ []
                            refine z_iinc (lv' := [(2, vI (i9 + 1)), (0, vR (g 0)), (1, vI c9)]) F dX9_invoice_222 0 rfl (by decide) rfl ?_
                            refine z_goto (tgt := 162) F dX9_invoice_225 (by decide) ?_
                            exact ih162 (i9 + 1) (M ++ [(99, (σ 25 i9), (σ 26 i9))]) h14 (by rw [← List.append_assoc]; exact Ih14) (by omega) (by omega) (by rw [cLn_s _ _ _ _ _ ha2, ← hM, if_pos (by omega)]) (by rw [List.length_append]; simp; omega) (by rw [← List.append_assoc]; exact hB2.push3 (by omega) (by omega) (by omega)) (by omega)
                          · refine z_goto (tgt := 222) F dX9_invoice_194 (by decide) ?_
                            refine z_iinc (lv' := [(2, vI (i9 + 1)), (0, vR (g 0)), (1, vI c9)]) F dX9_invoice_222 0 rfl (by decide) rfl ?_
                            refine z_goto (tgt := 162) F dX9_invoice_225 (by decide) ?_
                            exact ih162 (i9 + 1) M h2 (by rw [bl_skip (by omega)]; exact I2) (by omega) (by omega) (by rw [cLn_s _ _ _ _ _ ha2, ← hM, if_neg (by omega), List.append_nil]) (by omega) (hB2) (by omega)
                  exact L162 ((σ 24 0 - 0 : Int).toNat + 1) 0 [] h1 (In7) (by omega) (by omega) (rfl) (by decide) (hB1) (by omega)
                · obtain ⟨k1, rfl⟩ : ∃ k1, k = k1 + 1 := ⟨k - 1, by have := hf (by omega); have := rk_lt (ow := σ 9) (sa := σ 12) (st := σ 10) (c := c9) (e := e9) (by omega) (σ 8 0).toNat (by omega); omega⟩
                  have hlq : (L.length : Int) < 24 := by have := hlr (by omega); have := rk_lt (ow := σ 9) (sa := σ 12) (st := σ 10) (c := c9) (e := e9) (by omega) (σ 8 0).toNat (by omega); omega
                  refine z_aload_n F dX9_invoice_135 rfl 1 rfl ?_
                  refine z_bipush F dX9_invoice_136 (by decide) ?_
                  refine z_iload_n F dX9_invoice_138 rfl 0 rfl ?_
                  refine z_aload_n F dX9_invoice_139 rfl 1 rfl ?_
                  refine z_iload_n F dX9_invoice_140 rfl 2 rfl ?_
                  refine z_iload_n F dX9_invoice_141 rfl 0 rfl ?_
                  refine z_iconst F dX9_invoice_142 ?_
                  refine z_callV (As := [vI c9, vI e9, vI 0]) (st := [vI e9, vI 101, vR (g 0)]) F (mX9_roundedOf l G N0 h1 g (sw (sw (sw (sw (sw (sw (su (sw (sw (su σ 30 0 0) 14 sh4) 15 dh4) 18 (σ 16 0) c9) 19 (u19 σ L)) 21 (u21 σ L)) 20 (u20 σ L)) 22 (u22 σ (σ 6 c9) L)) 23 (u23 σ (σ 6 c9) L)) 17 (u17 σ L)) c9 e9 0 I1 (rLX (rg_su (rg_sw (rg_sw (rg_su hR (by omega)) Rsh4) Rdh4) (by omega)) hR hB (by omega)) (show 0 ≤ σ 8 0 ∧ σ 8 0 ≤ 24 from by omega) (by omega) (by omega) (show 1 ≤ σ 3 c9 ∧ σ 3 c9 ≤ 60 from by omega) (show 0 ≤ e9 ∧ e9 < σ 8 0 from by omega) hf9) cvX9_180 (mI I1 0 rfl) (fun r9 h9 => by cases h9; rfl) rfl rfl ⟨Nat.le_of_ble_eq_true rfl, Nat.le_of_ble_eq_true rfl⟩ rfl ⟨Nat.le_of_ble_eq_true rfl, Nat.le_of_ble_eq_true rfl⟩ dX9_invoice_143 ?_
                  rintro _ h9 ⟨rfl, hh9⟩
                  rw [hh9]
                  clear hh9 h9
                  show Z _ _ _ _ _ _ _ _ _ _ _ _ _ _ _ _ _ _ _ _ [vI (rdO (σ 9) (σ 12) (σ 10) sh4 (σ 5 c9) (σ 3 c9) (σ 4 c9) c9 e9 0 (σ 8 0).toNat), vI e9, vI 101, vR (g 0)]
                  rw [show rdO (σ 9) (σ 12) (σ 10) sh4 (σ 5 c9) (σ 3 c9) (σ 4 c9) c9 e9 0 (σ 8 0).toNat = rdO (σ 9) (σ 12) (σ 10) (secS σ) (σ 5 c9) (σ 3 c9) (σ 4 c9) c9 e9 0 (σ 8 0).toNat from rdO_c (fun x q1 q2 => nh4 x q1 (by omega)) (by omega) (by omega)]
                  have q143 := rdO_hi (ow := σ 9) (sa := σ 12) (st := σ 10) (f := secS σ) (lv := σ 5 c9) (mo := σ 4 c9) (c := c9) (e := e9) (wr := 0) (N := (σ 8 0).toNat) (by omega) (show 1 ≤ σ 3 c9 ∧ σ 3 c9 ≤ 60 from by omega) (fun x q1 q2 => secS_in hV q1 (by omega)) (by omega) (by omega)
                  show Z _ _ _ _ _ _ _ _ _ _ _ _ _ _ _ _ _ _ _ _ [vI (rdO (σ 9) (σ 12) (σ 10) (secS σ) (σ 5 c9) (σ 3 c9) (σ 4 c9) c9 e9 0 (σ 8 0).toNat), vI e9, vI 101, vR (g 0)]
                  refine z_callV (As := [vI 101, vI e9, vI (rdO (σ 9) (σ 12) (σ 10) (secS σ) (σ 5 c9) (σ 3 c9) (σ 4 c9) c9 e9 0 (σ 8 0).toNat)]) (st := []) F (mX9_adds l G N0 h1 g (sw (sw (sw (sw (sw (sw (su (sw (sw (su σ 30 0 0) 14 sh4) 15 dh4) 18 (σ 16 0) c9) 19 (u19 σ L)) 21 (u21 σ L)) 20 (u20 σ L)) 22 (u22 σ (σ 6 c9) L)) 23 (u23 σ (σ 6 c9) L)) 17 (u17 σ L)) 101 e9 (rdO (σ 9) (σ 12) (σ 10) (secS σ) (σ 5 c9) (σ 3 c9) (σ 4 c9) c9 e9 0 (σ 8 0).toNat) (159 + 2 * L.length) I1 (rLX (rg_su (rg_sw (rg_sw (rg_su hR (by omega)) Rsh4) Rdh4) (by omega)) hR hB (by omega)) (show 0 ≤ σ 16 0 ∧ σ 16 0 < 8 from by omega) (by have z9 : u17 σ L (σ 16 0) = (L.length : Int) := if_pos rfl; show 0 ≤ u17 σ L (σ 16 0) ∧ u17 σ L (σ 16 0) < 40; omega) (show 0 ≤ (if σ 16 0 = σ 16 0 then c9 else σ 18 (σ 16 0)) ∧ (if σ 16 0 = σ 16 0 then c9 else σ 18 (σ 16 0)) < 5 from by omega) (by show 0 ≤ σ 6 (if σ 16 0 = σ 16 0 then c9 else σ 18 (σ 16 0)) ∧ σ 6 (if σ 16 0 = σ 16 0 then c9 else σ 18 (σ 16 0)) ≤ 50000; rw [show (if σ 16 0 = σ 16 0 then c9 else σ 18 (σ 16 0)) = c9 from if_pos rfl]; omega) (by omega) (by omega) (by show MG _ (fb (u23 σ (σ 6 c9) L (σ 16 0))); rw [show u23 σ (σ 6 c9) L (σ 16 0) = fi (totL (σ 6 c9) L) from if_pos rfl, fb_fi]; exact totL_mg (by omega) _ L rfl hB (by omega)) (by omega) (by omega)) cvX9_205 (mI I1 0 rfl) (fun r9 h9 => by cases h9; rfl) rfl rfl ⟨Nat.le_of_ble_eq_true rfl, Nat.le_of_ble_eq_true rfl⟩ rfl ⟨Nat.le_of_ble_eq_true rfl, Nat.le_of_ble_eq_true rfl⟩ dX9_invoice_146 ?_
                  rintro _ h15 ⟨rfl, Jh15⟩
                  have Ih15 : MI g (LX (su (sw (sw (su σ 30 0 0) 14 sh4) 15 dh4) 18 (σ 16 0) c9) σ (σ 6 c9) (L ++ [(101, e9, (rdO (σ 9) (σ 12) (σ 10) (secS σ) (σ 5 c9) (σ 3 c9) (σ 4 c9) c9 e9 0 (σ 8 0).toNat))])) h15 := fold_ad (X := (su (sw (sw (su σ 30 0 0) 14 sh4) 15 dh4) 18 (σ 16 0) c9)) Jh15 rfl (show σ 6 (if σ 16 0 = σ 16 0 then c9 else σ 18 (σ 16 0)) = σ 6 c9 from by rw [if_pos rfl])
                  show Z _ _ _ _ _ _ _ _ _ _ _ _ _ _ _ _ _ _ _ _ []
                  have hB4 : LB (L ++ [(101, e9, (rdO (σ 9) (σ 12) (σ 10) (secS σ) (σ 5 c9) (σ 3 c9) (σ 4 c9) c9 e9 0 (σ 8 0).toNat))]) := hB.push3 (by omega) (by omega) (by omega)
                  have hl4 : (L ++ [(101, e9, (rdO (σ 9) (σ 12) (σ 10) (secS σ) (σ 5 c9) (σ 3 c9) (σ 4 c9) c9 e9 0 (σ 8 0).toNat))]).length ≤ 40 := by rw [List.length_append]; simp; omega
                  refine z_aload_n F dX9_invoice_149 rfl 1 rfl ?_
                  refine z_iload_n F dX9_invoice_150 rfl 2 rfl ?_
                  refine z_iload_n F dX9_invoice_151 rfl 0 rfl ?_
                  refine z_iconst F dX9_invoice_152 ?_
                  refine z_callV (As := [vI c9, vI e9, vI 0]) (st := []) F (mX9_behind l G N0 h15 g (sw (sw (sw (sw (sw (sw (su (sw (sw (su σ 30 0 0) 14 sh4) 15 dh4) 18 (σ 16 0) c9) 19 (u19 σ (L ++ [(101, e9, (rdO (σ 9) (σ 12) (σ 10) (secS σ) (σ 5 c9) (σ 3 c9) (σ 4 c9) c9 e9 0 (σ 8 0).toNat))]))) 21 (u21 σ (L ++ [(101, e9, (rdO (σ 9) (σ 12) (σ 10) (secS σ) (σ 5 c9) (σ 3 c9) (σ 4 c9) c9 e9 0 (σ 8 0).toNat))]))) 20 (u20 σ (L ++ [(101, e9, (rdO (σ 9) (σ 12) (σ 10) (secS σ) (σ 5 c9) (σ 3 c9) (σ 4 c9) c9 e9 0 (σ 8 0).toNat))]))) 22 (u22 σ (σ 6 c9) (L ++ [(101, e9, (rdO (σ 9) (σ 12) (σ 10) (secS σ) (σ 5 c9) (σ 3 c9) (σ 4 c9) c9 e9 0 (σ 8 0).toNat))]))) 23 (u23 σ (σ 6 c9) (L ++ [(101, e9, (rdO (σ 9) (σ 12) (σ 10) (secS σ) (σ 5 c9) (σ 3 c9) (σ 4 c9) c9 e9 0 (σ 8 0).toNat))]))) 17 (u17 σ (L ++ [(101, e9, (rdO (σ 9) (σ 12) (σ 10) (secS σ) (σ 5 c9) (σ 3 c9) (σ 4 c9) c9 e9 0 (σ 8 0).toNat))]))) c9 e9 0 Ih15 (rLX (rg_su (rg_sw (rg_sw (rg_su hR (by omega)) Rsh4) Rdh4) (by omega)) hR hB4 (by omega)) (show 0 ≤ σ 8 0 ∧ σ 8 0 ≤ 24 from by omega) (by omega) (by omega) (by omega)) cvX9_199 (mI Ih15 0 rfl) (fun r9 h9 => by cases h9; rfl) rfl rfl ⟨Nat.le_of_ble_eq_true rfl, Nat.le_of_ble_eq_true rfl⟩ rfl ⟨Nat.le_of_ble_eq_true rfl, Nat.le_of_ble_eq_true rfl⟩ dX9_invoice_153 ?_
                  rintro _ h9 ⟨rfl, hh9⟩
                  rw [hh9]
                  clear hh9 h9
                  have q153 := bhF_in (σ 9) (σ 12) (σ 10) c9 e9 0 (σ 8 0).toNat
                  show Z _ _ _ _ _ _ _ _ _ _ _ _ _ _ _ _ _ _ _ _ [vI (bhF (σ 9) (σ 12) (σ 10) c9 e9 0 (σ 8 0).toNat)]
                  refine z_istore_n (lv' := [(2, vI (bhF (σ 9) (σ 12) (σ 10) c9 e9 0 (σ 8 0).toNat)), (0, vR (g 0)), (1, vI c9)]) F dX9_invoice_156 rfl (by decide) rfl ?_
                  refine z_goto (tgt := 131) F dX9_invoice_157 (by decide) ?_
                  have hup : 0 ≤ bhF (σ 9) (σ 12) (σ 10) c9 e9 0 (σ 8 0).toNat → rkS (σ 9) (σ 12) (σ 10) c9 e9 (σ 8 0).toNat + 1 ≤ rkS (σ 9) (σ 12) (σ 10) c9 (bhF (σ 9) (σ 12) (σ 10) c9 e9 0 (σ 8 0).toNat) (σ 8 0).toNat := fun q => by
                    have q8 := rk_up (ow := σ 9) (sa := σ 12) (st := σ 10) (c := c9) (e := e9) (by omega) (hbl (by omega)) ((bh_is _ q).2.resolve_left (by omega)) (σ 8 0).toNat
                    rw [if_pos (by omega)] at q8
                    exact q8
                  exact ih131 (bhF (σ 9) (σ 12) (σ 10) c9 e9 0 (σ 8 0).toNat) (L ++ [(101, e9, (rdO (σ 9) (σ 12) (σ 10) (secS σ) (σ 5 c9) (σ 3 c9) (σ 4 c9) c9 e9 0 (σ 8 0).toNat))]) k1 h15 (Ih15) (by rw [hk, eLi, if_neg (by omega), List.append_assoc]; rfl) (by omega) (fun q => (bh_is _ q).1) (fun q => by have := hf (by omega); have := hup q; omega) (by rw [List.length_append]; have := hlr (by omega); have := rk_lt (ow := σ 9) (sa := σ 12) (st := σ 10) (c := c9) (e := e9) (by omega) (σ 8 0).toNat (by omega); simp; omega) (fun q => by rw [List.length_append]; have := hlr (by omega); have := hup q; simp; omega) (hB.push3 (by omega) (by omega) (by omega)) (by omega)
            exact L131 ((σ 8 0 : Int).toNat + 1) (bhF (σ 9) (σ 12) (σ 10) c9 (-1) 0 (σ 8 0).toNat) [] (σ 8 0).toNat h5 (In6) ((List.nil_append _).symm) (by omega) (fun q => (bh_is _ q).1) (fun q => by have := (rk_in (ow := σ 9) (sa := σ 12) (st := σ 10) (c := c9) (e := bhF (σ 9) (σ 12) (σ 10) c9 (-1) 0 (σ 8 0).toNat) (σ 8 0).toNat).1; omega) (by simp; omega) (fun q => (rk_in _).1) (LB.nil) (by omega)
          · have In16 : MI g (LX (su (sw (sw (su σ 30 0 0) 14 sh4) 15 dh4) 18 (σ 16 0) c9) σ (σ 6 c9) []) h5 := LX_nil Ih5 (fun k hk => by rcases hk with rfl | rfl | rfl | rfl | rfl | rfl <;> rfl) (by omega) (by omega)
            have hB0 : LB [] := LB.nil
            refine z_iconst F dX9_invoice_78 ?_
            refine z_istore_n (lv' := [(2, vI 0), (0, vR (g 0)), (1, vI c9)]) F dX9_invoice_79 rfl (by decide) rfl ?_
            have L80 : ∀ (fuel : Nat) (d9 : Int) (L : List Ln) (h1 : Hp), (MI g (sw (sw (sw (sw (sw (sw (su (sw (sw (su σ 30 0 0) 14 sh4) 15 dh4) 18 (σ 16 0) c9) 19 (u19 σ L)) 21 (u21 σ L)) 20 (u20 σ L)) 22 (u22 σ (σ 6 c9) L)) 23 (u23 σ (σ 6 c9) L)) 17 (u17 σ L)) h1) → (0 ≤ d9) → (d9 ≤ 5) → (L = dLn (σ 9) (σ 12) (dyF σ) (σ 3 c9) (σ 4 c9) c9 (σ 8 0).toNat d9.toNat) → ((L.length : Int) ≤ d9) → (LB L) → 5 - d9 < (fuel : Int) → Z p l e ({ frames := 4, cells := 0, slots := 0, locals := 150 }) s m args below meth c 3 G N0 (cA h s.heap.size) Q h1 0 0 80 [(2, vI d9), (0, vR (g 0)), (1, vI c9)] [] := by
              intro fuel
              induction fuel with
              | zero => intro d9 L  h1  I1 ha hb hL hl hB hm; exact absurd hm (by omega)
              | succ fuel ih80 =>
                intro d9 L  h1  I1 ha hb hL hl hB hm
                refine z_iload_n F dX9_invoice_80 rfl 0 rfl ?_
                refine z_iconst F dX9_invoice_81 ?_
                refine z_icmp_ge (tgt := 120) F dX9_invoice_82 (by decide) (by omega) (by decide) (fun c82 => ?_) (fun c82 => ?_)
                · refine z_goto (tgt := 160) F dX9_invoice_120 (by decide) ?_
                  have hE : L = ivE σ c9 := by rw [hL, show d9 = 5 by omega]; exact (if_pos (by omega)).symm
                  have hL24 : (L.length : Int) ≤ 24 := by omega
                  have In17 : MI g (LX (sw (su (sw (sw (su σ 30 0 0) 14 sh4) 15 dh4) 18 (σ 16 0) c9) 27 (bl27 σ c9 0)) σ (σ 6 c9) (L ++ [])) h1 := by rw [List.append_nil]; exact bl_0 I1 rfl
                  have hB1 : LB (L ++ []) := by rw [List.append_nil]; exact hB
                  refine z_iconst F dX9_invoice_160 ?_
                  refine z_istore_n (lv' := [(2, vI 0), (0, vR (g 0)), (1, vI c9)]) F dX9_invoice_161 rfl (by decide) rfl ?_
                  have L162 : ∀ (fuel : Nat) (i9 : Int) (M : List Ln) (h2 : Hp), (MI g (sw (sw (sw (sw (sw (sw (sw (su (sw (sw (su σ 30 0 0) 14 sh4) 15 dh4) 18 (σ 16 0) c9) 27 (bl27 σ c9 i9)) 19 (u19 σ (L ++ M))) 21 (u21 σ (L ++ M))) 20 (u20 σ (L ++ M))) 22 (u22 σ (σ 6 c9) (L ++ M))) 23 (u23 σ (σ 6 c9) (L ++ M))) 17 (u17 σ (L ++ M))) h2) → (0 ≤ i9) → (i9 ≤ σ 24 0) → (M = cLn (σ 27) (σ 9) (σ 25) (σ 26) c9 i9.toNat) → ((M.length : Int) ≤ i9) → (LB (L ++ M)) → σ 24 0 - i9 < (fuel : Int) → Z p l e ({ frames := 4, cells := 0, slots := 0, locals := 150 }) s m args below meth c 3 G N0 (cA h s.heap.size) Q h2 0 0 162 [(2, vI i9), (0, vR (g 0)), (1, vI c9)] [] := by
                    intro fuel
                    induction fuel with
                    | zero => intro i9 M  h2  I2 ha2 hb2 hM hl2 hB2 hm; exact absurd hm (by omega)
                    | succ fuel ih162 =>
                      intro i9 M  h2  I2 ha2 hb2 hM hl2 hB2 hm
                      have K_i := vK i9 ha2
                      have b9 : bl27 σ c9 i9 i9 = σ 27 i9 := if_neg (by omega)
                      have lLM := @List.length_append Ln L M
                      refine z_iload_n F dX9_invoice_162 rfl 0 rfl ?_
                      refine z_aload_n F dX9_invoice_163 rfl 1 rfl ?_
                      refine z_get (v := vI (σ 24 0)) F (mI I2 0 rfl) fX9_196 rfl dX9_invoice_164 ?_
                      refine z_icmp_ge (tgt := 228) F dX9_invoice_167 (by decide) (by omega) (hR 24 0) (fun c167 => ?_) (fun c167 => ?_)
                      · have hiv : L ++ M = ivL σ c9 := by show _ = ivE σ c9 ++ cLn _ _ _ _ _ _; rw [← hE, hM, show i9 = σ 24 0 by omega]
                        have hB3 : LB (ivL σ c9) := hiv ▸ hB2
                        have hl3 : ((ivL σ c9).length : Int) ≤ 40 := by rw [← hiv, List.length_append]; omega
                        have In18 : MI g (FX (sw (sw (sw (sw (sw (sw (sw (su (sw (sw (su σ 30 0 0) 14 sh4) 15 dh4) 18 (σ 16 0) c9) 27 (bl27 σ c9 (σ 24 0))) 19 (u19 σ (ivL σ c9))) 21 (u21 σ (ivL σ c9))) 20 (u20 σ (ivL σ c9))) 22 (u22 σ (σ 6 c9) (ivL σ c9))) 23 (u23 σ (σ 6 c9) (ivL σ c9))) 17 (u17 σ (ivL σ c9))) σ c9 0) h2 := fx_0 (by rw [← hiv, ← show i9 = σ 24 0 by omega]; exact I2) rfl rfl
                        refine z_iconst F dX9_invoice_228 ?_
                        refine z_istore_n (lv' := [(2, vI 0), (0, vR (g 0)), (1, vI c9)]) F dX9_invoice_229 rfl (by decide) rfl ?_
                        have L230 : ∀ (fuel : Nat) (x9 : Int) (h3 : Hp), (MI g (sw (sw (sw (sw (sw (sw (sw (sw (sw (su (sw (sw (su σ 30 0 0) 14 sh4) 15 dh4) 18 (σ 16 0) c9) 27 (bl27 σ c9 (σ 24 0))) 19 (u19 σ (ivL σ c9))) 21 (u21 σ (ivL σ c9))) 20 (u20 σ (ivL σ c9))) 22 (u22 σ (σ 6 c9) (ivL σ c9))) 23 (u23 σ (σ 6 c9) (ivL σ c9))) 17 (u17 σ (ivL σ c9))) 13 (fx13 σ c9 x9)) 12 (st12 σ c9 x9)) h3) → (0 ≤ x9) → (x9 ≤ σ 8 0) → σ 8 0 - x9 < (fuel : Int) → Z p l e ({ frames := 4, cells := 0, slots := 0, locals := 150 }) s m args below meth c 3 G N0 (cA h s.heap.size) Q h3 0 0 230 [(2, vI x9), (0, vR (g 0)), (1, vI c9)] [] := by
                          intro fuel
                          induction fuel with
                          | zero => intro x9 h3  I3 ha3 hb3 hm; exact absurd hm (by omega)
                          | succ fuel ih230 =>
                            intro x9 h3  I3 ha3 hb3 hm
                            refine z_iload_n F dX9_invoice_230 rfl 0 rfl ?_
                            refine z_aload_n F dX9_invoice_231 rfl 1 rfl ?_
                            refine z_get (v := vI (σ 8 0)) F (mI I3 0 rfl) fX9_97 rfl dX9_invoice_232 ?_
                            refine z_icmp_ge (tgt := 277) F dX9_invoice_235 (by decide) (by omega) (hR 8 0) (fun c235 => ?_) (fun c235 => ?_)
                            · refine z_aload_n F dX9_invoice_277 rfl 1 rfl ?_
                              refine z_dup F dX9_invoice_278 rfl ?_
                              refine z_get (v := vI (σ 16 0)) F (mI I3 0 rfl) fX9_192 rfl dX9_invoice_279 ?_
                              refine z_iconst F dX9_invoice_282 ?_
                              refine z_iadd F dX9_invoice_283 ?_
                              obtain ⟨h19, eh19, Ih19⟩ : ∃ z : Hp, hu h3 (g 0) (eO 14 [vI (σ 0 0), vI (σ 1 0), vI (σ 2 0), vR (g 3), vR (g 4), vR (g 5), vR (g 6), vR (g 7), vI (σ 8 0), vR (g 9), vR (g 10), vR (g 11), vR (g 12), vR (g 13), vR (g 14), vR (g 15), vI ((σ 16 0) + 1), vR (g 17), vR (g 18), vR (g 19), vR (g 20), vR (g 21), vR (g 22), vR (g 23), vI (σ 24 0), vR (g 25), vR (g 26), vR (g 27), vR (g 28), vI (σ 29 0), vI 0]) = z ∧ MI g (su (sw (sw (sw (sw (sw (sw (sw (sw (sw (su (sw (sw (su σ 30 0 0) 14 sh4) 15 dh4) 18 (σ 16 0) c9) 27 (bl27 σ c9 (σ 24 0))) 19 (u19 σ (ivL σ c9))) 21 (u21 σ (ivL σ c9))) 20 (u20 σ (ivL σ c9))) 22 (u22 σ (σ 6 c9) (ivL σ c9))) 23 (u23 σ (σ 6 c9) (ivL σ c9))) 17 (u17 σ (ivL σ c9))) 13 (fx13 σ c9 x9)) 12 (st12 σ c9 x9)) 16 0 ((σ 16 0) + 1)) z := ⟨_, rfl, mPs I3 16 rfl ((σ 16 0) + 1)⟩
                              refine z_put (fs := [vI (σ 0 0), vI (σ 1 0), vI (σ 2 0), vR (g 3), vR (g 4), vR (g 5), vR (g 6), vR (g 7), vI (σ 8 0), vR (g 9), vR (g 10), vR (g 11), vR (g 12), vR (g 13), vR (g 14), vR (g 15), vI (σ 16 0), vR (g 17), vR (g 18), vR (g 19), vR (g 20), vR (g 21), vR (g 22), vR (g 23), vI (σ 24 0), vR (g 25), vR (g 26), vR (g 27), vR (g 28), vI (σ 29 0), vI 0]) (fs' := [vI (σ 0 0), vI (σ 1 0), vI (σ 2 0), vR (g 3), vR (g 4), vR (g 5), vR (g 6), vR (g 7), vI (σ 8 0), vR (g 9), vR (g 10), vR (g 11), vR (g 12), vR (g 13), vR (g 14), vR (g 15), vI ((σ 16 0) + 1), vR (g 17), vR (g 18), vR (g 19), vR (g 20), vR (g 21), vR (g 22), vR (g 23), vI (σ 24 0), vR (g 25), vR (g 26), vR (g 27), vR (g 28), vI (σ 29 0), vI 0]) (h' := h19) F (mI I3 0 rfl) fX9_192 ftX9_16 (nf_i _) (Nat.le_of_ble_eq_true rfl) rfl dX9_invoice_284 eh19 ?_
                              refine z_aload_n F dX9_invoice_287 rfl 1 rfl ?_
                              refine z_get (v := vI ((σ 16 0) + 1)) F (mI Ih19 0 rfl) fX9_192 rfl dX9_invoice_288 ?_
                              refine z_iconst F dX9_invoice_291 ?_
                              refine z_isub F dX9_invoice_292 ?_
                              rw [hQ]
                              exact z_iret (nf_i _) F hr (Nat.le_of_ble_eq_true rfl) (Nat.le_of_ble_eq_true rfl) dX9_invoice_293 (Or.inr (Or.inr ⟨by omega, by omega, sh4, dh4, rI (by omega), by have z9 : x9 = σ 8 0 := (by omega); rw [z9] at Ih19; exact Ih19, Rsh4, Rdh4, hl3, hB3⟩))
                            · refine z_aload_n F dX9_invoice_238 rfl 1 rfl ?_
                              refine z_iload_n F dX9_invoice_239 rfl 0 rfl ?_
                              refine z_iload_n F dX9_invoice_240 rfl 2 rfl ?_
                              refine z_iconst F dX9_invoice_241 ?_
                              refine z_callV (As := [vI x9, vI c9, vI 0]) (st := []) F (mX9_belongs l G N0 h3 g (sw (sw (sw (sw (sw (sw (sw (sw (sw (su (sw (sw (su σ 30 0 0) 14 sh4) 15 dh4) 18 (σ 16 0) c9) 27 (bl27 σ c9 (σ 24 0))) 19 (u19 σ (ivL σ c9))) 21 (u21 σ (ivL σ c9))) 20 (u20 σ (ivL σ c9))) 22 (u22 σ (σ 6 c9) (ivL σ c9))) 23 (u23 σ (σ 6 c9) (ivL σ c9))) 17 (u17 σ (ivL σ c9))) 13 (fx13 σ c9 x9)) 12 (st12 σ c9 x9)) x9 c9 0 I3 (rg_sw (rg_sw (rLX (rg_sw (rg_su (rg_sw (rg_sw (rg_su hR (by omega)) Rsh4) Rdh4) (by omega)) (r27 hR _ _)) hR hB3 (by omega)) (r13 hR hV _ (by omega))) (r12 hR _ _)) (by omega) (by omega) (by omega)) cvX9_165 (mI I3 0 rfl) (fun r9 h9 => by cases h9; rfl) rfl rfl ⟨Nat.le_of_ble_eq_true rfl, Nat.le_of_ble_eq_true rfl⟩ rfl ⟨Nat.le_of_ble_eq_true rfl, Nat.le_of_ble_eq_true rfl⟩ dX9_invoice_242 ?_
                              rintro _ h9 ⟨rfl, hh9⟩
                              rw [hh9]
                              clear hh9 h9
                              show Z _ _ _ _ _ _ _ _ _ _ _ _ _ _ _ _ _ _ _ _ [vI (blI (σ 9) (st12 σ c9 x9) x9 c9 0)]
                              rw [bl_st c9 x9]
                              have q242 := blI_in (σ 9) (σ 12) x9 c9 0
                              show Z _ _ _ _ _ _ _ _ _ _ _ _ _ _ _ _ _ _ _ _ [vI (blI (σ 9) (σ 12) x9 c9 0)]
                              refine z_if_ne (tgt := 251) F dX9_invoice_245 (by decide) (by omega) (fun c245 => ?_) (fun c245 => ?_)
                              · refine z_aload_n F dX9_invoice_251 rfl 1 rfl ?_
                                refine z_get (v := vR (g 13)) F (mI I3 0 rfl) fX9_42 rfl dX9_invoice_252 ?_
                                refine z_iload_n F dX9_invoice_255 rfl 0 rfl ?_
                                refine z_aload_n F dX9_invoice_256 rfl 1 rfl ?_
                                refine z_get (v := vR (g 14)) F (mI I3 0 rfl) fX9_45 rfl dX9_invoice_257 ?_
                                refine z_iload_n F dX9_invoice_260 rfl 0 rfl ?_
                                refine z_iaload (N := 24) (f := fun j => sh4 j) F (mI I3 14 rfl) (by omega) (by omega) (by omega) dX9_invoice_261 ?_
                                obtain ⟨h20, eh20, Ih20⟩ : ∃ z : Hp, hu h3 (g 13) (eA 0 24 (fun j => vI (if j = x9 then sh4 x9 else (fx13 σ c9 x9) j))) = z ∧ MI g (su (sw (sw (sw (sw (sw (sw (sw (sw (sw (su (sw (sw (su σ 30 0 0) 14 sh4) 15 dh4) 18 (σ 16 0) c9) 27 (bl27 σ c9 (σ 24 0))) 19 (u19 σ (ivL σ c9))) 21 (u21 σ (ivL σ c9))) 20 (u20 σ (ivL σ c9))) 22 (u22 σ (σ 6 c9) (ivL σ c9))) 23 (u23 σ (σ 6 c9) (ivL σ c9))) 17 (u17 σ (ivL σ c9))) 13 (fx13 σ c9 x9)) 12 (st12 σ c9 x9)) 13 x9 (sh4 x9)) z := ⟨_, rfl, mP I3 13 rfl rfl x9 (sh4 x9)⟩
                                refine z_iastore (N := 24) (f := fun j => (fx13 σ c9 x9) j) (h' := h20) F (mI I3 13 rfl) (by omega) (by omega) (by omega) dX9_invoice_262 eh20 ?_
                                refine z_aload_n F dX9_invoice_263 rfl 1 rfl ?_
                                refine z_get (v := vR (g 12)) F (mI Ih20 0 rfl) fX9_39 rfl dX9_invoice_264 ?_
                                refine z_iload_n F dX9_invoice_267 rfl 0 rfl ?_
                                refine z_bipush F dX9_invoice_268 (by decide) ?_
                                obtain ⟨h21, eh21, Ih21⟩ : ∃ z : Hp, hu h20 (g 12) (eA 1 24 (fun j => vI (if j = x9 then 102 else (st12 σ c9 x9) j))) = z ∧ MI g (su (su (sw (sw (sw (sw (sw (sw (sw (sw (sw (su (sw (sw (su σ 30 0 0) 14 sh4) 15 dh4) 18 (σ 16 0) c9) 27 (bl27 σ c9 (σ 24 0))) 19 (u19 σ (ivL σ c9))) 21 (u21 σ (ivL σ c9))) 20 (u20 σ (ivL σ c9))) 22 (u22 σ (σ 6 c9) (ivL σ c9))) 23 (u23 σ (σ 6 c9) (ivL σ c9))) 17 (u17 σ (ivL σ c9))) 13 (fx13 σ c9 x9)) 12 (st12 σ c9 x9)) 13 x9 (sh4 x9)) 12 x9 102) z := ⟨_, rfl, mP Ih20 12 rfl rfl x9 102⟩
                                refine z_castore (N := 24) (f := fun j => (st12 σ c9 x9) j) (h' := h21) F (mI Ih20 12 rfl) (nf_c (by omega)) (by omega) (by omega) (by omega) dX9_invoice_270 eh21 ?_
                                refine z_iinc (lv' := [(2, vI (x9 + 1)), (0, vR (g 0)), (1, vI c9)]) F dX9_invoice_271 0 rfl (by decide) rfl ?_
                                refine z_goto (tgt := 230) F dX9_invoice_274 (by decide) ?_
                                exact ih230 (x9 + 1) h21 (fx_set (Y := (sw (sw (sw (sw (sw (sw (sw (su (sw (sw (su σ 30 0 0) 14 sh4) 15 dh4) 18 (σ 16 0) c9) 27 (bl27 σ c9 (σ 24 0))) 19 (u19 σ (ivL σ c9))) 21 (u21 σ (ivL σ c9))) 20 (u20 σ (ivL σ c9))) 22 (u22 σ (σ 6 c9) (ivL σ c9))) 23 (u23 σ (σ 6 c9) (ivL σ c9))) 17 (u17 σ (ivL σ c9)))) Ih21 ha3 (by omega) (nh4 x9 ha3 (by omega))) (by omega) (by omega) (by omega)
                              · refine z_goto (tgt := 271) F dX9_invoice_248 (by decide) ?_
                                refine z_iinc (lv' := [(2, vI (x9 + 1)), (0, vR (g 0)), (1, vI c9)]) F dX9_invoice_271 0 rfl (by decide) rfl ?_
                                refine z_goto (tgt := 230) F dX9_invoice_274 (by decide) ?_
                                exact ih230 (x9 + 1) h3 (by rw [(fx_skip (by omega)).1, (fx_skip (by omega)).2]; exact I3) (by omega) (by omega) (by omega)
                        exact L230 ((σ 8 0 - 0 : Int).toNat + 1) 0 h2 (In18) (by omega) (by omega) (by omega)
                      · refine z_aload_n F dX9_invoice_170 rfl 1 rfl ?_
                        refine z_get (v := vR (g 27)) F (mI I2 0 rfl) fX9_79 rfl dX9_invoice_171 ?_
                        refine z_iload_n F dX9_invoice_174 rfl 0 rfl ?_
                        refine z_zaload (N := 16) (f := fun j => (bl27 σ c9 i9) j) F (mI I2 27 rfl) (by omega) (by omega) (by omega) dX9_invoice_175 ?_
                        refine z_if_ne (tgt := 222) F dX9_invoice_176 (by decide) (by omega) (fun c176 => ?_) (fun c176 => ?_)
                        · refine z_iinc (lv' := [(2, vI (i9 + 1)), (0, vR (g 0)), (1, vI c9)]) F dX9_invoice_222 0 rfl (by decide) rfl ?_
                          refine z_goto (tgt := 162) F dX9_invoice_225 (by decide) ?_
                          exact ih162 (i9 + 1) M h2 (by rw [bl_skip (by omega)]; exact I2) (by omega) (by omega) (by rw [cLn_s _ _ _ _ _ ha2, ← hM, if_neg (by omega), List.append_nil]) (by omega) (hB2) (by omega)
                        · refine z_aload_n F dX9_invoice_179 rfl 1 rfl ?_
                          refine z_get (v := vR (g 9)) F (mI I2 0 rfl) fX9_30 rfl dX9_invoice_180 ?_
                          refine z_aload_n F dX9_invoice_183 rfl 1 rfl ?_
                          refine z_get (v := vR (g 25)) F (mI I2 0 rfl) fX9_73 rfl dX9_invoice_184 ?_
                          refine z_iload_n F dX9_invoice_187 rfl 0 rfl ?_
                          refine z_iaload (N := 16) (f := fun j => σ 25 j) F (mI I2 25 rfl) (by omega) (by omega) (by omega) dX9_invoice_188 ?_
                          refine z_iaload (N := 24) (f := fun j => σ 9 j) F (mI I2 9 rfl) (by omega) (by omega) (by omega) dX9_invoice_189 ?_
                          refine z_iload_n F dX9_invoice_190 rfl 2 rfl ?_
                          refine z_icmp_eq (tgt := 197) F dX9_invoice_191 (by decide) (hR 9 (σ 25 i9)) (by omega) (fun c191 => ?_) (fun c191 => ?_)
                          · refine z_aload_n F dX9_invoice_197 rfl 1 rfl ?_
                            refine z_get (v := vR (g 27)) F (mI I2 0 rfl) fX9_79 rfl dX9_invoice_198 ?_
                            refine z_iload_n F dX9_invoice_201 rfl 0 rfl ?_
                            refine z_iconst F dX9_invoice_202 ?_
                            obtain ⟨h22, eh22, Ih22⟩ : ∃ z : Hp, hu h2 (g 27) (eA 3 16 (fun j => vI (if j = i9 then 1 else (bl27 σ c9 i9) j))) = z ∧ MI g (su (sw (sw (sw (sw (sw (sw (sw (su (sw (sw (su σ 30 0 0) 14 sh4) 15 dh4) 18 (σ 16 0) c9) 27 (bl27 σ c9 i9)) 19 (u19 σ (L ++ M))) 21 (u21 σ (L ++ M))) 20 (u20 σ (L ++ M))) 22 (u22 σ (σ 6 c9) (L ++ M))) 23 (u23 σ (σ 6 c9) (L ++ M))) 17 (u17 σ (L ++ M))) 27 i9 1) z := ⟨_, rfl, mP I2 27 rfl rfl i9 1⟩
                            refine z_zastore (N := 16) (f := fun j => (bl27 σ c9 i9) j) (h' := h22) F (mI I2 27 rfl) (nf_z (by omega)) (by omega) (by omega) (by omega) dX9_invoice_203 eh22 ?_
                            have In23 : MI g (LX (sw (su (sw (sw (su σ 30 0 0) 14 sh4) 15 dh4) 18 (σ 16 0) c9) 27 (bl27 σ c9 (i9 + 1))) σ (σ 6 c9) (L ++ M)) h22 := bl_set Ih22 ha2 (by omega) (by omega)
                            refine z_aload_n F dX9_invoice_204 rfl 1 rfl ?_
                            refine z_bipush F dX9_invoice_205 (by decide) ?_
                            refine z_aload_n F dX9_invoice_207 rfl 1 rfl ?_
                            refine z_get (v := vR (g 25)) F (mI In23 0 rfl) fX9_73 rfl dX9_invoice_208 ?_
                            refine z_iload_n F dX9_invoice_211 rfl 0 rfl ?_
                            refine z_iaload (N := 16) (f := fun j => σ 25 j) F (mI In23 25 rfl) (by omega) (by omega) (by omega) dX9_invoice_212 ?_
                            refine z_aload_n F dX9_invoice_213 rfl 1 rfl ?_
                            refine z_get (v := vR (g 26)) F (mI In23 0 rfl) fX9_76 rfl dX9_invoice_214 ?_
                            refine z_iload_n F dX9_invoice_217 rfl 0 rfl ?_
                            refine z_iaload (N := 16) (f := fun j => σ 26 j) F (mI In23 26 rfl) (by omega) (by omega) (by omega) dX9_invoice_218 ?_
                            refine z_callV (As := [vI 99, vI (σ 25 i9), vI (σ 26 i9)]) (st := []) F (mX9_adds l G N0 h22 g (sw (sw (sw (sw (sw (sw (sw (su (sw (sw (su σ 30 0 0) 14 sh4) 15 dh4) 18 (σ 16 0) c9) 27 (bl27 σ c9 (i9 + 1))) 19 (u19 σ (L ++ M))) 21 (u21 σ (L ++ M))) 20 (u20 σ (L ++ M))) 22 (u22 σ (σ 6 c9) (L ++ M))) 23 (u23 σ (σ 6 c9) (L ++ M))) 17 (u17 σ (L ++ M))) 99 (σ 25 i9) (σ 26 i9) (159 + 2 * (L ++ M).length) In23 (rLX (rg_sw (rg_su (rg_sw (rg_sw (rg_su hR (by omega)) Rsh4) Rdh4) (by omega)) (r27 hR _ _)) hR hB2 (by omega)) (show 0 ≤ σ 16 0 ∧ σ 16 0 < 8 from by omega) (by have z9 : u17 σ (L ++ M) (σ 16 0) = ((L ++ M).length : Int) := if_pos rfl; show 0 ≤ u17 σ (L ++ M) (σ 16 0) ∧ u17 σ (L ++ M) (σ 16 0) < 40; have := @List.length_append Ln L M; omega) (show 0 ≤ (if σ 16 0 = σ 16 0 then c9 else σ 18 (σ 16 0)) ∧ (if σ 16 0 = σ 16 0 then c9 else σ 18 (σ 16 0)) < 5 from by omega) (by show 0 ≤ σ 6 (if σ 16 0 = σ 16 0 then c9 else σ 18 (σ 16 0)) ∧ σ 6 (if σ 16 0 = σ 16 0 then c9 else σ 18 (σ 16 0)) ≤ 50000; rw [show (if σ 16 0 = σ 16 0 then c9 else σ 18 (σ 16 0)) = c9 from if_pos rfl]; omega) (by omega) (by have := @List.length_append Ln L M; omega) (by show MG _ (fb (u23 σ (σ 6 c9) (L ++ M) (σ 16 0))); rw [show u23 σ (σ 6 c9) (L ++ M) (σ 16 0) = fi (totL (σ 6 c9) (L ++ M)) from if_pos rfl, fb_fi]; exact totL_mg (by omega) _ (L ++ M) rfl hB2 (by have := @List.length_append Ln L M; omega)) (by omega) (by omega)) cvX9_205 (mI In23 0 rfl) (fun r9 h9 => by cases h9; rfl) rfl rfl ⟨Nat.le_of_ble_eq_true rfl, Nat.le_of_ble_eq_true rfl⟩ rfl ⟨Nat.le_of_ble_eq_true rfl, Nat.le_of_ble_eq_true rfl⟩ dX9_invoice_219 ?_
                            rintro _ h24 ⟨rfl, Jh24⟩
                            have Ih24 : MI g (LX (sw (su (sw (sw (su σ 30 0 0) 14 sh4) 15 dh4) 18 (σ 16 0) c9) 27 (bl27 σ c9 (i9 + 1))) σ (σ 6 c9) ((L ++ M) ++ [(99, (σ 25 i9), (σ 26 i9))])) h24 := fold_ad (X := (sw (su (sw (sw (su σ 30 0 0) 14 sh4) 15 dh4) 18 (σ 16 0) c9) 27 (bl27 σ c9 (i9 + 1)))) Jh24 rfl (show σ 6 (if σ 16 0 = σ 16 0 then c9 else σ 18 (σ 16 0)) = σ 6 c9 from by rw [if_pos rfl])
                            show Z _ _ _ _ _ _ _ _ _ _ _ _ _ _ _ _ _ _ _ _ []
                            refine z_iinc (lv' := [(2, vI (i9 + 1)), (0, vR (g 0)), (1, vI c9)]) F dX9_invoice_222 0 rfl (by decide) rfl ?_
                            refine z_goto (tgt := 162) F dX9_invoice_225 (by decide) ?_
                            exact ih162 (i9 + 1) (M ++ [(99, (σ 25 i9), (σ 26 i9))]) h24 (by rw [← List.append_assoc]; exact Ih24) (by omega) (by omega) (by rw [cLn_s _ _ _ _ _ ha2, ← hM, if_pos (by omega)]) (by rw [List.length_append]; simp; omega) (by rw [← List.append_assoc]; exact hB2.push3 (by omega) (by omega) (by omega)) (by omega)
                          · refine z_goto (tgt := 222) F dX9_invoice_194 (by decide) ?_
                            refine z_iinc (lv' := [(2, vI (i9 + 1)), (0, vR (g 0)), (1, vI c9)]) F dX9_invoice_222 0 rfl (by decide) rfl ?_
                            refine z_goto (tgt := 162) F dX9_invoice_225 (by decide) ?_
                            exact ih162 (i9 + 1) M h2 (by rw [bl_skip (by omega)]; exact I2) (by omega) (by omega) (by rw [cLn_s _ _ _ _ _ ha2, ← hM, if_neg (by omega), List.append_nil]) (by omega) (hB2) (by omega)
                  exact L162 ((σ 24 0 - 0 : Int).toNat + 1) 0 [] h1 (In17) (by omega) (by omega) (rfl) (by decide) (hB1) (by omega)
                · refine z_aload_n F dX9_invoice_85 rfl 1 rfl ?_
                  refine z_iload_n F dX9_invoice_86 rfl 2 rfl ?_
                  refine z_iload_n F dX9_invoice_87 rfl 0 rfl ?_
                  refine z_iconst F dX9_invoice_88 ?_
                  refine z_callV (As := [vI c9, vI d9, vI 0]) (st := []) F (mX9_dayOf l G N0 h1 g (sw (sw (sw (sw (sw (sw (su (sw (sw (su σ 30 0 0) 14 sh4) 15 dh4) 18 (σ 16 0) c9) 19 (u19 σ L)) 21 (u21 σ L)) 20 (u20 σ L)) 22 (u22 σ (σ 6 c9) L)) 23 (u23 σ (σ 6 c9) L)) 17 (u17 σ L)) c9 d9 0 I1 (rLX (rg_su (rg_sw (rg_sw (rg_su hR (by omega)) Rsh4) Rdh4) (by omega)) hR hB (by omega)) (show 0 ≤ σ 8 0 ∧ σ 8 0 ≤ 24 from by omega) (by omega) (by omega) (by omega)) cvX9_183 (mI I1 0 rfl) (fun r9 h9 => by cases h9; rfl) rfl rfl ⟨Nat.le_of_ble_eq_true rfl, Nat.le_of_ble_eq_true rfl⟩ rfl ⟨Nat.le_of_ble_eq_true rfl, Nat.le_of_ble_eq_true rfl⟩ dX9_invoice_89 ?_
                  rintro _ h9 ⟨rfl, hh9⟩
                  rw [hh9]
                  clear hh9 h9
                  show Z _ _ _ _ _ _ _ _ _ _ _ _ _ _ _ _ _ _ _ _ [vI (dyO (σ 9) (σ 12) dh4 c9 d9 0 (σ 8 0).toNat)]
                  rw [show dyO (σ 9) (σ 12) dh4 c9 d9 0 (σ 8 0).toNat = dyO (σ 9) (σ 12) (dyF σ) c9 d9 0 (σ 8 0).toNat from dyO_c _ (fun x q1 q2 => (oh4 x d9 q1 (by omega) (by omega) (by omega)).trans (dyF_at σ (by omega) (by omega)).symm)]
                  have q89 := dyO_in (ow := σ 9) (sa := σ 12) (D := dyF σ) (c := c9) (d := d9) (wr := 0) (M := 180000) (N := (σ 8 0).toNat) (by decide) (fun x q1 q2 => by rw [dyF_at σ (by omega) (by omega)]; exact dayS_in hV q1 (by omega)) (σ 8 0).toNat (Nat.le_refl _)
                  show Z _ _ _ _ _ _ _ _ _ _ _ _ _ _ _ _ _ _ _ _ [vI (dyO (σ 9) (σ 12) (dyF σ) c9 d9 0 (σ 8 0).toNat)]
                  refine z_if_le (tgt := 114) F dX9_invoice_92 (by decide) (by omega) (fun c92 => ?_) (fun c92 => ?_)
                  · refine z_iinc (lv' := [(2, vI (d9 + 1)), (0, vR (g 0)), (1, vI c9)]) F dX9_invoice_114 0 rfl (by decide) rfl ?_
                    refine z_goto (tgt := 80) F dX9_invoice_117 (by decide) ?_
                    exact ih80 (d9 + 1) L h1 (I1) (by omega) (by omega) (by rw [dLn_s _ _ _ _ _ _ _ ha, ← hL, if_neg (by omega), List.append_nil]) (by omega) (hB) (by omega)
                  · refine z_aload_n F dX9_invoice_95 rfl 1 rfl ?_
                    refine z_bipush F dX9_invoice_96 (by decide) ?_
                    refine z_iload_n F dX9_invoice_98 rfl 0 rfl ?_
                    refine z_aload_n F dX9_invoice_99 rfl 1 rfl ?_
                    refine z_iload_n F dX9_invoice_100 rfl 2 rfl ?_
                    refine z_aload_n F dX9_invoice_101 rfl 1 rfl ?_
                    refine z_iload_n F dX9_invoice_102 rfl 2 rfl ?_
                    refine z_iload_n F dX9_invoice_103 rfl 0 rfl ?_
                    refine z_iconst F dX9_invoice_104 ?_
                    refine z_callV (As := [vI c9, vI d9, vI 0]) (st := [vI c9, vR (g 0), vI d9, vI 100, vR (g 0)]) F (mX9_dayOf l G N0 h1 g (sw (sw (sw (sw (sw (sw (su (sw (sw (su σ 30 0 0) 14 sh4) 15 dh4) 18 (σ 16 0) c9) 19 (u19 σ L)) 21 (u21 σ L)) 20 (u20 σ L)) 22 (u22 σ (σ 6 c9) L)) 23 (u23 σ (σ 6 c9) L)) 17 (u17 σ L)) c9 d9 0 I1 (rLX (rg_su (rg_sw (rg_sw (rg_su hR (by omega)) Rsh4) Rdh4) (by omega)) hR hB (by omega)) (show 0 ≤ σ 8 0 ∧ σ 8 0 ≤ 24 from by omega) (by omega) (by omega) (by omega)) cvX9_183 (mI I1 0 rfl) (fun r9 h9 => by cases h9; rfl) rfl rfl ⟨Nat.le_of_ble_eq_true rfl, Nat.le_of_ble_eq_true rfl⟩ rfl ⟨Nat.le_of_ble_eq_true rfl, Nat.le_of_ble_eq_true rfl⟩ dX9_invoice_105 ?_
                    rintro _ h9 ⟨rfl, hh9⟩
                    rw [hh9]
                    clear hh9 h9
                    show Z _ _ _ _ _ _ _ _ _ _ _ _ _ _ _ _ _ _ _ _ [vI (dyO (σ 9) (σ 12) dh4 c9 d9 0 (σ 8 0).toNat), vI c9, vR (g 0), vI d9, vI 100, vR (g 0)]
                    rw [show dyO (σ 9) (σ 12) dh4 c9 d9 0 (σ 8 0).toNat = dyO (σ 9) (σ 12) (dyF σ) c9 d9 0 (σ 8 0).toNat from dyO_c _ (fun x q1 q2 => (oh4 x d9 q1 (by omega) (by omega) (by omega)).trans (dyF_at σ (by omega) (by omega)).symm)]
                    have q105 := dyO_in (ow := σ 9) (sa := σ 12) (D := dyF σ) (c := c9) (d := d9) (wr := 0) (M := 180000) (N := (σ 8 0).toNat) (by decide) (fun x q1 q2 => by rw [dyF_at σ (by omega) (by omega)]; exact dayS_in hV q1 (by omega)) (σ 8 0).toNat (Nat.le_refl _)
                    show Z _ _ _ _ _ _ _ _ _ _ _ _ _ _ _ _ _ _ _ _ [vI (dyO (σ 9) (σ 12) (dyF σ) c9 d9 0 (σ 8 0).toNat), vI c9, vR (g 0), vI d9, vI 100, vR (g 0)]
                    refine z_callV (As := [vI c9, vI (dyO (σ 9) (σ 12) (dyF σ) c9 d9 0 (σ 8 0).toNat)]) (st := [vI d9, vI 100, vR (g 0)]) F (mX9_round l G N0 h1 g (sw (sw (sw (sw (sw (sw (su (sw (sw (su σ 30 0 0) 14 sh4) 15 dh4) 18 (σ 16 0) c9) 19 (u19 σ L)) 21 (u21 σ L)) 20 (u20 σ L)) 22 (u22 σ (σ 6 c9) L)) 23 (u23 σ (σ 6 c9) L)) 17 (u17 σ L)) c9 (dyO (σ 9) (σ 12) (dyF σ) c9 d9 0 (σ 8 0).toNat) I1 (rLX (rg_su (rg_sw (rg_sw (rg_su hR (by omega)) Rsh4) Rdh4) (by omega)) hR hB (by omega)) (by omega) (show 1 ≤ σ 3 c9 ∧ σ 3 c9 ≤ 60 from by omega) (by omega)) cvX9_172 (mI I1 0 rfl) (fun r9 h9 => by cases h9; rfl) rfl rfl ⟨Nat.le_of_ble_eq_true rfl, Nat.le_of_ble_eq_true rfl⟩ rfl ⟨Nat.le_of_ble_eq_true rfl, Nat.le_of_ble_eq_true rfl⟩ dX9_invoice_108 ?_
                    rintro _ h9 ⟨rfl, hh9⟩
                    rw [hh9]
                    clear hh9 h9
                    have q108 := rndS_hi (u := σ 3 c9) (mo := σ 4 c9) (s := (dyO (σ 9) (σ 12) (dyF σ) c9 d9 0 (σ 8 0).toNat)) (by omega) (by omega)
                    have w108 := rndS_in (u := σ 3 c9) (mo := σ 4 c9) (s := (dyO (σ 9) (σ 12) (dyF σ) c9 d9 0 (σ 8 0).toNat)) (by omega) (by omega)
                    show Z _ _ _ _ _ _ _ _ _ _ _ _ _ _ _ _ _ _ _ _ [vI (rndS (σ 3 c9) (σ 4 c9) (dyO (σ 9) (σ 12) (dyF σ) c9 d9 0 (σ 8 0).toNat)), vI d9, vI 100, vR (g 0)]
                    refine z_callV (As := [vI 100, vI d9, vI (rndS (σ 3 c9) (σ 4 c9) (dyO (σ 9) (σ 12) (dyF σ) c9 d9 0 (σ 8 0).toNat))]) (st := []) F (mX9_adds l G N0 h1 g (sw (sw (sw (sw (sw (sw (su (sw (sw (su σ 30 0 0) 14 sh4) 15 dh4) 18 (σ 16 0) c9) 19 (u19 σ L)) 21 (u21 σ L)) 20 (u20 σ L)) 22 (u22 σ (σ 6 c9) L)) 23 (u23 σ (σ 6 c9) L)) 17 (u17 σ L)) 100 d9 (rndS (σ 3 c9) (σ 4 c9) (dyO (σ 9) (σ 12) (dyF σ) c9 d9 0 (σ 8 0).toNat)) (159 + 2 * L.length) I1 (rLX (rg_su (rg_sw (rg_sw (rg_su hR (by omega)) Rsh4) Rdh4) (by omega)) hR hB (by omega)) (show 0 ≤ σ 16 0 ∧ σ 16 0 < 8 from by omega) (by have z9 : u17 σ L (σ 16 0) = (L.length : Int) := if_pos rfl; show 0 ≤ u17 σ L (σ 16 0) ∧ u17 σ L (σ 16 0) < 40; omega) (show 0 ≤ (if σ 16 0 = σ 16 0 then c9 else σ 18 (σ 16 0)) ∧ (if σ 16 0 = σ 16 0 then c9 else σ 18 (σ 16 0)) < 5 from by omega) (by show 0 ≤ σ 6 (if σ 16 0 = σ 16 0 then c9 else σ 18 (σ 16 0)) ∧ σ 6 (if σ 16 0 = σ 16 0 then c9 else σ 18 (σ 16 0)) ≤ 50000; rw [show (if σ 16 0 = σ 16 0 then c9 else σ 18 (σ 16 0)) = c9 from if_pos rfl]; omega) (by omega) (by omega) (by show MG _ (fb (u23 σ (σ 6 c9) L (σ 16 0))); rw [show u23 σ (σ 6 c9) L (σ 16 0) = fi (totL (σ 6 c9) L) from if_pos rfl, fb_fi]; exact totL_mg (by omega) _ L rfl hB (by omega)) (by omega) (by omega)) cvX9_205 (mI I1 0 rfl) (fun r9 h9 => by cases h9; rfl) rfl rfl ⟨Nat.le_of_ble_eq_true rfl, Nat.le_of_ble_eq_true rfl⟩ rfl ⟨Nat.le_of_ble_eq_true rfl, Nat.le_of_ble_eq_true rfl⟩ dX9_invoice_111 ?_
                    rintro _ h25 ⟨rfl, Jh25⟩
                    have Ih25 : MI g (LX (su (sw (sw (su σ 30 0 0) 14 sh4) 15 dh4) 18 (σ 16 0) c9) σ (σ 6 c9) (L ++ [(100, d9, (rndS (σ 3 c9) (σ 4 c9) (dyO (σ 9) (σ 12) (dyF σ) c9 d9 0 (σ 8 0).toNat)))])) h25 := fold_ad (X := (su (sw (sw (su σ 30 0 0) 14 sh4) 15 dh4) 18 (σ 16 0) c9)) Jh25 rfl (show σ 6 (if σ 16 0 = σ 16 0 then c9 else σ 18 (σ 16 0)) = σ 6 c9 from by rw [if_pos rfl])
                    show Z _ _ _ _ _ _ _ _ _ _ _ _ _ _ _ _ _ _ _ _ []
                    refine z_iinc (lv' := [(2, vI (d9 + 1)), (0, vR (g 0)), (1, vI c9)]) F dX9_invoice_114 0 rfl (by decide) rfl ?_
                    refine z_goto (tgt := 80) F dX9_invoice_117 (by decide) ?_
                    exact ih80 (d9 + 1) (L ++ [(100, d9, (rndS (σ 3 c9) (σ 4 c9) (dyO (σ 9) (σ 12) (dyF σ) c9 d9 0 (σ 8 0).toNat)))]) h25 (Ih25) (by omega) (by omega) (by rw [dLn_s _ _ _ _ _ _ _ ha, ← hL, if_pos (by omega)]) (by rw [List.length_append]; simp; omega) (hB.push3 (by omega) (by omega) (by omega)) (by omega)
            exact L80 ((5 - 0 : Int).toNat + 1) 0 [] h5 (In16) (by omega) (by omega) (rfl) (by decide) (LB.nil) (by omega)
        · exact absurd c48 (by decide)
      · refine z_aload_n F dX9_invoice_32 rfl 0 rfl ?_
        refine z_iload_n F dX9_invoice_33 rfl 1 rfl ?_
        refine z_callV (As := [vI c9]) (st := [vR (g 0)]) F (mX9_hasCorrection l G N0 h g σ c9 hI hR hV (by omega)) cvX9_202 (mI hI 0 rfl) (fun r9 h9 => by cases h9; rfl) rfl rfl ⟨Nat.le_of_ble_eq_true rfl, Nat.le_of_ble_eq_true rfl⟩ rfl ⟨Nat.le_of_ble_eq_true rfl, Nat.le_of_ble_eq_true rfl⟩ dX9_invoice_34 ?_
        rintro _ h9 ⟨rfl, hh9⟩
        rw [hh9]
        clear hh9 h9
        have q34 := hcF_in σ c9 (σ 24 0).toNat
        show Z _ _ _ _ _ _ _ _ _ _ _ _ _ _ _ _ _ _ _ _ [vI (hcF σ c9 (σ 24 0).toNat), vR (g 0)]
        refine z_if_ne (tgt := 44) F dX9_invoice_37 (by decide) (by omega) (fun c37 => ?_) (fun c37 => ?_)
        · refine z_iconst F dX9_invoice_44 ?_
          refine z_callV (As := [vI 0]) (st := []) F (mX9_fails l G N0 h g σ 0 hI hR (by decide)) cvX9_107 (mI hI 0 rfl) (fun r9 h9 => by cases h9; rfl) rfl rfl ⟨Nat.le_of_ble_eq_true rfl, Nat.le_of_ble_eq_true rfl⟩ rfl ⟨Nat.le_of_ble_eq_true rfl, Nat.le_of_ble_eq_true rfl⟩ dX9_invoice_45 ?_
          rintro _ h26 ⟨rfl, Ih26⟩
          rw [if_neg (by decide)]
          show Z _ _ _ _ _ _ _ _ _ _ _ _ _ _ _ _ _ _ _ _ [vI 0]
          refine z_if_eq (tgt := 53) F dX9_invoice_48 (by decide) (by decide) (fun c48 => ?_) (fun c48 => ?_)
          · refine z_aload_n F dX9_invoice_53 rfl 0 rfl ?_
            refine z_callV (As := []) (st := []) F (mX9_counts l G N0 h26 g (su σ 30 0 0) Ih26 (rg_su hR (by omega)) hV) cvX9_148 (mI Ih26 0 rfl) (fun r9 h9 => by cases h9; rfl) rfl rfl ⟨Nat.le_of_ble_eq_true rfl, Nat.le_of_ble_eq_true rfl⟩ rfl ⟨Nat.le_of_ble_eq_true rfl, Nat.le_of_ble_eq_true rfl⟩ dX9_invoice_54 ?_
            rintro _ h27 ⟨rfl, sh27, dh27, Ih27, Rsh27, Rdh27, Sh27, Dh27⟩
            show Z _ _ _ _ _ _ _ _ _ _ _ _ _ _ _ _ _ _ _ _ []
            simp only [secS_c, dayS_c] at Sh27 Dh27
            have nh27 : ∀ e, 0 ≤ e → e < σ 8 0 → sh27 e = secS σ e := Sh27
            have oh27 : ∀ e dd, 0 ≤ e → e < σ 8 0 → 0 ≤ dd → dd < 5 → dh27 (5 * e + dd) = dayS σ e dd := Dh27
            have hf9 : ∀ x : Int, 0 ≤ x → x < σ 8 0 → 0 ≤ sh27 x ∧ sh27 x ≤ 180000 := fun x q1 q2 => by rw [nh27 x q1 q2]; exact secS_in hV q1 q2
            refine z_aload_n F dX9_invoice_57 rfl 0 rfl ?_
            refine z_get (v := vR (g 18)) F (mI Ih27 0 rfl) fX9_54 rfl dX9_invoice_58 ?_
            refine z_aload_n F dX9_invoice_61 rfl 0 rfl ?_
            refine z_get (v := vI (σ 16 0)) F (mI Ih27 0 rfl) fX9_192 rfl dX9_invoice_62 ?_
            refine z_iload_n F dX9_invoice_65 rfl 1 rfl ?_
            obtain ⟨h28, eh28, Ih28⟩ : ∃ z : Hp, hu h27 (g 18) (eA 0 8 (fun j => vI (if j = σ 16 0 then c9 else σ 18 j))) = z ∧ MI g (su (sw (sw (su σ 30 0 0) 14 sh27) 15 dh27) 18 (σ 16 0) c9) z := ⟨_, rfl, mP Ih27 18 rfl rfl (σ 16 0) c9⟩
            refine z_iastore (N := 8) (f := fun j => σ 18 j) (h' := h28) F (mI Ih27 18 rfl) (by omega) (by omega) (by omega) dX9_invoice_66 eh28 ?_
            refine z_aload_n F dX9_invoice_67 rfl 0 rfl ?_
            refine z_get (v := vR (g 5)) F (mI Ih28 0 rfl) fX9_21 rfl dX9_invoice_68 ?_
            refine z_iload_n F dX9_invoice_71 rfl 1 rfl ?_
            refine z_caload (N := 5) (f := fun j => σ 5 j) F (mI Ih28 5 rfl) (by omega) (by omega) (by omega) dX9_invoice_72 ?_
            refine z_bipush F dX9_invoice_73 (by decide) ?_
            refine z_icmp_ne (tgt := 123) F dX9_invoice_75 (by decide) (hR 5 c9) (by decide) (fun c75 => ?_) (fun c75 => ?_)
            · have In29 : MI g (LX (su (sw (sw (su σ 30 0 0) 14 sh27) 15 dh27) 18 (σ 16 0) c9) σ (σ 6 c9) []) h28 := LX_nil Ih28 (fun k hk => by rcases hk with rfl | rfl | rfl | rfl | rfl | rfl <;> rfl) (by omega) (by omega)
              have hB0 : LB [] := LB.nil
              refine z_aload_n F dX9_invoice_123 rfl 0 rfl ?_
              refine z_iload_n F dX9_invoice_124 rfl 1 rfl ?_
              refine z_iconst F dX9_invoice_125 ?_
              refine z_iconst F dX9_invoice_126 ?_
              refine z_callV (As := [vI c9, vI (-1), vI 0]) (st := []) F (mX9_behind l G N0 h28 g (sw (sw (sw (sw (sw (sw (su (sw (sw (su σ 30 0 0) 14 sh27) 15 dh27) 18 (σ 16 0) c9) 19 (u19 σ [])) 21 (u21 σ [])) 20 (u20 σ [])) 22 (u22 σ (σ 6 c9) [])) 23 (u23 σ (σ 6 c9) [])) 17 (u17 σ [])) c9 (-1) 0 In29 (rLX (rg_su (rg_sw (rg_sw (rg_su hR (by omega)) Rsh27) Rdh27) (by omega)) hR hB0 (by decide)) (show 0 ≤ σ 8 0 ∧ σ 8 0 ≤ 24 from by omega) (by omega) (by omega) (by omega)) cvX9_199 (mI In29 0 rfl) (fun r9 h9 => by cases h9; rfl) rfl rfl ⟨Nat.le_of_ble_eq_true rfl, Nat.le_of_ble_eq_true rfl⟩ rfl ⟨Nat.le_of_ble_eq_true rfl, Nat.le_of_ble_eq_true rfl⟩ dX9_invoice_127 ?_
              rintro _ h9 ⟨rfl, hh9⟩
              rw [hh9]
              clear hh9 h9
              have q127 := bhF_in (σ 9) (σ 12) (σ 10) c9 (-1) 0 (σ 8 0).toNat
              show Z _ _ _ _ _ _ _ _ _ _ _ _ _ _ _ _ _ _ _ _ [vI (bhF (σ 9) (σ 12) (σ 10) c9 (-1) 0 (σ 8 0).toNat)]
              refine z_istore_n (lv' := [(2, vI (bhF (σ 9) (σ 12) (σ 10) c9 (-1) 0 (σ 8 0).toNat)), (0, vR (g 0)), (1, vI c9)]) F dX9_invoice_130 rfl (by decide) rfl ?_
              have L131 : ∀ (fuel : Nat) (e9 : Int) (L : List Ln) (k : Nat) (h1 : Hp), (MI g (sw (sw (sw (sw (sw (sw (su (sw (sw (su σ 30 0 0) 14 sh27) 15 dh27) 18 (σ 16 0) c9) 19 (u19 σ L)) 21 (u21 σ L)) 20 (u20 σ L)) 22 (u22 σ (σ 6 c9) L)) 23 (u23 σ (σ 6 c9) L)) 17 (u17 σ L)) h1) → (eLi (σ 9) (σ 12) (σ 10) (secS σ) (σ 5 c9) (σ 3 c9) (σ 4 c9) c9 (σ 8 0).toNat (σ 8 0).toNat (bhF (σ 9) (σ 12) (σ 10) c9 (-1) 0 (σ 8 0).toNat) = L ++ eLi (σ 9) (σ 12) (σ 10) (secS σ) (σ 5 c9) (σ 3 c9) (σ 4 c9) c9 (σ 8 0).toNat k e9) → (-1 ≤ e9 ∧ e9 < σ 8 0) → (0 ≤ e9 → blI (σ 9) (σ 12) e9 c9 0 = 1) → (0 ≤ e9 → σ 8 0 ≤ (k : Int) + rkS (σ 9) (σ 12) (σ 10) c9 e9 (σ 8 0).toNat) → ((L.length : Int) ≤ σ 8 0) → (0 ≤ e9 → (L.length : Int) ≤ rkS (σ 9) (σ 12) (σ 10) c9 e9 (σ 8 0).toNat) → (LB L) → (k : Int) < (fuel : Int) → Z p l e ({ frames := 4, cells := 0, slots := 0, locals := 150 }) s m args below meth c 3 G N0 (cA h s.heap.size) Q h1 0 0 131 [(2, vI e9), (0, vR (g 0)), (1, vI c9)] [] := by
                intro fuel
                induction fuel with
                | zero => intro e9 L  k  h1  I1 hk he hbl hf hl hlr hB hm; exact absurd hm (by omega)
                | succ fuel ih131 =>
                  intro e9 L  k  h1  I1 hk he hbl hf hl hlr hB hm
                  refine z_iload_n F dX9_invoice_131 rfl 0 rfl ?_
                  refine z_if_lt (tgt := 160) F dX9_invoice_132 (by decide) (by omega) (fun c132 => ?_) (fun c132 => ?_)
                  · have hE : L = ivE σ c9 := by rw [eLi_neg _ _ _ _ _ _ _ _ _ _ (show e9 < 0 by omega), List.append_nil] at hk; rw [← hk]; exact (if_neg (by omega)).symm
                    have hL24 : (L.length : Int) ≤ 24 := by omega
                    have In30 : MI g (LX (sw (su (sw (sw (su σ 30 0 0) 14 sh27) 15 dh27) 18 (σ 16 0) c9) 27 (bl27 σ c9 0)) σ (σ 6 c9) (L ++ [])) h1 := by rw [List.append_nil]; exact bl_0 I1 rfl
                    have hB1 : LB (L ++ []) := by rw [List.append_nil]; exact hB
                    refine z_iconst F dX9_invoice_160 ?_
                    refine z_istore_n (lv' := [(2, vI 0), (0, vR (g 0)), (1, vI c9)]) F dX9_invoice_161 rfl (by decide) rfl ?_
                    have L162 : ∀ (fuel : Nat) (i9 : Int) (M : List Ln) (h2 : Hp), (MI g (sw (sw (sw (sw (sw (sw (sw (su (sw (sw (su σ 30 0 0) 14 sh27) 15 dh27) 18 (σ 16 0) c9) 27 (bl27 σ c9 i9)) 19 (u19 σ (L ++ M))) 21 (u21 σ (L ++ M))) 20 (u20 σ (L ++ M))) 22 (u22 σ (σ 6 c9) (L ++ M))) 23 (u23 σ (σ 6 c9) (L ++ M))) 17 (u17 σ (L ++ M))) h2) → (0 ≤ i9) → (i9 ≤ σ 24 0) → (M = cLn (σ 27) (σ 9) (σ 25) (σ 26) c9 i9.toNat) → ((M.length : Int) ≤ i9) → (LB (L ++ M)) → σ 24 0 - i9 < (fuel : Int) → Z p l e ({ frames := 4, cells := 0, slots := 0, locals := 150 }) s m args below meth c 3 G N0 (cA h s.heap.size) Q h2 0 0 162 [(2, vI i9), (0, vR (g 0)), (1, vI c9)] [] := by
                      intro fuel
                      induction fuel with
                      | zero => intro i9 M  h2  I2 ha2 hb2 hM hl2 hB2 hm; exact absurd hm (by omega)
                      | succ fuel ih162 =>
                        intro i9 M  h2  I2 ha2 hb2 hM hl2 hB2 hm
                        have K_i := vK i9 ha2
                        have b9 : bl27 σ c9 i9 i9 = σ 27 i9 := if_neg (by omega)
                        have lLM := @List.length_append Ln L M
                        refine z_iload_n F dX9_invoice_162 rfl 0 rfl ?_
                        refine z_aload_n F dX9_invoice_163 rfl 1 rfl ?_
                        refine z_get (v := vI (σ 24 0)) F (mI I2 0 rfl) fX9_196 rfl dX9_invoice_164 ?_
                        refine z_icmp_ge (tgt := 228) F dX9_invoice_167 (by decide) (by omega) (hR 24 0) (fun c167 => ?_) (fun c167 => ?_)
                        · have hiv : L ++ M = ivL σ c9 := by show _ = ivE σ c9 ++ cLn _ _ _ _ _ _; rw [← hE, hM, show i9 = σ 24 0 by omega]
                          have hB3 : LB (ivL σ c9) := hiv ▸ hB2
                          have hl3 : ((ivL σ c9).length : Int) ≤ 40 := by rw [← hiv, List.length_append]; omega
                          have In31 : MI g (FX (sw (sw (sw (sw (sw (sw (sw (su (sw (sw (su σ 30 0 0) 14 sh27) 15 dh27) 18 (σ 16 0) c9) 27 (bl27 σ c9 (σ 24 0))) 19 (u19 σ (ivL σ c9))) 21 (u21 σ (ivL σ c9))) 20 (u20 σ (ivL σ c9))) 22 (u22 σ (σ 6 c9) (ivL σ c9))) 23 (u23 σ (σ 6 c9) (ivL σ c9))) 17 (u17 σ (ivL σ c9))) σ c9 0) h2 := fx_0 (by rw [← hiv, ← show i9 = σ 24 0 by omega]; exact I2) rfl rfl
                          refine z_iconst F dX9_invoice_228 ?_
                          refine z_istore_n (lv' := [(2, vI 0), (0, vR (g 0)), (1, vI c9)]) F dX9_invoice_229 rfl (by decide) rfl ?_
                          have L230 : ∀ (fuel : Nat) (x9 : Int) (h3 : Hp), (MI g (sw (sw (sw (sw (sw (sw (sw (sw (sw (su (sw (sw (su σ 30 0 0) 14 sh27) 15 dh27) 18 (σ 16 0) c9) 27 (bl27 σ c9 (σ 24 0))) 19 (u19 σ (ivL σ c9))) 21 (u21 σ (ivL σ c9))) 20 (u20 σ (ivL σ c9))) 22 (u22 σ (σ 6 c9) (ivL σ c9))) 23 (u23 σ (σ 6 c9) (ivL σ c9))) 17 (u17 σ (ivL σ c9))) 13 (fx13 σ c9 x9)) 12 (st12 σ c9 x9)) h3) → (0 ≤ x9) → (x9 ≤ σ 8 0) → σ 8 0 - x9 < (fuel : Int) → Z p l e ({ frames := 4, cells := 0, slots := 0, locals := 150 }) s m args below meth c 3 G N0 (cA h s.heap.size) Q h3 0 0 230 [(2, vI x9), (0, vR (g 0)), (1, vI c9)] [] := by
                            intro fuel
                            induction fuel with
                            | zero => intro x9 h3  I3 ha3 hb3 hm; exact absurd hm (by omega)
                            | succ fuel ih230 =>
                              intro x9 h3  I3 ha3 hb3 hm
                              refine z_iload_n F dX9_invoice_230 rfl 0 rfl ?_
                              refine z_aload_n F dX9_invoice_231 rfl 1 rfl ?_
                              refine z_get (v := vI (σ 8 0)) F (mI I3 0 rfl) fX9_97 rfl dX9_invoice_232 ?_
                              refine z_icmp_ge (tgt := 277) F dX9_invoice_235 (by decide) (by omega) (hR 8 0) (fun c235 => ?_) (fun c235 => ?_)
                              · refine z_aload_n F dX9_invoice_277 rfl 1 rfl ?_
                                refine z_dup F dX9_invoice_278 rfl ?_
                                refine z_get (v := vI (σ 16 0)) F (mI I3 0 rfl) fX9_192 rfl dX9_invoice_279 ?_
                                refine z_iconst F dX9_invoice_282 ?_
                                refine z_iadd F dX9_invoice_283 ?_
                                obtain ⟨h32, eh32, Ih32⟩ : ∃ z : Hp, hu h3 (g 0) (eO 14 [vI (σ 0 0), vI (σ 1 0), vI (σ 2 0), vR (g 3), vR (g 4), vR (g 5), vR (g 6), vR (g 7), vI (σ 8 0), vR (g 9), vR (g 10), vR (g 11), vR (g 12), vR (g 13), vR (g 14), vR (g 15), vI ((σ 16 0) + 1), vR (g 17), vR (g 18), vR (g 19), vR (g 20), vR (g 21), vR (g 22), vR (g 23), vI (σ 24 0), vR (g 25), vR (g 26), vR (g 27), vR (g 28), vI (σ 29 0), vI 0]) = z ∧ MI g (su (sw (sw (sw (sw (sw (sw (sw (sw (sw (su (sw (sw (su σ 30 0 0) 14 sh27) 15 dh27) 18 (σ 16 0) c9) 27 (bl27 σ c9 (σ 24 0))) 19 (u19 σ (ivL σ c9))) 21 (u21 σ (ivL σ c9))) 20 (u20 σ (ivL σ c9))) 22 (u22 σ (σ 6 c9) (ivL σ c9))) 23 (u23 σ (σ 6 c9) (ivL σ c9))) 17 (u17 σ (ivL σ c9))) 13 (fx13 σ c9 x9)) 12 (st12 σ c9 x9)) 16 0 ((σ 16 0) + 1)) z := ⟨_, rfl, mPs I3 16 rfl ((σ 16 0) + 1)⟩
                                refine z_put (fs := [vI (σ 0 0), vI (σ 1 0), vI (σ 2 0), vR (g 3), vR (g 4), vR (g 5), vR (g 6), vR (g 7), vI (σ 8 0), vR (g 9), vR (g 10), vR (g 11), vR (g 12), vR (g 13), vR (g 14), vR (g 15), vI (σ 16 0), vR (g 17), vR (g 18), vR (g 19), vR (g 20), vR (g 21), vR (g 22), vR (g 23), vI (σ 24 0), vR (g 25), vR (g 26), vR (g 27), vR (g 28), vI (σ 29 0), vI 0]) (fs' := [vI (σ 0 0), vI (σ 1 0), vI (σ 2 0), vR (g 3), vR (g 4), vR (g 5), vR (g 6), vR (g 7), vI (σ 8 0), vR (g 9), vR (g 10), vR (g 11), vR (g 12), vR (g 13), vR (g 14), vR (g 15), vI ((σ 16 0) + 1), vR (g 17), vR (g 18), vR (g 19), vR (g 20), vR (g 21), vR (g 22), vR (g 23), vI (σ 24 0), vR (g 25), vR (g 26), vR (g 27), vR (g 28), vI (σ 29 0), vI 0]) (h' := h32) F (mI I3 0 rfl) fX9_192 ftX9_16 (nf_i _) (Nat.le_of_ble_eq_true rfl) rfl dX9_invoice_284 eh32 ?_
                                refine z_aload_n F dX9_invoice_287 rfl 1 rfl ?_
                                refine z_get (v := vI ((σ 16 0) + 1)) F (mI Ih32 0 rfl) fX9_192 rfl dX9_invoice_288 ?_
                                refine z_iconst F dX9_invoice_291 ?_
                                refine z_isub F dX9_invoice_292 ?_
                                rw [hQ]
                                exact z_iret (nf_i _) F hr (Nat.le_of_ble_eq_true rfl) (Nat.le_of_ble_eq_true rfl) dX9_invoice_293 (Or.inr (Or.inr ⟨by omega, by omega, sh27, dh27, rI (by omega), by have z9 : x9 = σ 8 0 := (by omega); rw [z9] at Ih32; exact Ih32, Rsh27, Rdh27, hl3, hB3⟩))
                              · refine z_aload_n F dX9_invoice_238 rfl 1 rfl ?_
                                refine z_iload_n F dX9_invoice_239 rfl 0 rfl ?_
                                refine z_iload_n F dX9_invoice_240 rfl 2 rfl ?_
                                refine z_iconst F dX9_invoice_241 ?_
                                refine z_callV (As := [vI x9, vI c9, vI 0]) (st := []) F (mX9_belongs l G N0 h3 g (sw (sw (sw (sw (sw (sw (sw (sw (sw (su (sw (sw (su σ 30 0 0) 14 sh27) 15 dh27) 18 (σ 16 0) c9) 27 (bl27 σ c9 (σ 24 0))) 19 (u19 σ (ivL σ c9))) 21 (u21 σ (ivL σ c9))) 20 (u20 σ (ivL σ c9))) 22 (u22 σ (σ 6 c9) (ivL σ c9))) 23 (u23 σ (σ 6 c9) (ivL σ c9))) 17 (u17 σ (ivL σ c9))) 13 (fx13 σ c9 x9)) 12 (st12 σ c9 x9)) x9 c9 0 I3 (rg_sw (rg_sw (rLX (rg_sw (rg_su (rg_sw (rg_sw (rg_su hR (by omega)) Rsh27) Rdh27) (by omega)) (r27 hR _ _)) hR hB3 (by omega)) (r13 hR hV _ (by omega))) (r12 hR _ _)) (by omega) (by omega) (by omega)) cvX9_165 (mI I3 0 rfl) (fun r9 h9 => by cases h9; rfl) rfl rfl ⟨Nat.le_of_ble_eq_true rfl, Nat.le_of_ble_eq_true rfl⟩ rfl ⟨Nat.le_of_ble_eq_true rfl, Nat.le_of_ble_eq_true rfl⟩ dX9_invoice_242 ?_
                                rintro _ h9 ⟨rfl, hh9⟩
                                rw [hh9]
                                clear hh9 h9
                                show Z _ _ _ _ _ _ _ _ _ _ _ _ _ _ _ _ _ _ _ _ [vI (blI (σ 9) (st12 σ c9 x9) x9 c9 0)]
                                rw [bl_st c9 x9]
                                have q242 := blI_in (σ 9) (σ 12) x9 c9 0
                                show Z _ _ _ _ _ _ _ _ _ _ _ _ _ _ _ _ _ _ _ _ [vI (blI (σ 9) (σ 12) x9 c9 0)]
                                refine z_if_ne (tgt := 251) F dX9_invoice_245 (by decide) (by omega) (fun c245 => ?_) (fun c245 => ?_)
                                · refine z_aload_n F dX9_invoice_251 rfl 1 rfl ?_
                                  refine z_get (v := vR (g 13)) F (mI I3 0 rfl) fX9_42 rfl dX9_invoice_252 ?_
                                  refine z_iload_n F dX9_invoice_255 rfl 0 rfl ?_
                                  refine z_aload_n F dX9_invoice_256 rfl 1 rfl ?_
                                  refine z_get (v := vR (g 14)) F (mI I3 0 rfl) fX9_45 rfl dX9_invoice_257 ?_
                                  refine z_iload_n F dX9_invoice_260 rfl 0 rfl ?_
                                  refine z_iaload (N := 24) (f := fun j => sh27 j) F (mI I3 14 rfl) (by omega) (by omega) (by omega) dX9_invoice_261 ?_
                                  obtain ⟨h33, eh33, Ih33⟩ : ∃ z : Hp, hu h3 (g 13) (eA 0 24 (fun j => vI (if j = x9 then sh27 x9 else (fx13 σ c9 x9) j))) = z ∧ MI g (su (sw (sw (sw (sw (sw (sw (sw (sw (sw (su (sw (sw (su σ 30 0 0) 14 sh27) 15 dh27) 18 (σ 16 0) c9) 27 (bl27 σ c9 (σ 24 0))) 19 (u19 σ (ivL σ c9))) 21 (u21 σ (ivL σ c9))) 20 (u20 σ (ivL σ c9))) 22 (u22 σ (σ 6 c9) (ivL σ c9))) 23 (u23 σ (σ 6 c9) (ivL σ c9))) 17 (u17 σ (ivL σ c9))) 13 (fx13 σ c9 x9)) 12 (st12 σ c9 x9)) 13 x9 (sh27 x9)) z := ⟨_, rfl, mP I3 13 rfl rfl x9 (sh27 x9)⟩
                                  refine z_iastore (N := 24) (f := fun j => (fx13 σ c9 x9) j) (h' := h33) F (mI I3 13 rfl) (by omega) (by omega) (by omega) dX9_invoice_262 eh33 ?_
                                  refine z_aload_n F dX9_invoice_263 rfl 1 rfl ?_
                                  refine z_get (v := vR (g 12)) F (mI Ih33 0 rfl) fX9_39 rfl dX9_invoice_264 ?_
                                  refine z_iload_n F dX9_invoice_267 rfl 0 rfl ?_
                                  refine z_bipush F dX9_invoice_268 (by decide) ?_
                                  obtain ⟨h34, eh34, Ih34⟩ : ∃ z : Hp, hu h33 (g 12) (eA 1 24 (fun j => vI (if j = x9 then 102 else (st12 σ c9 x9) j))) = z ∧ MI g (su (su (sw (sw (sw (sw (sw (sw (sw (sw (sw (su (sw (sw (su σ 30 0 0) 14 sh27) 15 dh27) 18 (σ 16 0) c9) 27 (bl27 σ c9 (σ 24 0))) 19 (u19 σ (ivL σ c9))) 21 (u21 σ (ivL σ c9))) 20 (u20 σ (ivL σ c9))) 22 (u22 σ (σ 6 c9) (ivL σ c9))) 23 (u23 σ (σ 6 c9) (ivL σ c9))) 17 (u17 σ (ivL σ c9))) 13 (fx13 σ c9 x9)) 12 (st12 σ c9 x9)) 13 x9 (sh27 x9)) 12 x9 102) z := ⟨_, rfl, mP Ih33 12 rfl rfl x9 102⟩
                                  refine z_castore (N := 24) (f := fun j => (st12 σ c9 x9) j) (h' := h34) F (mI Ih33 12 rfl) (nf_c (by omega)) (by omega) (by omega) (by omega) dX9_invoice_270 eh34 ?_
                                  refine z_iinc (lv' := [(2, vI (x9 + 1)), (0, vR (g 0)), (1, vI c9)]) F dX9_invoice_271 0 rfl (by decide) rfl ?_
                                  refine z_goto (tgt := 230) F dX9_invoice_274 (by decide) ?_
                                  exact ih230 (x9 + 1) h34 (fx_set (Y := (sw (sw (sw (sw (sw (sw (sw (su (sw (sw (su σ 30 0 0) 14 sh27) 15 dh27) 18 (σ 16 0) c9) 27 (bl27 σ c9 (σ 24 0))) 19 (u19 σ (ivL σ c9))) 21 (u21 σ (ivL σ c9))) 20 (u20 σ (ivL σ c9))) 22 (u22 σ (σ 6 c9) (ivL σ c9))) 23 (u23 σ (σ 6 c9) (ivL σ c9))) 17 (u17 σ (ivL σ c9)))) Ih34 ha3 (by omega) (nh27 x9 ha3 (by omega))) (by omega) (by omega) (by omega)
                                · refine z_goto (tgt := 271) F dX9_invoice_248 (by decide) ?_
                                  refine z_iinc (lv' := [(2, vI (x9 + 1)), (0, vR (g 0)), (1, vI c9)]) F dX9_invoice_271 0 rfl (by decide) rfl ?_
                                  refine z_goto (tgt := 230) F dX9_invoice_274 (by decide) ?_
                                  exact ih230 (x9 + 1) h3 (by rw [(fx_skip (by omega)).1, (fx_skip (by omega)).2]; exact I3) (by omega) (by omega) (by omega)
                          exact L230 ((σ 8 0 - 0 : Int).toNat + 1) 0 h2 (In31) (by omega) (by omega) (by omega)
                        · refine z_aload_n F dX9_invoice_170 rfl 1 rfl ?_
                          refine z_get (v := vR (g 27)) F (mI I2 0 rfl) fX9_79 rfl dX9_invoice_171 ?_
                          refine z_iload_n F dX9_invoice_174 rfl 0 rfl ?_
                          refine z_zaload (N := 16) (f := fun j => (bl27 σ c9 i9) j) F (mI I2 27 rfl) (by omega) (by omega) (by omega) dX9_invoice_175 ?_
                          refine z_if_ne (tgt := 222) F dX9_invoice_176 (by decide) (by omega) (fun c176 => ?_) (fun c176 => ?_)
                          · refine z_iinc (lv' := [(2, vI (i9 + 1)), (0, vR (g 0)), (1, vI c9)]) F dX9_invoice_222 0 rfl (by decide) rfl ?_
                            refine z_goto (tgt := 162) F dX9_invoice_225 (by decide) ?_
                            exact ih162 (i9 + 1) M h2 (by rw [bl_skip (by omega)]; exact I2) (by omega) (by omega) (by rw [cLn_s _ _ _ _ _ ha2, ← hM, if_neg (by omega), List.append_nil]) (by omega) (hB2) (by omega)
                          · refine z_aload_n F dX9_invoice_179 rfl 1 rfl ?_
                            refine z_get (v := vR (g 9)) F (mI I2 0 rfl) fX9_30 rfl dX9_invoice_180 ?_
                            refine z_aload_n F dX9_invoice_183 rfl 1 rfl ?_
                            refine z_get (v := vR (g 25)) F (mI I2 0 rfl) fX9_73 rfl dX9_invoice_184 ?_
                            refine z_iload_n F dX9_invoice_187 rfl 0 rfl ?_
                            refine z_iaload (N := 16) (f := fun j => σ 25 j) F (mI I2 25 rfl) (by omega) (by omega) (by omega) dX9_invoice_188 ?_
                            refine z_iaload (N := 24) (f := fun j => σ 9 j) F (mI I2 9 rfl) (by omega) (by omega) (by omega) dX9_invoice_189 ?_
                            refine z_iload_n F dX9_invoice_190 rfl 2 rfl ?_
                            refine z_icmp_eq (tgt := 197) F dX9_invoice_191 (by decide) (hR 9 (σ 25 i9)) (by omega) (fun c191 => ?_) (fun c191 => ?_)
                            · refine z_aload_n F dX9_invoice_197 rfl 1 rfl ?_
                              refine z_get (v := vR (g 27)) F (mI I2 0 rfl) fX9_79 rfl dX9_invoice_198 ?_
                              refine z_iload_n F dX9_invoice_201 rfl 0 rfl ?_
                              refine z_iconst F dX9_invoice_202 ?_
                              obtain ⟨h35, eh35, Ih35⟩ : ∃ z : Hp, hu h2 (g 27) (eA 3 16 (fun j => vI (if j = i9 then 1 else (bl27 σ c9 i9) j))) = z ∧ MI g (su (sw (sw (sw (sw (sw (sw (sw (su (sw (sw (su σ 30 0 0) 14 sh27) 15 dh27) 18 (σ 16 0) c9) 27 (bl27 σ c9 i9)) 19 (u19 σ (L ++ M))) 21 (u21 σ (L ++ M))) 20 (u20 σ (L ++ M))) 22 (u22 σ (σ 6 c9) (L ++ M))) 23 (u23 σ (σ 6 c9) (L ++ M))) 17 (u17 σ (L ++ M))) 27 i9 1) z := ⟨_, rfl, mP I2 27 rfl rfl i9 1⟩
                              refine z_zastore (N := 16) (f := fun j => (bl27 σ c9 i9) j) (h' := h35) F (mI I2 27 rfl) (nf_z (by omega)) (by omega) (by omega) (by omega) dX9_invoice_203 eh35 ?_
                              have In36 : MI g (LX (sw (su (sw (sw (su σ 30 0 0) 14 sh27) 15 dh27) 18 (σ 16 0) c9) 27 (bl27 σ c9 (i9 + 1))) σ (σ 6 c9) (L ++ M)) h35 := bl_set Ih35 ha2 (by omega) (by omega)
                              refine z_aload_n F dX9_invoice_204 rfl 1 rfl ?_
                              refine z_bipush F dX9_invoice_205 (by decide) ?_
                              refine z_aload_n F dX9_invoice_207 rfl 1 rfl ?_
                              refine z_get (v := vR (g 25)) F (mI In36 0 rfl) fX9_73 rfl dX9_invoice_208 ?_
                              refine z_iload_n F dX9_invoice_211 rfl 0 rfl ?_
                              refine z_iaload (N := 16) (f := fun j => σ 25 j) F (mI In36 25 rfl) (by omega) (by omega) (by omega) dX9_invoice_212 ?_
                              refine z_aload_n F dX9_invoice_213 rfl 1 rfl ?_
                              refine z_get (v := vR (g 26)) F (mI In36 0 rfl) fX9_76 rfl dX9_invoice_214 ?_
                              refine z_iload_n F dX9_invoice_217 rfl 0 rfl ?_
                              refine z_iaload (N := 16) (f := fun j => σ 26 j) F (mI In36 26 rfl) (by omega) (by omega) (by omega) dX9_invoice_218 ?_
                              refine z_callV (As := [vI 99, vI (σ 25 i9), vI (σ 26 i9)]) (st := []) F (mX9_adds l G N0 h35 g (sw (sw (sw (sw (sw (sw (sw (su (sw (sw (su σ 30 0 0) 14 sh27) 15 dh27) 18 (σ 16 0) c9) 27 (bl27 σ c9 (i9 + 1))) 19 (u19 σ (L ++ M))) 21 (u21 σ (L ++ M))) 20 (u20 σ (L ++ M))) 22 (u22 σ (σ 6 c9) (L ++ M))) 23 (u23 σ (σ 6 c9) (L ++ M))) 17 (u17 σ (L ++ M))) 99 (σ 25 i9) (σ 26 i9) (159 + 2 * (L ++ M).length) In36 (rLX (rg_sw (rg_su (rg_sw (rg_sw (rg_su hR (by omega)) Rsh27) Rdh27) (by omega)) (r27 hR _ _)) hR hB2 (by omega)) (show 0 ≤ σ 16 0 ∧ σ 16 0 < 8 from by omega) (by have z9 : u17 σ (L ++ M) (σ 16 0) = ((L ++ M).length : Int) := if_pos rfl; show 0 ≤ u17 σ (L ++ M) (σ 16 0) ∧ u17 σ (L ++ M) (σ 16 0) < 40; have := @List.length_append Ln L M; omega) (show 0 ≤ (if σ 16 0 = σ 16 0 then c9 else σ 18 (σ 16 0)) ∧ (if σ 16 0 = σ 16 0 then c9 else σ 18 (σ 16 0)) < 5 from by omega) (by show 0 ≤ σ 6 (if σ 16 0 = σ 16 0 then c9 else σ 18 (σ 16 0)) ∧ σ 6 (if σ 16 0 = σ 16 0 then c9 else σ 18 (σ 16 0)) ≤ 50000; rw [show (if σ 16 0 = σ 16 0 then c9 else σ 18 (σ 16 0)) = c9 from if_pos rfl]; omega) (by omega) (by have := @List.length_append Ln L M; omega) (by show MG _ (fb (u23 σ (σ 6 c9) (L ++ M) (σ 16 0))); rw [show u23 σ (σ 6 c9) (L ++ M) (σ 16 0) = fi (totL (σ 6 c9) (L ++ M)) from if_pos rfl, fb_fi]; exact totL_mg (by omega) _ (L ++ M) rfl hB2 (by have := @List.length_append Ln L M; omega)) (by omega) (by omega)) cvX9_205 (mI In36 0 rfl) (fun r9 h9 => by cases h9; rfl) rfl rfl ⟨Nat.le_of_ble_eq_true rfl, Nat.le_of_ble_eq_true rfl⟩ rfl ⟨Nat.le_of_ble_eq_true rfl, Nat.le_of_ble_eq_true rfl⟩ dX9_invoice_219 ?_
                              rintro _ h37 ⟨rfl, Jh37⟩
                              have Ih37 : MI g (LX (sw (su (sw (sw (su σ 30 0 0) 14 sh27) 15 dh27) 18 (σ 16 0) c9) 27 (bl27 σ c9 (i9 + 1))) σ (σ 6 c9) ((L ++ M) ++ [(99, (σ 25 i9), (σ 26 i9))])) h37 := fold_ad (X := (sw (su (sw (sw (su σ 30 0 0) 14 sh27) 15 dh27) 18 (σ 16 0) c9) 27 (bl27 σ c9 (i9 + 1)))) Jh37 rfl (show σ 6 (if σ 16 0 = σ 16 0 then c9 else σ 18 (σ 16 0)) = σ 6 c9 from by rw [if_pos rfl])
                              show Z _ _ _ _ _ _ _ _ _ _ _ _ _ _ _ _ _ _ _ _ []
                              refine z_iinc (lv' := [(2, vI (i9 + 1)), (0, vR (g 0)), (1, vI c9)]) F dX9_invoice_222 0 rfl (by decide) rfl ?_
                              refine z_goto (tgt := 162) F dX9_invoice_225 (by decide) ?_
                              exact ih162 (i9 + 1) (M ++ [(99, (σ 25 i9), (σ 26 i9))]) h37 (by rw [← List.append_assoc]; exact Ih37) (by omega) (by omega) (by rw [cLn_s _ _ _ _ _ ha2, ← hM, if_pos (by omega)]) (by rw [List.length_append]; simp; omega) (by rw [← List.append_assoc]; exact hB2.push3 (by omega) (by omega) (by omega)) (by omega)
                            · refine z_goto (tgt := 222) F dX9_invoice_194 (by decide) ?_
                              refine z_iinc (lv' := [(2, vI (i9 + 1)), (0, vR (g 0)), (1, vI c9)]) F dX9_invoice_222 0 rfl (by decide) rfl ?_
                              refine z_goto (tgt := 162) F dX9_invoice_225 (by decide) ?_
                              exact ih162 (i9 + 1) M h2 (by rw [bl_skip (by omega)]; exact I2) (by omega) (by omega) (by rw [cLn_s _ _ _ _ _ ha2, ← hM, if_neg (by omega), List.append_nil]) (by omega) (hB2) (by omega)
                    exact L162 ((σ 24 0 - 0 : Int).toNat + 1) 0 [] h1 (In30) (by omega) (by omega) (rfl) (by decide) (hB1) (by omega)
                  · obtain ⟨k1, rfl⟩ : ∃ k1, k = k1 + 1 := ⟨k - 1, by have := hf (by omega); have := rk_lt (ow := σ 9) (sa := σ 12) (st := σ 10) (c := c9) (e := e9) (by omega) (σ 8 0).toNat (by omega); omega⟩
                    have hlq : (L.length : Int) < 24 := by have := hlr (by omega); have := rk_lt (ow := σ 9) (sa := σ 12) (st := σ 10) (c := c9) (e := e9) (by omega) (σ 8 0).toNat (by omega); omega
                    refine z_aload_n F dX9_invoice_135 rfl 1 rfl ?_
                    refine z_bipush F dX9_invoice_136 (by decide) ?_
                    refine z_iload_n F dX9_invoice_138 rfl 0 rfl ?_
                    refine z_aload_n F dX9_invoice_139 rfl 1 rfl ?_
                    refine z_iload_n F dX9_invoice_140 rfl 2 rfl ?_
                    refine z_iload_n F dX9_invoice_141 rfl 0 rfl ?_
                    refine z_iconst F dX9_invoice_142 ?_
                    refine z_callV (As := [vI c9, vI e9, vI 0]) (st := [vI e9, vI 101, vR (g 0)]) F (mX9_roundedOf l G N0 h1 g (sw (sw (sw (sw (sw (sw (su (sw (sw (su σ 30 0 0) 14 sh27) 15 dh27) 18 (σ 16 0) c9) 19 (u19 σ L)) 21 (u21 σ L)) 20 (u20 σ L)) 22 (u22 σ (σ 6 c9) L)) 23 (u23 σ (σ 6 c9) L)) 17 (u17 σ L)) c9 e9 0 I1 (rLX (rg_su (rg_sw (rg_sw (rg_su hR (by omega)) Rsh27) Rdh27) (by omega)) hR hB (by omega)) (show 0 ≤ σ 8 0 ∧ σ 8 0 ≤ 24 from by omega) (by omega) (by omega) (show 1 ≤ σ 3 c9 ∧ σ 3 c9 ≤ 60 from by omega) (show 0 ≤ e9 ∧ e9 < σ 8 0 from by omega) hf9) cvX9_180 (mI I1 0 rfl) (fun r9 h9 => by cases h9; rfl) rfl rfl ⟨Nat.le_of_ble_eq_true rfl, Nat.le_of_ble_eq_true rfl⟩ rfl ⟨Nat.le_of_ble_eq_true rfl, Nat.le_of_ble_eq_true rfl⟩ dX9_invoice_143 ?_
                    rintro _ h9 ⟨rfl, hh9⟩
                    rw [hh9]
                    clear hh9 h9
                    show Z _ _ _ _ _ _ _ _ _ _ _ _ _ _ _ _ _ _ _ _ [vI (rdO (σ 9) (σ 12) (σ 10) sh27 (σ 5 c9) (σ 3 c9) (σ 4 c9) c9 e9 0 (σ 8 0).toNat), vI e9, vI 101, vR (g 0)]
                    rw [show rdO (σ 9) (σ 12) (σ 10) sh27 (σ 5 c9) (σ 3 c9) (σ 4 c9) c9 e9 0 (σ 8 0).toNat = rdO (σ 9) (σ 12) (σ 10) (secS σ) (σ 5 c9) (σ 3 c9) (σ 4 c9) c9 e9 0 (σ 8 0).toNat from rdO_c (fun x q1 q2 => nh27 x q1 (by omega)) (by omega) (by omega)]
                    have q143 := rdO_hi (ow := σ 9) (sa := σ 12) (st := σ 10) (f := secS σ) (lv := σ 5 c9) (mo := σ 4 c9) (c := c9) (e := e9) (wr := 0) (N := (σ 8 0).toNat) (by omega) (show 1 ≤ σ 3 c9 ∧ σ 3 c9 ≤ 60 from by omega) (fun x q1 q2 => secS_in hV q1 (by omega)) (by omega) (by omega)
                    show Z _ _ _ _ _ _ _ _ _ _ _ _ _ _ _ _ _ _ _ _ [vI (rdO (σ 9) (σ 12) (σ 10) (secS σ) (σ 5 c9) (σ 3 c9) (σ 4 c9) c9 e9 0 (σ 8 0).toNat), vI e9, vI 101, vR (g 0)]
                    refine z_callV (As := [vI 101, vI e9, vI (rdO (σ 9) (σ 12) (σ 10) (secS σ) (σ 5 c9) (σ 3 c9) (σ 4 c9) c9 e9 0 (σ 8 0).toNat)]) (st := []) F (mX9_adds l G N0 h1 g (sw (sw (sw (sw (sw (sw (su (sw (sw (su σ 30 0 0) 14 sh27) 15 dh27) 18 (σ 16 0) c9) 19 (u19 σ L)) 21 (u21 σ L)) 20 (u20 σ L)) 22 (u22 σ (σ 6 c9) L)) 23 (u23 σ (σ 6 c9) L)) 17 (u17 σ L)) 101 e9 (rdO (σ 9) (σ 12) (σ 10) (secS σ) (σ 5 c9) (σ 3 c9) (σ 4 c9) c9 e9 0 (σ 8 0).toNat) (159 + 2 * L.length) I1 (rLX (rg_su (rg_sw (rg_sw (rg_su hR (by omega)) Rsh27) Rdh27) (by omega)) hR hB (by omega)) (show 0 ≤ σ 16 0 ∧ σ 16 0 < 8 from by omega) (by have z9 : u17 σ L (σ 16 0) = (L.length : Int) := if_pos rfl; show 0 ≤ u17 σ L (σ 16 0) ∧ u17 σ L (σ 16 0) < 40; omega) (show 0 ≤ (if σ 16 0 = σ 16 0 then c9 else σ 18 (σ 16 0)) ∧ (if σ 16 0 = σ 16 0 then c9 else σ 18 (σ 16 0)) < 5 from by omega) (by show 0 ≤ σ 6 (if σ 16 0 = σ 16 0 then c9 else σ 18 (σ 16 0)) ∧ σ 6 (if σ 16 0 = σ 16 0 then c9 else σ 18 (σ 16 0)) ≤ 50000; rw [show (if σ 16 0 = σ 16 0 then c9 else σ 18 (σ 16 0)) = c9 from if_pos rfl]; omega) (by omega) (by omega) (by show MG _ (fb (u23 σ (σ 6 c9) L (σ 16 0))); rw [show u23 σ (σ 6 c9) L (σ 16 0) = fi (totL (σ 6 c9) L) from if_pos rfl, fb_fi]; exact totL_mg (by omega) _ L rfl hB (by omega)) (by omega) (by omega)) cvX9_205 (mI I1 0 rfl) (fun r9 h9 => by cases h9; rfl) rfl rfl ⟨Nat.le_of_ble_eq_true rfl, Nat.le_of_ble_eq_true rfl⟩ rfl ⟨Nat.le_of_ble_eq_true rfl, Nat.le_of_ble_eq_true rfl⟩ dX9_invoice_146 ?_
                    rintro _ h38 ⟨rfl, Jh38⟩
                    have Ih38 : MI g (LX (su (sw (sw (su σ 30 0 0) 14 sh27) 15 dh27) 18 (σ 16 0) c9) σ (σ 6 c9) (L ++ [(101, e9, (rdO (σ 9) (σ 12) (σ 10) (secS σ) (σ 5 c9) (σ 3 c9) (σ 4 c9) c9 e9 0 (σ 8 0).toNat))])) h38 := fold_ad (X := (su (sw (sw (su σ 30 0 0) 14 sh27) 15 dh27) 18 (σ 16 0) c9)) Jh38 rfl (show σ 6 (if σ 16 0 = σ 16 0 then c9 else σ 18 (σ 16 0)) = σ 6 c9 from by rw [if_pos rfl])
                    show Z _ _ _ _ _ _ _ _ _ _ _ _ _ _ _ _ _ _ _ _ []
                    have hB4 : LB (L ++ [(101, e9, (rdO (σ 9) (σ 12) (σ 10) (secS σ) (σ 5 c9) (σ 3 c9) (σ 4 c9) c9 e9 0 (σ 8 0).toNat))]) := hB.push3 (by omega) (by omega) (by omega)
                    have hl4 : (L ++ [(101, e9, (rdO (σ 9) (σ 12) (σ 10) (secS σ) (σ 5 c9) (σ 3 c9) (σ 4 c9) c9 e9 0 (σ 8 0).toNat))]).length ≤ 40 := by rw [List.length_append]; simp; omega
                    refine z_aload_n F dX9_invoice_149 rfl 1 rfl ?_
                    refine z_iload_n F dX9_invoice_150 rfl 2 rfl ?_
                    refine z_iload_n F dX9_invoice_151 rfl 0 rfl ?_
                    refine z_iconst F dX9_invoice_152 ?_
                    refine z_callV (As := [vI c9, vI e9, vI 0]) (st := []) F (mX9_behind l G N0 h38 g (sw (sw (sw (sw (sw (sw (su (sw (sw (su σ 30 0 0) 14 sh27) 15 dh27) 18 (σ 16 0) c9) 19 (u19 σ (L ++ [(101, e9, (rdO (σ 9) (σ 12) (σ 10) (secS σ) (σ 5 c9) (σ 3 c9) (σ 4 c9) c9 e9 0 (σ 8 0).toNat))]))) 21 (u21 σ (L ++ [(101, e9, (rdO (σ 9) (σ 12) (σ 10) (secS σ) (σ 5 c9) (σ 3 c9) (σ 4 c9) c9 e9 0 (σ 8 0).toNat))]))) 20 (u20 σ (L ++ [(101, e9, (rdO (σ 9) (σ 12) (σ 10) (secS σ) (σ 5 c9) (σ 3 c9) (σ 4 c9) c9 e9 0 (σ 8 0).toNat))]))) 22 (u22 σ (σ 6 c9) (L ++ [(101, e9, (rdO (σ 9) (σ 12) (σ 10) (secS σ) (σ 5 c9) (σ 3 c9) (σ 4 c9) c9 e9 0 (σ 8 0).toNat))]))) 23 (u23 σ (σ 6 c9) (L ++ [(101, e9, (rdO (σ 9) (σ 12) (σ 10) (secS σ) (σ 5 c9) (σ 3 c9) (σ 4 c9) c9 e9 0 (σ 8 0).toNat))]))) 17 (u17 σ (L ++ [(101, e9, (rdO (σ 9) (σ 12) (σ 10) (secS σ) (σ 5 c9) (σ 3 c9) (σ 4 c9) c9 e9 0 (σ 8 0).toNat))]))) c9 e9 0 Ih38 (rLX (rg_su (rg_sw (rg_sw (rg_su hR (by omega)) Rsh27) Rdh27) (by omega)) hR hB4 (by omega)) (show 0 ≤ σ 8 0 ∧ σ 8 0 ≤ 24 from by omega) (by omega) (by omega) (by omega)) cvX9_199 (mI Ih38 0 rfl) (fun r9 h9 => by cases h9; rfl) rfl rfl ⟨Nat.le_of_ble_eq_true rfl, Nat.le_of_ble_eq_true rfl⟩ rfl ⟨Nat.le_of_ble_eq_true rfl, Nat.le_of_ble_eq_true rfl⟩ dX9_invoice_153 ?_
                    rintro _ h9 ⟨rfl, hh9⟩
                    rw [hh9]
                    clear hh9 h9
                    have q153 := bhF_in (σ 9) (σ 12) (σ 10) c9 e9 0 (σ 8 0).toNat
                    show Z _ _ _ _ _ _ _ _ _ _ _ _ _ _ _ _ _ _ _ _ [vI (bhF (σ 9) (σ 12) (σ 10) c9 e9 0 (σ 8 0).toNat)]
                    refine z_istore_n (lv' := [(2, vI (bhF (σ 9) (σ 12) (σ 10) c9 e9 0 (σ 8 0).toNat)), (0, vR (g 0)), (1, vI c9)]) F dX9_invoice_156 rfl (by decide) rfl ?_
                    refine z_goto (tgt := 131) F dX9_invoice_157 (by decide) ?_
                    have hup : 0 ≤ bhF (σ 9) (σ 12) (σ 10) c9 e9 0 (σ 8 0).toNat → rkS (σ 9) (σ 12) (σ 10) c9 e9 (σ 8 0).toNat + 1 ≤ rkS (σ 9) (σ 12) (σ 10) c9 (bhF (σ 9) (σ 12) (σ 10) c9 e9 0 (σ 8 0).toNat) (σ 8 0).toNat := fun q => by
                      have q8 := rk_up (ow := σ 9) (sa := σ 12) (st := σ 10) (c := c9) (e := e9) (by omega) (hbl (by omega)) ((bh_is _ q).2.resolve_left (by omega)) (σ 8 0).toNat
                      rw [if_pos (by omega)] at q8
                      exact q8
                    exact ih131 (bhF (σ 9) (σ 12) (σ 10) c9 e9 0 (σ 8 0).toNat) (L ++ [(101, e9, (rdO (σ 9) (σ 12) (σ 10) (secS σ) (σ 5 c9) (σ 3 c9) (σ 4 c9) c9 e9 0 (σ 8 0).toNat))]) k1 h38 (Ih38) (by rw [hk, eLi, if_neg (by omega), List.append_assoc]; rfl) (by omega) (fun q => (bh_is _ q).1) (fun q => by have := hf (by omega); have := hup q; omega) (by rw [List.length_append]; have := hlr (by omega); have := rk_lt (ow := σ 9) (sa := σ 12) (st := σ 10) (c := c9) (e := e9) (by omega) (σ 8 0).toNat (by omega); simp; omega) (fun q => by rw [List.length_append]; have := hlr (by omega); have := hup q; simp; omega) (hB.push3 (by omega) (by omega) (by omega)) (by omega)
              exact L131 ((σ 8 0 : Int).toNat + 1) (bhF (σ 9) (σ 12) (σ 10) c9 (-1) 0 (σ 8 0).toNat) [] (σ 8 0).toNat h28 (In29) ((List.nil_append _).symm) (by omega) (fun q => (bh_is _ q).1) (fun q => by have := (rk_in (ow := σ 9) (sa := σ 12) (st := σ 10) (c := c9) (e := bhF (σ 9) (σ 12) (σ 10) c9 (-1) 0 (σ 8 0).toNat) (σ 8 0).toNat).1; omega) (by simp; omega) (fun q => (rk_in _).1) (LB.nil) (by omega)
            · have In39 : MI g (LX (su (sw (sw (su σ 30 0 0) 14 sh27) 15 dh27) 18 (σ 16 0) c9) σ (σ 6 c9) []) h28 := LX_nil Ih28 (fun k hk => by rcases hk with rfl | rfl | rfl | rfl | rfl | rfl <;> rfl) (by omega) (by omega)
              have hB0 : LB [] := LB.nil
              refine z_iconst F dX9_invoice_78 ?_
              refine z_istore_n (lv' := [(2, vI 0), (0, vR (g 0)), (1, vI c9)]) F dX9_invoice_79 rfl (by decide) rfl ?_
              have L80 : ∀ (fuel : Nat) (d9 : Int) (L : List Ln) (h1 : Hp), (MI g (sw (sw (sw (sw (sw (sw (su (sw (sw (su σ 30 0 0) 14 sh27) 15 dh27) 18 (σ 16 0) c9) 19 (u19 σ L)) 21 (u21 σ L)) 20 (u20 σ L)) 22 (u22 σ (σ 6 c9) L)) 23 (u23 σ (σ 6 c9) L)) 17 (u17 σ L)) h1) → (0 ≤ d9) → (d9 ≤ 5) → (L = dLn (σ 9) (σ 12) (dyF σ) (σ 3 c9) (σ 4 c9) c9 (σ 8 0).toNat d9.toNat) → ((L.length : Int) ≤ d9) → (LB L) → 5 - d9 < (fuel : Int) → Z p l e ({ frames := 4, cells := 0, slots := 0, locals := 150 }) s m args below meth c 3 G N0 (cA h s.heap.size) Q h1 0 0 80 [(2, vI d9), (0, vR (g 0)), (1, vI c9)] [] := by
                intro fuel
                induction fuel with
                | zero => intro d9 L  h1  I1 ha hb hL hl hB hm; exact absurd hm (by omega)
                | succ fuel ih80 =>
                  intro d9 L  h1  I1 ha hb hL hl hB hm
                  refine z_iload_n F dX9_invoice_80 rfl 0 rfl ?_
                  refine z_iconst F dX9_invoice_81 ?_
                  refine z_icmp_ge (tgt := 120) F dX9_invoice_82 (by decide) (by omega) (by decide) (fun c82 => ?_) (fun c82 => ?_)
                  · refine z_goto (tgt := 160) F dX9_invoice_120 (by decide) ?_
                    have hE : L = ivE σ c9 := by rw [hL, show d9 = 5 by omega]; exact (if_pos (by omega)).symm
                    have hL24 : (L.length : Int) ≤ 24 := by omega
                    have In40 : MI g (LX (sw (su (sw (sw (su σ 30 0 0) 14 sh27) 15 dh27) 18 (σ 16 0) c9) 27 (bl27 σ c9 0)) σ (σ 6 c9) (L ++ [])) h1 := by rw [List.append_nil]; exact bl_0 I1 rfl
                    have hB1 : LB (L ++ []) := by rw [List.append_nil]; exact hB
                    refine z_iconst F dX9_invoice_160 ?_
                    refine z_istore_n (lv' := [(2, vI 0), (0, vR (g 0)), (1, vI c9)]) F dX9_invoice_161 rfl (by decide) rfl ?_
                    have L162 : ∀ (fuel : Nat) (i9 : Int) (M : List Ln) (h2 : Hp), (MI g (sw (sw (sw (sw (sw (sw (sw (su (sw (sw (su σ 30 0 0) 14 sh27) 15 dh27) 18 (σ 16 0) c9) 27 (bl27 σ c9 i9)) 19 (u19 σ (L ++ M))) 21 (u21 σ (L ++ M))) 20 (u20 σ (L ++ M))) 22 (u22 σ (σ 6 c9) (L ++ M))) 23 (u23 σ (σ 6 c9) (L ++ M))) 17 (u17 σ (L ++ M))) h2) → (0 ≤ i9) → (i9 ≤ σ 24 0) → (M = cLn (σ 27) (σ 9) (σ 25) (σ 26) c9 i9.toNat) → ((M.length : Int) ≤ i9) → (LB (L ++ M)) → σ 24 0 - i9 < (fuel : Int) → Z p l e ({ frames := 4, cells := 0, slots := 0, locals := 150 }) s m args below meth c 3 G N0 (cA h s.heap.size) Q h2 0 0 162 [(2, vI i9), (0, vR (g 0)), (1, vI c9)] [] := by
                      intro fuel
                      induction fuel with
                      | zero => intro i9 M  h2  I2 ha2 hb2 hM hl2 hB2 hm; exact absurd hm (by omega)
                      | succ fuel ih162 =>
                        intro i9 M  h2  I2 ha2 hb2 hM hl2 hB2 hm
                        have K_i := vK i9 ha2
                        have b9 : bl27 σ c9 i9 i9 = σ 27 i9 := if_neg (by omega)
                        have lLM := @List.length_append Ln L M
                        refine z_iload_n F dX9_invoice_162 rfl 0 rfl ?_
                        refine z_aload_n F dX9_invoice_163 rfl 1 rfl ?_
                        refine z_get (v := vI (σ 24 0)) F (mI I2 0 rfl) fX9_196 rfl dX9_invoice_164 ?_
                        refine z_icmp_ge (tgt := 228) F dX9_invoice_167 (by decide) (by omega) (hR 24 0) (fun c167 => ?_) (fun c167 => ?_)
                        · have hiv : L ++ M = ivL σ c9 := by show _ = ivE σ c9 ++ cLn _ _ _ _ _ _; rw [← hE, hM, show i9 = σ 24 0 by omega]
                          have hB3 : LB (ivL σ c9) := hiv ▸ hB2
                          have hl3 : ((ivL σ c9).length : Int) ≤ 40 := by rw [← hiv, List.length_append]; omega
                          have In41 : MI g (FX (sw (sw (sw (sw (sw (sw (sw (su (sw (sw (su σ 30 0 0) 14 sh27) 15 dh27) 18 (σ 16 0) c9) 27 (bl27 σ c9 (σ 24 0))) 19 (u19 σ (ivL σ c9))) 21 (u21 σ (ivL σ c9))) 20 (u20 σ (ivL σ c9))) 22 (u22 σ (σ 6 c9) (ivL σ c9))) 23 (u23 σ (σ 6 c9) (ivL σ c9))) 17 (u17 σ (ivL σ c9))) σ c9 0) h2 := fx_0 (by rw [← hiv, ← show i9 = σ 24 0 by omega]; exact I2) rfl rfl
                          refine z_iconst F dX9_invoice_228 ?_
                          refine z_istore_n (lv' := [(2, vI 0), (0, vR (g 0)), (1, vI c9)]) F dX9_invoice_229 rfl (by decide) rfl ?_
                          have L230 : ∀ (fuel : Nat) (x9 : Int) (h3 : Hp), (MI g (sw (sw (sw (sw (sw (sw (sw (sw (sw (su (sw (sw (su σ 30 0 0) 14 sh27) 15 dh27) 18 (σ 16 0) c9) 27 (bl27 σ c9 (σ 24 0))) 19 (u19 σ (ivL σ c9))) 21 (u21 σ (ivL σ c9))) 20 (u20 σ (ivL σ c9))) 22 (u22 σ (σ 6 c9) (ivL σ c9))) 23 (u23 σ (σ 6 c9) (ivL σ c9))) 17 (u17 σ (ivL σ c9))) 13 (fx13 σ c9 x9)) 12 (st12 σ c9 x9)) h3) → (0 ≤ x9) → (x9 ≤ σ 8 0) → σ 8 0 - x9 < (fuel : Int) → Z p l e ({ frames := 4, cells := 0, slots := 0, locals := 150 }) s m args below meth c 3 G N0 (cA h s.heap.size) Q h3 0 0 230 [(2, vI x9), (0, vR (g 0)), (1, vI c9)] [] := by
                            intro fuel
                            induction fuel with
                            | zero => intro x9 h3  I3 ha3 hb3 hm; exact absurd hm (by omega)
                            | succ fuel ih230 =>
                              intro x9 h3  I3 ha3 hb3 hm
                              refine z_iload_n F dX9_invoice_230 rfl 0 rfl ?_
                              refine z_aload_n F dX9_invoice_231 rfl 1 rfl ?_
                              refine z_get (v := vI (σ 8 0)) F (mI I3 0 rfl) fX9_97 rfl dX9_invoice_232 ?_
                              refine z_icmp_ge (tgt := 277) F dX9_invoice_235 (by decide) (by omega) (hR 8 0) (fun c235 => ?_) (fun c235 => ?_)
                              · refine z_aload_n F dX9_invoice_277 rfl 1 rfl ?_
                                refine z_dup F dX9_invoice_278 rfl ?_
                                refine z_get (v := vI (σ 16 0)) F (mI I3 0 rfl) fX9_192 rfl dX9_invoice_279 ?_
                                refine z_iconst F dX9_invoice_282 ?_
                                refine z_iadd F dX9_invoice_283 ?_
                                obtain ⟨h42, eh42, Ih42⟩ : ∃ z : Hp, hu h3 (g 0) (eO 14 [vI (σ 0 0), vI (σ 1 0), vI (σ 2 0), vR (g 3), vR (g 4), vR (g 5), vR (g 6), vR (g 7), vI (σ 8 0), vR (g 9), vR (g 10), vR (g 11), vR (g 12), vR (g 13), vR (g 14), vR (g 15), vI ((σ 16 0) + 1), vR (g 17), vR (g 18), vR (g 19), vR (g 20), vR (g 21), vR (g 22), vR (g 23), vI (σ 24 0), vR (g 25), vR (g 26), vR (g 27), vR (g 28), vI (σ 29 0), vI 0]) = z ∧ MI g (su (sw (sw (sw (sw (sw (sw (sw (sw (sw (su (sw (sw (su σ 30 0 0) 14 sh27) 15 dh27) 18 (σ 16 0) c9) 27 (bl27 σ c9 (σ 24 0))) 19 (u19 σ (ivL σ c9))) 21 (u21 σ (ivL σ c9))) 20 (u20 σ (ivL σ c9))) 22 (u22 σ (σ 6 c9) (ivL σ c9))) 23 (u23 σ (σ 6 c9) (ivL σ c9))) 17 (u17 σ (ivL σ c9))) 13 (fx13 σ c9 x9)) 12 (st12 σ c9 x9)) 16 0 ((σ 16 0) + 1)) z := ⟨_, rfl, mPs I3 16 rfl ((σ 16 0) + 1)⟩
                                refine z_put (fs := [vI (σ 0 0), vI (σ 1 0), vI (σ 2 0), vR (g 3), vR (g 4), vR (g 5), vR (g 6), vR (g 7), vI (σ 8 0), vR (g 9), vR (g 10), vR (g 11), vR (g 12), vR (g 13), vR (g 14), vR (g 15), vI (σ 16 0), vR (g 17), vR (g 18), vR (g 19), vR (g 20), vR (g 21), vR (g 22), vR (g 23), vI (σ 24 0), vR (g 25), vR (g 26), vR (g 27), vR (g 28), vI (σ 29 0), vI 0]) (fs' := [vI (σ 0 0), vI (σ 1 0), vI (σ 2 0), vR (g 3), vR (g 4), vR (g 5), vR (g 6), vR (g 7), vI (σ 8 0), vR (g 9), vR (g 10), vR (g 11), vR (g 12), vR (g 13), vR (g 14), vR (g 15), vI ((σ 16 0) + 1), vR (g 17), vR (g 18), vR (g 19), vR (g 20), vR (g 21), vR (g 22), vR (g 23), vI (σ 24 0), vR (g 25), vR (g 26), vR (g 27), vR (g 28), vI (σ 29 0), vI 0]) (h' := h42) F (mI I3 0 rfl) fX9_192 ftX9_16 (nf_i _) (Nat.le_of_ble_eq_true rfl) rfl dX9_invoice_284 eh42 ?_
                                refine z_aload_n F dX9_invoice_287 rfl 1 rfl ?_
                                refine z_get (v := vI ((σ 16 0) + 1)) F (mI Ih42 0 rfl) fX9_192 rfl dX9_invoice_288 ?_
                                refine z_iconst F dX9_invoice_291 ?_
                                refine z_isub F dX9_invoice_292 ?_
                                rw [hQ]
                                exact z_iret (nf_i _) F hr (Nat.le_of_ble_eq_true rfl) (Nat.le_of_ble_eq_true rfl) dX9_invoice_293 (Or.inr (Or.inr ⟨by omega, by omega, sh27, dh27, rI (by omega), by have z9 : x9 = σ 8 0 := (by omega); rw [z9] at Ih42; exact Ih42, Rsh27, Rdh27, hl3, hB3⟩))
                              · refine z_aload_n F dX9_invoice_238 rfl 1 rfl ?_
                                refine z_iload_n F dX9_invoice_239 rfl 0 rfl ?_
                                refine z_iload_n F dX9_invoice_240 rfl 2 rfl ?_
                                refine z_iconst F dX9_invoice_241 ?_
                                refine z_callV (As := [vI x9, vI c9, vI 0]) (st := []) F (mX9_belongs l G N0 h3 g (sw (sw (sw (sw (sw (sw (sw (sw (sw (su (sw (sw (su σ 30 0 0) 14 sh27) 15 dh27) 18 (σ 16 0) c9) 27 (bl27 σ c9 (σ 24 0))) 19 (u19 σ (ivL σ c9))) 21 (u21 σ (ivL σ c9))) 20 (u20 σ (ivL σ c9))) 22 (u22 σ (σ 6 c9) (ivL σ c9))) 23 (u23 σ (σ 6 c9) (ivL σ c9))) 17 (u17 σ (ivL σ c9))) 13 (fx13 σ c9 x9)) 12 (st12 σ c9 x9)) x9 c9 0 I3 (rg_sw (rg_sw (rLX (rg_sw (rg_su (rg_sw (rg_sw (rg_su hR (by omega)) Rsh27) Rdh27) (by omega)) (r27 hR _ _)) hR hB3 (by omega)) (r13 hR hV _ (by omega))) (r12 hR _ _)) (by omega) (by omega) (by omega)) cvX9_165 (mI I3 0 rfl) (fun r9 h9 => by cases h9; rfl) rfl rfl ⟨Nat.le_of_ble_eq_true rfl, Nat.le_of_ble_eq_true rfl⟩ rfl ⟨Nat.le_of_ble_eq_true rfl, Nat.le_of_ble_eq_true rfl⟩ dX9_invoice_242 ?_
                                rintro _ h9 ⟨rfl, hh9⟩
                                rw [hh9]
                                clear hh9 h9
                                show Z _ _ _ _ _ _ _ _ _ _ _ _ _ _ _ _ _ _ _ _ [vI (blI (σ 9) (st12 σ c9 x9) x9 c9 0)]
                                rw [bl_st c9 x9]
                                have q242 := blI_in (σ 9) (σ 12) x9 c9 0
                                show Z _ _ _ _ _ _ _ _ _ _ _ _ _ _ _ _ _ _ _ _ [vI (blI (σ 9) (σ 12) x9 c9 0)]
                                refine z_if_ne (tgt := 251) F dX9_invoice_245 (by decide) (by omega) (fun c245 => ?_) (fun c245 => ?_)
                                · refine z_aload_n F dX9_invoice_251 rfl 1 rfl ?_
                                  refine z_get (v := vR (g 13)) F (mI I3 0 rfl) fX9_42 rfl dX9_invoice_252 ?_
                                  refine z_iload_n F dX9_invoice_255 rfl 0 rfl ?_
                                  refine z_aload_n F dX9_invoice_256 rfl 1 rfl ?_
                                  refine z_get (v := vR (g 14)) F (mI I3 0 rfl) fX9_45 rfl dX9_invoice_257 ?_
                                  refine z_iload_n F dX9_invoice_260 rfl 0 rfl ?_
                                  refine z_iaload (N := 24) (f := fun j => sh27 j) F (mI I3 14 rfl) (by omega) (by omega) (by omega) dX9_invoice_261 ?_
                                  obtain ⟨h43, eh43, Ih43⟩ : ∃ z : Hp, hu h3 (g 13) (eA 0 24 (fun j => vI (if j = x9 then sh27 x9 else (fx13 σ c9 x9) j))) = z ∧ MI g (su (sw (sw (sw (sw (sw (sw (sw (sw (sw (su (sw (sw (su σ 30 0 0) 14 sh27) 15 dh27) 18 (σ 16 0) c9) 27 (bl27 σ c9 (σ 24 0))) 19 (u19 σ (ivL σ c9))) 21 (u21 σ (ivL σ c9))) 20 (u20 σ (ivL σ c9))) 22 (u22 σ (σ 6 c9) (ivL σ c9))) 23 (u23 σ (σ 6 c9) (ivL σ c9))) 17 (u17 σ (ivL σ c9))) 13 (fx13 σ c9 x9)) 12 (st12 σ c9 x9)) 13 x9 (sh27 x9)) z := ⟨_, rfl, mP I3 13 rfl rfl x9 (sh27 x9)⟩
                                  refine z_iastore (N := 24) (f := fun j => (fx13 σ c9 x9) j) (h' := h43) F (mI I3 13 rfl) (by omega) (by omega) (by omega) dX9_invoice_262 eh43 ?_
                                  refine z_aload_n F dX9_invoice_263 rfl 1 rfl ?_
                                  refine z_get (v := vR (g 12)) F (mI Ih43 0 rfl) fX9_39 rfl dX9_invoice_264 ?_
                                  refine z_iload_n F dX9_invoice_267 rfl 0 rfl ?_
                                  refine z_bipush F dX9_invoice_268 (by decide) ?_
                                  obtain ⟨h44, eh44, Ih44⟩ : ∃ z : Hp, hu h43 (g 12) (eA 1 24 (fun j => vI (if j = x9 then 102 else (st12 σ c9 x9) j))) = z ∧ MI g (su (su (sw (sw (sw (sw (sw (sw (sw (sw (sw (su (sw (sw (su σ 30 0 0) 14 sh27) 15 dh27) 18 (σ 16 0) c9) 27 (bl27 σ c9 (σ 24 0))) 19 (u19 σ (ivL σ c9))) 21 (u21 σ (ivL σ c9))) 20 (u20 σ (ivL σ c9))) 22 (u22 σ (σ 6 c9) (ivL σ c9))) 23 (u23 σ (σ 6 c9) (ivL σ c9))) 17 (u17 σ (ivL σ c9))) 13 (fx13 σ c9 x9)) 12 (st12 σ c9 x9)) 13 x9 (sh27 x9)) 12 x9 102) z := ⟨_, rfl, mP Ih43 12 rfl rfl x9 102⟩
                                  refine z_castore (N := 24) (f := fun j => (st12 σ c9 x9) j) (h' := h44) F (mI Ih43 12 rfl) (nf_c (by omega)) (by omega) (by omega) (by omega) dX9_invoice_270 eh44 ?_
                                  refine z_iinc (lv' := [(2, vI (x9 + 1)), (0, vR (g 0)), (1, vI c9)]) F dX9_invoice_271 0 rfl (by decide) rfl ?_
                                  refine z_goto (tgt := 230) F dX9_invoice_274 (by decide) ?_
                                  exact ih230 (x9 + 1) h44 (fx_set (Y := (sw (sw (sw (sw (sw (sw (sw (su (sw (sw (su σ 30 0 0) 14 sh27) 15 dh27) 18 (σ 16 0) c9) 27 (bl27 σ c9 (σ 24 0))) 19 (u19 σ (ivL σ c9))) 21 (u21 σ (ivL σ c9))) 20 (u20 σ (ivL σ c9))) 22 (u22 σ (σ 6 c9) (ivL σ c9))) 23 (u23 σ (σ 6 c9) (ivL σ c9))) 17 (u17 σ (ivL σ c9)))) Ih44 ha3 (by omega) (nh27 x9 ha3 (by omega))) (by omega) (by omega) (by omega)
                                · refine z_goto (tgt := 271) F dX9_invoice_248 (by decide) ?_
                                  refine z_iinc (lv' := [(2, vI (x9 + 1)), (0, vR (g 0)), (1, vI c9)]) F dX9_invoice_271 0 rfl (by decide) rfl ?_
                                  refine z_goto (tgt := 230) F dX9_invoice_274 (by decide) ?_
                                  exact ih230 (x9 + 1) h3 (by rw [(fx_skip (by omega)).1, (fx_skip (by omega)).2]; exact I3) (by omega) (by omega) (by omega)
                          exact L230 ((σ 8 0 - 0 : Int).toNat + 1) 0 h2 (In41) (by omega) (by omega) (by omega)
                        · refine z_aload_n F dX9_invoice_170 rfl 1 rfl ?_
                          refine z_get (v := vR (g 27)) F (mI I2 0 rfl) fX9_79 rfl dX9_invoice_171 ?_
                          refine z_iload_n F dX9_invoice_174 rfl 0 rfl ?_
                          refine z_zaload (N := 16) (f := fun j => (bl27 σ c9 i9) j) F (mI I2 27 rfl) (by omega) (by omega) (by omega) dX9_invoice_175 ?_
                          refine z_if_ne (tgt := 222) F dX9_invoice_176 (by decide) (by omega) (fun c176 => ?_) (fun c176 => ?_)
                          · refine z_iinc (lv' := [(2, vI (i9 + 1)), (0, vR (g 0)), (1, vI c9)]) F dX9_invoice_222 0 rfl (by decide) rfl ?_
                            refine z_goto (tgt := 162) F dX9_invoice_225 (by decide) ?_
                            exact ih162 (i9 + 1) M h2 (by rw [bl_skip (by omega)]; exact I2) (by omega) (by omega) (by rw [cLn_s _ _ _ _ _ ha2, ← hM, if_neg (by omega), List.append_nil]) (by omega) (hB2) (by omega)
                          · refine z_aload_n F dX9_invoice_179 rfl 1 rfl ?_
                            refine z_get (v := vR (g 9)) F (mI I2 0 rfl) fX9_30 rfl dX9_invoice_180 ?_
                            refine z_aload_n F dX9_invoice_183 rfl 1 rfl ?_
                            refine z_get (v := vR (g 25)) F (mI I2 0 rfl) fX9_73 rfl dX9_invoice_184 ?_
                            refine z_iload_n F dX9_invoice_187 rfl 0 rfl ?_
                            refine z_iaload (N := 16) (f := fun j => σ 25 j) F (mI I2 25 rfl) (by omega) (by omega) (by omega) dX9_invoice_188 ?_
                            refine z_iaload (N := 24) (f := fun j => σ 9 j) F (mI I2 9 rfl) (by omega) (by omega) (by omega) dX9_invoice_189 ?_
                            refine z_iload_n F dX9_invoice_190 rfl 2 rfl ?_
                            refine z_icmp_eq (tgt := 197) F dX9_invoice_191 (by decide) (hR 9 (σ 25 i9)) (by omega) (fun c191 => ?_) (fun c191 => ?_)
                            · refine z_aload_n F dX9_invoice_197 rfl 1 rfl ?_
                              refine z_get (v := vR (g 27)) F (mI I2 0 rfl) fX9_79 rfl dX9_invoice_198 ?_
                              refine z_iload_n F dX9_invoice_201 rfl 0 rfl ?_
                              refine z_iconst F dX9_invoice_202 ?_
                              obtain ⟨h45, eh45, Ih45⟩ : ∃ z : Hp, hu h2 (g 27) (eA 3 16 (fun j => vI (if j = i9 then 1 else (bl27 σ c9 i9) j))) = z ∧ MI g (su (sw (sw (sw (sw (sw (sw (sw (su (sw (sw (su σ 30 0 0) 14 sh27) 15 dh27) 18 (σ 16 0) c9) 27 (bl27 σ c9 i9)) 19 (u19 σ (L ++ M))) 21 (u21 σ (L ++ M))) 20 (u20 σ (L ++ M))) 22 (u22 σ (σ 6 c9) (L ++ M))) 23 (u23 σ (σ 6 c9) (L ++ M))) 17 (u17 σ (L ++ M))) 27 i9 1) z := ⟨_, rfl, mP I2 27 rfl rfl i9 1⟩
                              refine z_zastore (N := 16) (f := fun j => (bl27 σ c9 i9) j) (h' := h45) F (mI I2 27 rfl) (nf_z (by omega)) (by omega) (by omega) (by omega) dX9_invoice_203 eh45 ?_
                              have In46 : MI g (LX (sw (su (sw (sw (su σ 30 0 0) 14 sh27) 15 dh27) 18 (σ 16 0) c9) 27 (bl27 σ c9 (i9 + 1))) σ (σ 6 c9) (L ++ M)) h45 := bl_set Ih45 ha2 (by omega) (by omega)
                              refine z_aload_n F dX9_invoice_204 rfl 1 rfl ?_
                              refine z_bipush F dX9_invoice_205 (by decide) ?_
                              refine z_aload_n F dX9_invoice_207 rfl 1 rfl ?_
                              refine z_get (v := vR (g 25)) F (mI In46 0 rfl) fX9_73 rfl dX9_invoice_208 ?_
                              refine z_iload_n F dX9_invoice_211 rfl 0 rfl ?_
                              refine z_iaload (N := 16) (f := fun j => σ 25 j) F (mI In46 25 rfl) (by omega) (by omega) (by omega) dX9_invoice_212 ?_
                              refine z_aload_n F dX9_invoice_213 rfl 1 rfl ?_
                              refine z_get (v := vR (g 26)) F (mI In46 0 rfl) fX9_76 rfl dX9_invoice_214 ?_
                              refine z_iload_n F dX9_invoice_217 rfl 0 rfl ?_
                              refine z_iaload (N := 16) (f := fun j => σ 26 j) F (mI In46 26 rfl) (by omega) (by omega) (by omega) dX9_invoice_218 ?_
                              refine z_callV (As := [vI 99, vI (σ 25 i9), vI (σ 26 i9)]) (st := []) F (mX9_adds l G N0 h45 g (sw (sw (sw (sw (sw (sw (sw (su (sw (sw (su σ 30 0 0) 14 sh27) 15 dh27) 18 (σ 16 0) c9) 27 (bl27 σ c9 (i9 + 1))) 19 (u19 σ (L ++ M))) 21 (u21 σ (L ++ M))) 20 (u20 σ (L ++ M))) 22 (u22 σ (σ 6 c9) (L ++ M))) 23 (u23 σ (σ 6 c9) (L ++ M))) 17 (u17 σ (L ++ M))) 99 (σ 25 i9) (σ 26 i9) (159 + 2 * (L ++ M).length) In46 (rLX (rg_sw (rg_su (rg_sw (rg_sw (rg_su hR (by omega)) Rsh27) Rdh27) (by omega)) (r27 hR _ _)) hR hB2 (by omega)) (show 0 ≤ σ 16 0 ∧ σ 16 0 < 8 from by omega) (by have z9 : u17 σ (L ++ M) (σ 16 0) = ((L ++ M).length : Int) := if_pos rfl; show 0 ≤ u17 σ (L ++ M) (σ 16 0) ∧ u17 σ (L ++ M) (σ 16 0) < 40; have := @List.length_append Ln L M; omega) (show 0 ≤ (if σ 16 0 = σ 16 0 then c9 else σ 18 (σ 16 0)) ∧ (if σ 16 0 = σ 16 0 then c9 else σ 18 (σ 16 0)) < 5 from by omega) (by show 0 ≤ σ 6 (if σ 16 0 = σ 16 0 then c9 else σ 18 (σ 16 0)) ∧ σ 6 (if σ 16 0 = σ 16 0 then c9 else σ 18 (σ 16 0)) ≤ 50000; rw [show (if σ 16 0 = σ 16 0 then c9 else σ 18 (σ 16 0)) = c9 from if_pos rfl]; omega) (by omega) (by have := @List.length_append Ln L M; omega) (by show MG _ (fb (u23 σ (σ 6 c9) (L ++ M) (σ 16 0))); rw [show u23 σ (σ 6 c9) (L ++ M) (σ 16 0) = fi (totL (σ 6 c9) (L ++ M)) from if_pos rfl, fb_fi]; exact totL_mg (by omega) _ (L ++ M) rfl hB2 (by have := @List.length_append Ln L M; omega)) (by omega) (by omega)) cvX9_205 (mI In46 0 rfl) (fun r9 h9 => by cases h9; rfl) rfl rfl ⟨Nat.le_of_ble_eq_true rfl, Nat.le_of_ble_eq_true rfl⟩ rfl ⟨Nat.le_of_ble_eq_true rfl, Nat.le_of_ble_eq_true rfl⟩ dX9_invoice_219 ?_
                              rintro _ h47 ⟨rfl, Jh47⟩
                              have Ih47 : MI g (LX (sw (su (sw (sw (su σ 30 0 0) 14 sh27) 15 dh27) 18 (σ 16 0) c9) 27 (bl27 σ c9 (i9 + 1))) σ (σ 6 c9) ((L ++ M) ++ [(99, (σ 25 i9), (σ 26 i9))])) h47 := fold_ad (X := (sw (su (sw (sw (su σ 30 0 0) 14 sh27) 15 dh27) 18 (σ 16 0) c9) 27 (bl27 σ c9 (i9 + 1)))) Jh47 rfl (show σ 6 (if σ 16 0 = σ 16 0 then c9 else σ 18 (σ 16 0)) = σ 6 c9 from by rw [if_pos rfl])
                              show Z _ _ _ _ _ _ _ _ _ _ _ _ _ _ _ _ _ _ _ _ []
                              refine z_iinc (lv' := [(2, vI (i9 + 1)), (0, vR (g 0)), (1, vI c9)]) F dX9_invoice_222 0 rfl (by decide) rfl ?_
                              refine z_goto (tgt := 162) F dX9_invoice_225 (by decide) ?_
                              exact ih162 (i9 + 1) (M ++ [(99, (σ 25 i9), (σ 26 i9))]) h47 (by rw [← List.append_assoc]; exact Ih47) (by omega) (by omega) (by rw [cLn_s _ _ _ _ _ ha2, ← hM, if_pos (by omega)]) (by rw [List.length_append]; simp; omega) (by rw [← List.append_assoc]; exact hB2.push3 (by omega) (by omega) (by omega)) (by omega)
                            · refine z_goto (tgt := 222) F dX9_invoice_194 (by decide) ?_
                              refine z_iinc (lv' := [(2, vI (i9 + 1)), (0, vR (g 0)), (1, vI c9)]) F dX9_invoice_222 0 rfl (by decide) rfl ?_
                              refine z_goto (tgt := 162) F dX9_invoice_225 (by decide) ?_
                              exact ih162 (i9 + 1) M h2 (by rw [bl_skip (by omega)]; exact I2) (by omega) (by omega) (by rw [cLn_s _ _ _ _ _ ha2, ← hM, if_neg (by omega), List.append_nil]) (by omega) (hB2) (by omega)
                    exact L162 ((σ 24 0 - 0 : Int).toNat + 1) 0 [] h1 (In40) (by omega) (by omega) (rfl) (by decide) (hB1) (by omega)
                  · refine z_aload_n F dX9_invoice_85 rfl 1 rfl ?_
                    refine z_iload_n F dX9_invoice_86 rfl 2 rfl ?_
                    refine z_iload_n F dX9_invoice_87 rfl 0 rfl ?_
                    refine z_iconst F dX9_invoice_88 ?_
                    refine z_callV (As := [vI c9, vI d9, vI 0]) (st := []) F (mX9_dayOf l G N0 h1 g (sw (sw (sw (sw (sw (sw (su (sw (sw (su σ 30 0 0) 14 sh27) 15 dh27) 18 (σ 16 0) c9) 19 (u19 σ L)) 21 (u21 σ L)) 20 (u20 σ L)) 22 (u22 σ (σ 6 c9) L)) 23 (u23 σ (σ 6 c9) L)) 17 (u17 σ L)) c9 d9 0 I1 (rLX (rg_su (rg_sw (rg_sw (rg_su hR (by omega)) Rsh27) Rdh27) (by omega)) hR hB (by omega)) (show 0 ≤ σ 8 0 ∧ σ 8 0 ≤ 24 from by omega) (by omega) (by omega) (by omega)) cvX9_183 (mI I1 0 rfl) (fun r9 h9 => by cases h9; rfl) rfl rfl ⟨Nat.le_of_ble_eq_true rfl, Nat.le_of_ble_eq_true rfl⟩ rfl ⟨Nat.le_of_ble_eq_true rfl, Nat.le_of_ble_eq_true rfl⟩ dX9_invoice_89 ?_
                    rintro _ h9 ⟨rfl, hh9⟩
                    rw [hh9]
                    clear hh9 h9
                    show Z _ _ _ _ _ _ _ _ _ _ _ _ _ _ _ _ _ _ _ _ [vI (dyO (σ 9) (σ 12) dh27 c9 d9 0 (σ 8 0).toNat)]
                    rw [show dyO (σ 9) (σ 12) dh27 c9 d9 0 (σ 8 0).toNat = dyO (σ 9) (σ 12) (dyF σ) c9 d9 0 (σ 8 0).toNat from dyO_c _ (fun x q1 q2 => (oh27 x d9 q1 (by omega) (by omega) (by omega)).trans (dyF_at σ (by omega) (by omega)).symm)]
                    have q89 := dyO_in (ow := σ 9) (sa := σ 12) (D := dyF σ) (c := c9) (d := d9) (wr := 0) (M := 180000) (N := (σ 8 0).toNat) (by decide) (fun x q1 q2 => by rw [dyF_at σ (by omega) (by omega)]; exact dayS_in hV q1 (by omega)) (σ 8 0).toNat (Nat.le_refl _)
                    show Z _ _ _ _ _ _ _ _ _ _ _ _ _ _ _ _ _ _ _ _ [vI (dyO (σ 9) (σ 12) (dyF σ) c9 d9 0 (σ 8 0).toNat)]
                    refine z_if_le (tgt := 114) F dX9_invoice_92 (by decide) (by omega) (fun c92 => ?_) (fun c92 => ?_)
                    · refine z_iinc (lv' := [(2, vI (d9 + 1)), (0, vR (g 0)), (1, vI c9)]) F dX9_invoice_114 0 rfl (by decide) rfl ?_
                      refine z_goto (tgt := 80) F dX9_invoice_117 (by decide) ?_
                      exact ih80 (d9 + 1) L h1 (I1) (by omega) (by omega) (by rw [dLn_s _ _ _ _ _ _ _ ha, ← hL, if_neg (by omega), List.append_nil]) (by omega) (hB) (by omega)
                    · refine z_aload_n F dX9_invoice_95 rfl 1 rfl ?_
                      refine z_bipush F dX9_invoice_96 (by decide) ?_
                      refine z_iload_n F dX9_invoice_98 rfl 0 rfl ?_
                      refine z_aload_n F dX9_invoice_99 rfl 1 rfl ?_
                      refine z_iload_n F dX9_invoice_100 rfl 2 rfl ?_
                      refine z_aload_n F dX9_invoice_101 rfl 1 rfl ?_
                      refine z_iload_n F dX9_invoice_102 rfl 2 rfl ?_
                      refine z_iload_n F dX9_invoice_103 rfl 0 rfl ?_
                      refine z_iconst F dX9_invoice_104 ?_
                      refine z_callV (As := [vI c9, vI d9, vI 0]) (st := [vI c9, vR (g 0), vI d9, vI 100, vR (g 0)]) F (mX9_dayOf l G N0 h1 g (sw (sw (sw (sw (sw (sw (su (sw (sw (su σ 30 0 0) 14 sh27) 15 dh27) 18 (σ 16 0) c9) 19 (u19 σ L)) 21 (u21 σ L)) 20 (u20 σ L)) 22 (u22 σ (σ 6 c9) L)) 23 (u23 σ (σ 6 c9) L)) 17 (u17 σ L)) c9 d9 0 I1 (rLX (rg_su (rg_sw (rg_sw (rg_su hR (by omega)) Rsh27) Rdh27) (by omega)) hR hB (by omega)) (show 0 ≤ σ 8 0 ∧ σ 8 0 ≤ 24 from by omega) (by omega) (by omega) (by omega)) cvX9_183 (mI I1 0 rfl) (fun r9 h9 => by cases h9; rfl) rfl rfl ⟨Nat.le_of_ble_eq_true rfl, Nat.le_of_ble_eq_true rfl⟩ rfl ⟨Nat.le_of_ble_eq_true rfl, Nat.le_of_ble_eq_true rfl⟩ dX9_invoice_105 ?_
                      rintro _ h9 ⟨rfl, hh9⟩
                      rw [hh9]
                      clear hh9 h9
                      show Z _ _ _ _ _ _ _ _ _ _ _ _ _ _ _ _ _ _ _ _ [vI (dyO (σ 9) (σ 12) dh27 c9 d9 0 (σ 8 0).toNat), vI c9, vR (g 0), vI d9, vI 100, vR (g 0)]
                      rw [show dyO (σ 9) (σ 12) dh27 c9 d9 0 (σ 8 0).toNat = dyO (σ 9) (σ 12) (dyF σ) c9 d9 0 (σ 8 0).toNat from dyO_c _ (fun x q1 q2 => (oh27 x d9 q1 (by omega) (by omega) (by omega)).trans (dyF_at σ (by omega) (by omega)).symm)]
                      have q105 := dyO_in (ow := σ 9) (sa := σ 12) (D := dyF σ) (c := c9) (d := d9) (wr := 0) (M := 180000) (N := (σ 8 0).toNat) (by decide) (fun x q1 q2 => by rw [dyF_at σ (by omega) (by omega)]; exact dayS_in hV q1 (by omega)) (σ 8 0).toNat (Nat.le_refl _)
                      show Z _ _ _ _ _ _ _ _ _ _ _ _ _ _ _ _ _ _ _ _ [vI (dyO (σ 9) (σ 12) (dyF σ) c9 d9 0 (σ 8 0).toNat), vI c9, vR (g 0), vI d9, vI 100, vR (g 0)]
                      refine z_callV (As := [vI c9, vI (dyO (σ 9) (σ 12) (dyF σ) c9 d9 0 (σ 8 0).toNat)]) (st := [vI d9, vI 100, vR (g 0)]) F (mX9_round l G N0 h1 g (sw (sw (sw (sw (sw (sw (su (sw (sw (su σ 30 0 0) 14 sh27) 15 dh27) 18 (σ 16 0) c9) 19 (u19 σ L)) 21 (u21 σ L)) 20 (u20 σ L)) 22 (u22 σ (σ 6 c9) L)) 23 (u23 σ (σ 6 c9) L)) 17 (u17 σ L)) c9 (dyO (σ 9) (σ 12) (dyF σ) c9 d9 0 (σ 8 0).toNat) I1 (rLX (rg_su (rg_sw (rg_sw (rg_su hR (by omega)) Rsh27) Rdh27) (by omega)) hR hB (by omega)) (by omega) (show 1 ≤ σ 3 c9 ∧ σ 3 c9 ≤ 60 from by omega) (by omega)) cvX9_172 (mI I1 0 rfl) (fun r9 h9 => by cases h9; rfl) rfl rfl ⟨Nat.le_of_ble_eq_true rfl, Nat.le_of_ble_eq_true rfl⟩ rfl ⟨Nat.le_of_ble_eq_true rfl, Nat.le_of_ble_eq_true rfl⟩ dX9_invoice_108 ?_
                      rintro _ h9 ⟨rfl, hh9⟩
                      rw [hh9]
                      clear hh9 h9
                      have q108 := rndS_hi (u := σ 3 c9) (mo := σ 4 c9) (s := (dyO (σ 9) (σ 12) (dyF σ) c9 d9 0 (σ 8 0).toNat)) (by omega) (by omega)
                      have w108 := rndS_in (u := σ 3 c9) (mo := σ 4 c9) (s := (dyO (σ 9) (σ 12) (dyF σ) c9 d9 0 (σ 8 0).toNat)) (by omega) (by omega)
                      show Z _ _ _ _ _ _ _ _ _ _ _ _ _ _ _ _ _ _ _ _ [vI (rndS (σ 3 c9) (σ 4 c9) (dyO (σ 9) (σ 12) (dyF σ) c9 d9 0 (σ 8 0).toNat)), vI d9, vI 100, vR (g 0)]
                      refine z_callV (As := [vI 100, vI d9, vI (rndS (σ 3 c9) (σ 4 c9) (dyO (σ 9) (σ 12) (dyF σ) c9 d9 0 (σ 8 0).toNat))]) (st := []) F (mX9_adds l G N0 h1 g (sw (sw (sw (sw (sw (sw (su (sw (sw (su σ 30 0 0) 14 sh27) 15 dh27) 18 (σ 16 0) c9) 19 (u19 σ L)) 21 (u21 σ L)) 20 (u20 σ L)) 22 (u22 σ (σ 6 c9) L)) 23 (u23 σ (σ 6 c9) L)) 17 (u17 σ L)) 100 d9 (rndS (σ 3 c9) (σ 4 c9) (dyO (σ 9) (σ 12) (dyF σ) c9 d9 0 (σ 8 0).toNat)) (159 + 2 * L.length) I1 (rLX (rg_su (rg_sw (rg_sw (rg_su hR (by omega)) Rsh27) Rdh27) (by omega)) hR hB (by omega)) (show 0 ≤ σ 16 0 ∧ σ 16 0 < 8 from by omega) (by have z9 : u17 σ L (σ 16 0) = (L.length : Int) := if_pos rfl; show 0 ≤ u17 σ L (σ 16 0) ∧ u17 σ L (σ 16 0) < 40; omega) (show 0 ≤ (if σ 16 0 = σ 16 0 then c9 else σ 18 (σ 16 0)) ∧ (if σ 16 0 = σ 16 0 then c9 else σ 18 (σ 16 0)) < 5 from by omega) (by show 0 ≤ σ 6 (if σ 16 0 = σ 16 0 then c9 else σ 18 (σ 16 0)) ∧ σ 6 (if σ 16 0 = σ 16 0 then c9 else σ 18 (σ 16 0)) ≤ 50000; rw [show (if σ 16 0 = σ 16 0 then c9 else σ 18 (σ 16 0)) = c9 from if_pos rfl]; omega) (by omega) (by omega) (by show MG _ (fb (u23 σ (σ 6 c9) L (σ 16 0))); rw [show u23 σ (σ 6 c9) L (σ 16 0) = fi (totL (σ 6 c9) L) from if_pos rfl, fb_fi]; exact totL_mg (by omega) _ L rfl hB (by omega)) (by omega) (by omega)) cvX9_205 (mI I1 0 rfl) (fun r9 h9 => by cases h9; rfl) rfl rfl ⟨Nat.le_of_ble_eq_true rfl, Nat.le_of_ble_eq_true rfl⟩ rfl ⟨Nat.le_of_ble_eq_true rfl, Nat.le_of_ble_eq_true rfl⟩ dX9_invoice_111 ?_
                      rintro _ h48 ⟨rfl, Jh48⟩
                      have Ih48 : MI g (LX (su (sw (sw (su σ 30 0 0) 14 sh27) 15 dh27) 18 (σ 16 0) c9) σ (σ 6 c9) (L ++ [(100, d9, (rndS (σ 3 c9) (σ 4 c9) (dyO (σ 9) (σ 12) (dyF σ) c9 d9 0 (σ 8 0).toNat)))])) h48 := fold_ad (X := (su (sw (sw (su σ 30 0 0) 14 sh27) 15 dh27) 18 (σ 16 0) c9)) Jh48 rfl (show σ 6 (if σ 16 0 = σ 16 0 then c9 else σ 18 (σ 16 0)) = σ 6 c9 from by rw [if_pos rfl])
                      show Z _ _ _ _ _ _ _ _ _ _ _ _ _ _ _ _ _ _ _ _ []
                      refine z_iinc (lv' := [(2, vI (d9 + 1)), (0, vR (g 0)), (1, vI c9)]) F dX9_invoice_114 0 rfl (by decide) rfl ?_
                      refine z_goto (tgt := 80) F dX9_invoice_117 (by decide) ?_
                      exact ih80 (d9 + 1) (L ++ [(100, d9, (rndS (σ 3 c9) (σ 4 c9) (dyO (σ 9) (σ 12) (dyF σ) c9 d9 0 (σ 8 0).toNat)))]) h48 (Ih48) (by omega) (by omega) (by rw [dLn_s _ _ _ _ _ _ _ ha, ← hL, if_pos (by omega)]) (by rw [List.length_append]; simp; omega) (hB.push3 (by omega) (by omega) (by omega)) (by omega)
              exact L80 ((5 - 0 : Int).toNat + 1) 0 [] h28 (In39) (by omega) (by omega) (rfl) (by decide) (LB.nil) (by omega)
          · exact absurd c48 (by decide)
        · refine z_iconst F dX9_invoice_40 ?_
          refine z_goto (tgt := 45) F dX9_invoice_41 (by decide) ?_
          refine z_callV (As := [vI 2]) (st := []) F (mX9_fails l G N0 h g σ 2 hI hR (by decide)) cvX9_107 (mI hI 0 rfl) (fun r9 h9 => by cases h9; rfl) rfl rfl ⟨Nat.le_of_ble_eq_true rfl, Nat.le_of_ble_eq_true rfl⟩ rfl ⟨Nat.le_of_ble_eq_true rfl, Nat.le_of_ble_eq_true rfl⟩ dX9_invoice_45 ?_
          rintro _ h49 ⟨rfl, Ih49⟩
          rw [if_pos (by decide)]
          show Z _ _ _ _ _ _ _ _ _ _ _ _ _ _ _ _ _ _ _ _ [vI 1]
          refine z_if_eq (tgt := 53) F dX9_invoice_48 (by decide) (by decide) (fun c48 => ?_) (fun c48 => ?_)
          · exact absurd c48 (by decide)
          · refine z_iconst F dX9_invoice_51 ?_
            rw [hQ]
            exact z_iret (nf_i _) F hr (Nat.le_of_ble_eq_true rfl) (Nat.le_of_ble_eq_true rfl) dX9_invoice_52 (Or.inr (Or.inl ⟨by omega, by omega, rfl, Ih49⟩))
  · refine z_iconst F dX9_invoice_9 ?_
    refine z_goto (tgt := 45) F dX9_invoice_10 (by decide) ?_
    refine z_callV (As := [vI 1]) (st := []) F (mX9_fails l G N0 h g σ 1 hI hR (by decide)) cvX9_107 (mI hI 0 rfl) (fun r9 h9 => by cases h9; rfl) rfl rfl ⟨Nat.le_of_ble_eq_true rfl, Nat.le_of_ble_eq_true rfl⟩ rfl ⟨Nat.le_of_ble_eq_true rfl, Nat.le_of_ble_eq_true rfl⟩ dX9_invoice_45 ?_
    rintro _ h50 ⟨rfl, Ih50⟩
    rw [if_pos (by decide)]
    show Z _ _ _ _ _ _ _ _ _ _ _ _ _ _ _ _ _ _ _ _ [vI 1]
    refine z_if_eq (tgt := 53) F dX9_invoice_48 (by decide) (by decide) (fun c48 => ?_) (fun c48 => ?_)
    · exact absurd c48 (by decide)
    · refine z_iconst F dX9_invoice_51 ?_
      rw [hQ]
      exact z_iret (nf_i _) F hr (Nat.le_of_ble_eq_true rfl) (Nat.le_of_ble_eq_true rfl) dX9_invoice_52 (Or.inl ⟨by omega, rfl, Ih50⟩)
