theorem sq_of3 {ρ X ρ' : Sg} (h : ∀ k, k ≠ 32 → k ≠ 33 → k ≠ 40 → ρ' k = X k) (hX : SQ ρ X) : SQ ρ ρ' := fun k hk => (h k (fun z => by rw [z] at hk; cases hk) (fun z => by rw [z] at hk; cases hk) (fun z => by rw [z] at hk; cases hk)).trans (hX k hk)
theorem sumI_b {f : Int → Int} {M : Int} : ∀ n : Nat, (∀ x : Int, 0 ≤ x → x < n → 0 ≤ f x ∧ f x ≤ M) → 0 ≤ sumI f 0 n ∧ sumI f 0 n ≤ M * n
  | 0, _ => by simp [sumI]
  | n + 1, h => by
    have h1 := sumI_b n (fun x h0 h1 => h x h0 (by omega))
    have h2 := h (n : Int) (by omega) (by omega)
    rw [sumI, Int.zero_add]
    have e2 : M * ((n + 1 : Nat) : Int) = M * n + M := by rw [Int.natCast_add, Int.mul_add]; simp
    rw [e2]
    omega
theorem secS_b {ρ : Sg} (hV : MC ρ) {e : Int} (h0 : 0 ≤ e) (h1 : e < ρ 8 0) : 0 ≤ secS ρ e ∧ secS ρ e ≤ 180000 := by
  obtain ⟨v0, v1, v2, v8, v16, v24, v39, vC, vE, vJ, vK, vB, vO⟩ := hV
  have := vE e h0 h1
  have := shs_in (σ := ρ) (e := e) h0 h1 (ρ 0 0).toNat
  unfold secS
  split <;> omega
theorem dayS_b {ρ : Sg} (hV : MC ρ) {e d : Int} (h0 : 0 ≤ e) (h1 : e < ρ 8 0) : 0 ≤ dayS ρ e d ∧ dayS ρ e d ≤ 180000 := by
  obtain ⟨v0, v1, v2, v8, v16, v24, v39, vC, vE, vJ, vK, vB, vO⟩ := hV
  have := dys_in (σ := ρ) (e := e) (d := d) h0 h1 (ρ 0 0).toNat
  unfold dayS
  omega
/-- what stands behind a pick -/
def OT (ρ : Sg) (c wr : Int) : Prop := PK (ρ 9) (ρ 12) (ρ 10) c wr (ρ 8 0) (ρ 35) (ρ 36 0) ∧ (∀ e, 0 ≤ e → e < ρ 8 0 → sOf ρ 14 e = secS ρ e) ∧ (∀ e d, 0 ≤ e → e < ρ 8 0 → 0 ≤ d → d < 5 → ρ 14 (5 * e + d) = dayS ρ e d)
theorem OT.pk {ρ : Sg} {c wr : Int} (H : OT ρ c wr) (h8 : 0 ≤ ρ 8 0) : PK (ρ 9) (ρ 12) (ρ 10) c wr ((ρ 8 0).toNat : Int) (ρ 35) (ρ 36 0) := by
  rw [show (((ρ 8 0).toNat : Nat) : Int) = ρ 8 0 by omega]
  exact H.1
theorem OT.ow {ρ : Sg} {c wr : Int} (H : OT ρ c wr) {q : Int} (q0 : 0 ≤ q) (q1 : q < ρ 36 0) : (0 ≤ ρ 35 q ∧ ρ 35 q < ρ 8 0) ∧ ρ 9 (ρ 35 q) = c ∧ (ρ 12 (ρ 35 q) = 101 ∨ (wr ≠ 0 ∧ ρ 12 (ρ 35 q) = 114)) := by
  obtain ⟨a, b⟩ := H.1.2.1 q q0 q1
  unfold blI at b
  by_cases z : ρ 9 (ρ 35 q) = c ∧ (ρ 12 (ρ 35 q) = 101 ∨ (wr ≠ 0 ∧ ρ 12 (ρ 35 q) = 114))
  · exact ⟨a, z⟩
  · rw [if_neg z] at b; exact absurd b (by decide)
/-- the cells of all minutes so far -/
theorem cells_all {ρ : Sg} (hV : MC ρ) {f : Int → Int} (hf : ∀ j, 0 ≤ j → j < 120 → f j = ceF ρ 0 (ρ 0 0 - 0).toNat j) : (∀ e, 0 ≤ e → e < ρ 8 0 → (if ρ 12 e = 102 then ρ 13 e else sumI f (5 * e) 5) = secS ρ e) ∧ ∀ e d, 0 ≤ e → e < ρ 8 0 → 0 ≤ d → d < 5 → f (5 * e + d) = dayS ρ e d := by
  obtain ⟨v0, v1, v2, v8, v16, v24, v39, vC, vE, vJ, vK, vB, vO⟩ := id hV
  rw [Int.sub_zero] at hf
  refine ⟨fun e e0 e1 => ?_, fun e d e0 e1 d0 d1 => ?_⟩
  · unfold secS
    rw [sumI_g (f' := ceF ρ 0 (ρ 0 0).toNat) 5 (fun m m0 m1 => hf m (by omega) (by omega)), ceF_5 (by decide) (by omega) e0 e1]
  · rw [hf _ (by omega) (by omega), ceF_at e1 d0 d1]
    rfl
set_option maxRecDepth 100000 in
set_option maxHeartbeats 4000000 in
theorem mX5_placeBehind (l : Launch) (G : GG) (N0 : Nat) (h : Hp) (g : Int → Nat) (ρ : Sg) (s9 : Int) (hI : CI G g ρ h) (hV : MC ρ) (hs : 0 ≤ s9 ∧ s9 ≤ 2999) (hn9 : ρ 36 0 ≤ 24) : Ct l G N0 yX5_placeBehind (Cond.code yX5_placeBehind cX5_placeBehind 3 (some FieldType.int) :: LW) ({ frames := 3, cells := 0, slots := 0, locals := 140 }) [vR (g 6), vI s9] h (fun r h' => (∃ pl, r = some (vI pl) ∧ (0 ≤ pl ∧ pl ≤ ρ 36 0) ∧ (∀ q, pl ≤ q → q < ρ 36 0 → s9 < ρ 10 (ρ 35 q)) ∧ (pl = 0 ∨ ρ 10 (ρ 35 (pl - 1)) ≤ s9)) ∧ h' = h) := by
  refine ct_of rfl rfl ?_
  intro p e s m args below meth c F hr hnm
  have F : Fx p s m args meth c RX5 cX5_placeBehind 3 G N0 (cA h s.heap.size) := F
  obtain ⟨v0, v1, v2, v8, v16, v24, v39, vC, vE, vJ, vK, vB, vO⟩ := id hV
  have hP := hI.2.2.2.2.2.2.2.2.1
  have hK4 := hI.2.2.2.2.2.2.1.1
  obtain ⟨Q, hQ⟩ : ∃ z, z = MQ below (cQc G N0 h s.heap.size (fun r h' => (∃ pl, r = some (vI pl) ∧ (0 ≤ pl ∧ pl ≤ ρ 36 0) ∧ (∀ q, pl ≤ q → q < ρ 36 0 → s9 < ρ 10 (ρ 35 q)) ∧ (pl = 0 ∨ ρ 10 (ρ 35 (pl - 1)) ≤ s9)) ∧ h' = h)) args s 0 0 (cA h s.heap.size) := ⟨_, rfl⟩
  rw [← hQ]
  show Z _ _ _ _ _ _ _ _ _ _ _ _ _ _ _ _ _ _ _ [(0, vR (g 6)), (1, vI s9)] []
  refine z_aload_n F dX5_placeBehind_0 rfl 0 rfl ?_
  refine z_get (v := vR (g 17)) F (ci_6 hI) fX5_12 rfl dX5_placeBehind_1 ?_
  refine z_callV (As := []) (st := []) F (mJx4a65c_size_8abf5 l G N0 h (g 17) ((ρ 40 4).toNat) 0 (ρ 32 4) (ρ 36 0) (fun _ => none) (ci_17 hI)) cvX5_34 (ci_17 hI) (fun r9 h9 => by cases h9; rfl) rfl rfl ⟨Nat.le_of_ble_eq_true rfl, Nat.le_of_ble_eq_true rfl⟩ rfl ⟨Nat.le_of_ble_eq_true rfl, Nat.le_of_ble_eq_true rfl⟩ dX5_placeBehind_4 ?_
  rintro _ h9 ⟨rfl, hh9⟩
  rw [hh9]
  clear hh9 h9
  show Z _ _ _ _ _ _ _ _ _ _ _ _ _ _ _ _ _ _ _ _ [vI (ρ 36 0)]
  refine z_istore_n (lv' := [(2, vI (ρ 36 0)), (0, vR (g 6)), (1, vI s9)]) F dX5_placeBehind_7 rfl (by decide) rfl ?_
  have L8 : ∀ (fuel : Nat) (pl : Int), (0 ≤ pl ∧ pl ≤ ρ 36 0) → (∀ q, pl ≤ q → q < ρ 36 0 → s9 < ρ 10 (ρ 35 q)) → pl + 1 < (fuel : Int) → Z p l e ({ frames := 3, cells := 0, slots := 0, locals := 140 }) s m args below meth c 3 G N0 (cA h s.heap.size) Q h 0 0 8 [(2, vI pl), (0, vR (g 6)), (1, vI s9)] [] := by
    intro fuel
    induction fuel with
    | zero => intro pl  ha hg hm; exact absurd hm (by omega)
    | succ fuel ih8 =>
      intro pl  ha hg hm
      refine z_iload_n F dX5_placeBehind_8 rfl 0 rfl ?_
      refine z_if_le (tgt := 38) F dX5_placeBehind_9 (by decide) (by omega) (fun c9 => ?_) (fun c9 => ?_)
      · refine z_iload_n F dX5_placeBehind_38 rfl 0 rfl ?_
        rw [hQ]
        exact z_iret (nf_i _) F hr (Nat.le_of_ble_eq_true rfl) (Nat.le_of_ble_eq_true rfl) dX5_placeBehind_39 (⟨⟨pl, rfl, ha, hg, by omega⟩, rfl⟩)
      · have P1 := hP (pl - 1) (by omega) (by omega)
        have E1 := vE (ρ 35 (pl - 1)) P1.1 P1.2
        refine z_aload_n F dX5_placeBehind_12 rfl 1 rfl ?_
        refine z_get (v := vR (g 17)) F (ci_6 hI) fX5_12 rfl dX5_placeBehind_13 ?_
        refine z_iload_n F dX5_placeBehind_16 rfl 0 rfl ?_
        refine z_iconst F dX5_placeBehind_17 ?_
        refine z_isub F dX5_placeBehind_18 ?_
        refine z_callV (As := [vI (pl - 1)]) (st := []) F (cGet4 l G N0 h g ρ (pl - 1) hI (show 0 ≤ pl - 1 ∧ pl - 1 < ρ 36 0 from by omega)) cvX5_38 (ci_17 hI) (fun r9 h9 => by cases h9; rfl) rfl rfl ⟨Nat.le_of_ble_eq_true rfl, Nat.le_of_ble_eq_true rfl⟩ rfl ⟨Nat.le_of_ble_eq_true rfl, Nat.le_of_ble_eq_true rfl⟩ dX5_placeBehind_19 ?_
        rintro _ h9 ⟨rfl, hh9⟩
        rw [hh9]
        clear hh9 h9
        show Z _ _ _ _ _ _ _ _ _ _ _ _ _ _ _ _ _ _ _ _ [vR (aE ρ (ρ 35 (pl - 1)))]
        refine z_cast F (ci_e hI (show 0 ≤ ρ 35 (pl - 1) ∧ ρ 35 (pl - 1) < ρ 8 0 ∧ ρ 35 (pl - 1) < 100 from by omega)) q260 (fun r9 h9 => by cases h9; rfl) dX5_placeBehind_22 ?_
        refine z_get (v := vI (ρ 10 (ρ 35 (pl - 1)))) F (ci_e hI (show 0 ≤ ρ 35 (pl - 1) ∧ ρ 35 (pl - 1) < ρ 8 0 ∧ ρ 35 (pl - 1) < 100 from by omega)) fX5_52 rfl dX5_placeBehind_25 ?_
        refine z_iload_n F dX5_placeBehind_28 rfl 2 rfl ?_
        refine z_icmp_le (tgt := 38) F dX5_placeBehind_29 (by decide) (by omega) (by omega) (fun c29 => ?_) (fun c29 => ?_)
        · refine z_iload_n F dX5_placeBehind_38 rfl 0 rfl ?_
          rw [hQ]
          exact z_iret (nf_i _) F hr (Nat.le_of_ble_eq_true rfl) (Nat.le_of_ble_eq_true rfl) dX5_placeBehind_39 (⟨⟨pl, rfl, ha, hg, by omega⟩, rfl⟩)
        · refine z_iinc (lv' := [(2, vI (pl + (-1))), (0, vR (g 6)), (1, vI s9)]) F dX5_placeBehind_32 0 rfl (by decide) rfl ?_
          refine z_goto (tgt := 8) F dX5_placeBehind_35 (by decide) ?_
          exact ih8 (pl + (-1))  (by omega) (fun q q0 q1 => by
            by_cases z : q = pl - 1
            · rw [z]; omega
            · exact hg q (by omega) q1) (by omega)
  exact L8 (((ρ 36 0) + 1 : Int).toNat + 1) (ρ 36 0)  (by omega) (fun q q0 q1 => by omega) (by omega)
set_option maxRecDepth 100000 in
set_option maxHeartbeats 4000000 in
theorem mX5_pick (l : Launch) (G : GG) (N0 : Nat) (h : Hp) (g : Int → Nat) (ρ : Sg) (c9 w9 : Int) (hI : CI G g ρ h) (hV : MC ρ) (hc : 0 ≤ c9 ∧ c9 < ρ 2 0) (hw : w9 = 0 ∨ w9 = 1) : Ct l G N0 yX5_pick (Cond.code yX5_pick cX5_pick 5 none :: LW) ({ frames := 7, cells := 24, slots := 2400, locals := 420 }) [vR (g 6), vR (aC ρ c9), vI w9] h (fun r h' => r = none ∧ ∃ a, CI G g (mx ρ a) h' ∧ OT (mx ρ a) c9 w9) := by
  refine ct_of rfl rfl ?_
  intro p e s m args below meth c F hr hnm
  have F : Fx p s m args meth c RX5 cX5_pick 5 G N0 (cA h s.heap.size) := F
  obtain ⟨v0, v1, v2, v8, v16, v24, v39, vC, vE, vJ, vK, vB, vO⟩ := id hV
  obtain ⟨Q, hQ⟩ : ∃ z, z = MQ below (cQc G N0 h s.heap.size (fun r h' => r = none ∧ ∃ a, CI G g (mx ρ a) h' ∧ OT (mx ρ a) c9 w9)) args s 24 2400 (cA h s.heap.size) := ⟨_, rfl⟩
  rw [← hQ]
  show Z _ _ _ _ _ _ _ _ _ _ _ _ _ _ _ _ _ _ _ [(0, vR (g 6)), (1, vR (aC ρ c9)), (2, vI w9)] []
  refine z_aload_n F dX5_pick_0 rfl 0 rfl ?_
  refine z_get (v := vR (g 17)) F (ci_6 hI) fX5_12 rfl dX5_pick_1 ?_
  refine z_callV (As := []) (st := []) F (cClrP l G N0 h g ρ hI) cvX5_26 (ci_17 hI) (fun r9 h9 => by cases h9; rfl) rfl rfl ⟨Nat.le_of_ble_eq_true rfl, Nat.le_of_ble_eq_true rfl⟩ rfl ⟨Nat.le_of_ble_eq_true rfl, Nat.le_of_ble_eq_true rfl⟩ dX5_pick_4 ?_
  rintro _ h7 ⟨rfl, I7⟩
  show Z _ _ _ _ _ _ _ _ _ _ _ _ _ _ _ _ _ _ _ _ []
  refine z_iconst F dX5_pick_7 ?_
  refine z_istore_n (lv' := [(3, vI 0), (0, vR (g 6)), (1, vR (aC ρ c9)), (2, vI w9)]) F dX5_pick_8 rfl (by decide) rfl ?_
  refine z_widen (k' := (0 : Int).toNat) (n' := 100 * (0 : Int).toNat) (by (try simp only []); omega) (by (try simp only []); omega) ?_
  have L9 : ∀ (fuel : Nat) (i9 : Int) (h8 : Hp) (a9 : Sg), (CI G g (mx ρ a9) h8) → (0 ≤ i9 ∧ i9 ≤ ρ 8 0) → (PK (ρ 9) (ρ 12) (ρ 10) c9 w9 i9 (a9 35) (a9 36 0)) → ρ 8 0 - i9 < (fuel : Int) → Z p l e ({ frames := 7, cells := 24, slots := 2400, locals := 420 }) s m args below meth c 5 G N0 (cA h s.heap.size) Q h8 i9.toNat (100 * i9.toNat) 9 [(3, vI i9), (0, vR (g 6)), (1, vR (aC ρ c9)), (2, vI w9)] [] := by
    intro fuel
    induction fuel with
    | zero => intro i9 h8  a9  hI8 ha hpk hm; exact absurd hm (by omega)
    | succ fuel ih9 =>
      intro i9 h8  a9  hI8 ha hpk hm
      have E_i9 := fun q9 => vE i9 (by omega) q9
      have hm9 := hpk.1
      refine z_iload_n F dX5_pick_9 rfl 0 rfl ?_
      refine z_aload_n F dX5_pick_10 rfl 1 rfl ?_
      refine z_get (v := vR (g 1)) F (ci_6 (ρ := (mx ρ a9)) hI8) fX5_18 rfl dX5_pick_11 ?_
      refine z_get (v := vR (g 15)) F (ci_1 (ρ := (mx ρ a9)) hI8) fX5_29 rfl dX5_pick_14 ?_
      refine z_callV (As := []) (st := [vI i9]) F (mJx4a65c_size_8abf5 l G N0 h8 (g 15) ((a9 40 3).toNat) 0 (a9 32 3) (ρ 8 0) (fun _ => none) (ci_15 (ρ := (mx ρ a9)) hI8)) cvX5_34 (ci_15 (ρ := (mx ρ a9)) hI8) (fun r9 h9 => by cases h9; rfl) rfl rfl ⟨Nat.le_of_ble_eq_true rfl, Nat.le_of_ble_eq_true rfl⟩ rfl ⟨by (try simp only []); omega, by (try simp only []); omega⟩ dX5_pick_17 ?_
      rintro _ h9 ⟨rfl, hh9⟩
      rw [hh9]
      clear hh9 h9
      show Z _ _ _ _ _ _ _ _ _ _ _ _ _ _ _ _ _ _ _ _ [vI (ρ 8 0), vI i9]
      refine z_icmp_ge (tgt := 96) F dX5_pick_20 (by decide) (by omega) (by omega) (fun c20 => ?_) (fun c20 => ?_)
      · refine z_aload_n F dX5_pick_96 rfl 1 rfl ?_
        refine z_get (v := vR (g 2)) F (ci_6 (ρ := (mx ρ a9)) hI8) fX5_22 rfl dX5_pick_97 ?_
        refine z_iconst F dX5_pick_100 ?_
        refine z_aload_n F dX5_pick_101 rfl 1 rfl ?_
        refine z_get (v := vR (g 1)) F (ci_6 (ρ := (mx ρ a9)) hI8) fX5_18 rfl dX5_pick_102 ?_
        refine z_get (v := vI (ρ 0 0)) F (ci_1 (ρ := (mx ρ a9)) hI8) fX5_64 rfl dX5_pick_105 ?_
        refine z_callV (As := [vI 0, vI (ρ 0 0)]) (st := []) F (mX6_countByIntervals0 l G N0 h8 g (mx ρ a9) 0 (ρ 0 0) hI8 (MC.sa (mx_sq ρ a9).sa hV) (by omega)) cvX5_67 (ci_2 (ρ := (mx ρ a9)) hI8) (fun r9 h9 => by cases h9; rfl) rfl rfl ⟨Nat.le_of_ble_eq_true rfl, Nat.le_of_ble_eq_true rfl⟩ rfl ⟨by (try simp only []); omega, by (try simp only []); omega⟩ dX5_pick_108 ?_
        rintro _ h5 ⟨rfl, p5, f5, I5, hf5⟩
        show Z _ _ _ _ _ _ _ _ _ _ _ _ _ _ _ _ _ _ _ _ []
        have hVm : MC (mx ρ a9) := MC.sa (mx_sq ρ a9).sa hV
        have hc5 := cells_all hVm hf5
        have hs5 := secS_r (SA.c (((SA.refl (mx ρ a9)).sw rfl p5 : SA (mx ρ a9) (sw (mx ρ a9) 34 p5)).sw rfl f5 : SA (mx ρ a9) (sw (sw (mx ρ a9) 34 p5) 14 f5)))
        have hd5 := dayS_r (SA.c (((SA.refl (mx ρ a9)).sw rfl p5 : SA (mx ρ a9) (sw (mx ρ a9) 34 p5)).sw rfl f5 : SA (mx ρ a9) (sw (sw (mx ρ a9) 34 p5) 14 f5)))
        have hO5 : OT (sw (sw (mx ρ a9) 34 p5) 14 f5) c9 w9 := by
          refine ⟨?_, fun e e0 e1 => ?_, fun e d e0 e1 d0 d1 => ?_⟩
          · show PK (ρ 9) (ρ 12) (ρ 10) c9 w9 (ρ 8 0) (a9 35) (a9 36 0)
            have hpk := hpk
            rw [show i9 = ρ 8 0 by omega] at hpk
            exact hpk
          · rw [hs5]; exact hc5.1 e e0 e1
          · rw [hd5]; exact hc5.2 e d e0 e1 d0 d1
        rw [hQ]
        exact z_vret F hr (by (try simp only []); omega) (by (try simp only []); omega) dX5_pick_111 (⟨rfl, (sw (sw (mx ρ a9) 34 p5) 14 f5), CI.mx I5 (((mx_sq ρ a9).sw rfl p5).sw rfl f5), by rw [mx_of (((mx_sq ρ a9).sw rfl p5).sw rfl f5)]; exact hO5⟩)
      · refine z_aload_n F dX5_pick_23 rfl 1 rfl ?_
        refine z_get (v := vR (g 1)) F (ci_6 (ρ := (mx ρ a9)) hI8) fX5_18 rfl dX5_pick_24 ?_
        refine z_get (v := vR (g 15)) F (ci_1 (ρ := (mx ρ a9)) hI8) fX5_29 rfl dX5_pick_27 ?_
        refine z_iload_n F dX5_pick_30 rfl 0 rfl ?_
        refine z_callV (As := [vI i9]) (st := []) F (cGet3 l G N0 h8 g (mx ρ a9) i9 hI8 (show 0 ≤ i9 ∧ i9 < ρ 8 0 from by omega)) cvX5_38 (ci_15 (ρ := (mx ρ a9)) hI8) (fun r9 h9 => by cases h9; rfl) rfl rfl ⟨Nat.le_of_ble_eq_true rfl, Nat.le_of_ble_eq_true rfl⟩ rfl ⟨by (try simp only []); omega, by (try simp only []); omega⟩ dX5_pick_31 ?_
        rintro _ h9 ⟨rfl, hh9⟩
        rw [hh9]
        clear hh9 h9
        show Z _ _ _ _ _ _ _ _ _ _ _ _ _ _ _ _ _ _ _ _ [vR (aE ρ i9)]
        refine z_cast F (ci_e (ρ := (mx ρ a9)) hI8 (show 0 ≤ i9 ∧ i9 < ρ 8 0 ∧ i9 < 100 from by omega)) q260 (fun r9 h9 => by cases h9; rfl) dX5_pick_34 ?_
        refine z_astore (lv' := [(4, vR (aE ρ i9)), (3, vI i9), (0, vR (g 6)), (1, vR (aC ρ c9)), (2, vI w9)]) F dX5_pick_37 (by decide) rfl ?_
        refine z_aload F dX5_pick_39 0 rfl ?_
        refine z_get (v := vR (aC ρ (ρ 9 i9))) F (ci_e (ρ := (mx ρ a9)) hI8 (show 0 ≤ i9 ∧ i9 < ρ 8 0 ∧ i9 < 100 from by omega)) fX5_44 rfl dX5_pick_41 ?_
        refine z_aload_n F dX5_pick_44 rfl 3 rfl ?_
        refine z_acmp_ne (rx := some (aC ρ (ρ 9 i9))) (ry := some (aC ρ c9)) (tgt := 90) F dX5_pick_45 (by decide) (fun c45 => ?_) (fun c45 => ?_)
        · have d45 : ρ 9 i9 ≠ c9 := fun z => c45 (by rw [z])
          refine z_iinc (lv' := [(3, vI (i9 + 1)), (4, vR (aE ρ i9)), (0, vR (g 6)), (1, vR (aC ρ c9)), (2, vI w9)]) F dX5_pick_90 1 rfl (by decide) rfl ?_
          refine z_goto (tgt := 9) F dX5_pick_93 (by decide) ?_
          refine z_widen (k' := (i9 + 1).toNat) (n' := 100 * (i9 + 1).toNat) (by (try simp only []); omega) (by (try simp only []); omega) ?_
          refine z_pick (lv' := [(3, vI (i9 + 1)), (0, vR (g 6)), (1, vR (aC ρ c9)), (2, vI w9)]) [0, 2, 3, 4] rfl ?_
          refine z_widen (k' := (i9 + 1).toNat) (n' := 100 * (i9 + 1).toNat) (by (try simp only []); omega) (by (try simp only []); omega) ?_
          exact ih9 (i9 + 1) h8 a9 (hI8) (by omega) (PK_skip hpk (by unfold blI; rw [if_neg (by omega)]; decide)) (by omega)
        · have d45 : ρ 9 i9 = c9 := (ci_cc (ρ := (mx ρ a9)) hI8 (show 0 ≤ ρ 9 i9 ∧ ρ 9 i9 < ρ 2 0 ∧ ρ 9 i9 < 100 from by omega) (show 0 ≤ c9 ∧ c9 < ρ 2 0 ∧ c9 < 100 from by omega)).mp (Option.some.inj c45)
          refine z_aload F dX5_pick_48 0 rfl ?_
          refine z_get (v := vI (ρ 12 i9)) F (ci_e (ρ := (mx ρ a9)) hI8 (show 0 ≤ i9 ∧ i9 < ρ 8 0 ∧ i9 < 100 from by omega)) fX5_48 rfl dX5_pick_50 ?_
          refine z_bipush F dX5_pick_53 (by decide) ?_
          refine z_icmp_eq (tgt := 72) F dX5_pick_55 (by decide) (by omega) (by decide) (fun c55 => ?_) (fun c55 => ?_)
          · refine z_aload_n F dX5_pick_72 rfl 2 rfl ?_
            refine z_get (v := vR (g 17)) F (ci_6 (ρ := (mx ρ a9)) hI8) fX5_12 rfl dX5_pick_73 ?_
            refine z_aload_n F dX5_pick_76 rfl 2 rfl ?_
            refine z_aload F dX5_pick_77 0 rfl ?_
            refine z_get (v := vI (ρ 10 i9)) F (ci_e (ρ := (mx ρ a9)) hI8 (show 0 ≤ i9 ∧ i9 < ρ 8 0 ∧ i9 < 100 from by omega)) fX5_52 rfl dX5_pick_79 ?_
            refine z_callV (As := [vI (ρ 10 i9)]) (st := [vR (g 17)]) F (mX5_placeBehind l G N0 h8 g (mx ρ a9) (ρ 10 i9) hI8 (MC.sa (mx_sq ρ a9).sa hV) (by omega) (show a9 36 0 ≤ 24 from by omega)) cvX5_56 (ci_6 (ρ := (mx ρ a9)) hI8) (fun r9 h9 => by cases h9; rfl) rfl rfl ⟨Nat.le_of_ble_eq_true rfl, Nat.le_of_ble_eq_true rfl⟩ rfl ⟨by (try simp only []); omega, by (try simp only []); omega⟩ dX5_pick_82 ?_
            rintro _ h9 ⟨⟨pl, rfl, pl1, pl2, pl3⟩, hh9⟩
            rw [hh9]
            clear hh9 h9
            have pl1 : 0 ≤ pl ∧ pl ≤ a9 36 0 := pl1
            show Z _ _ _ _ _ _ _ _ _ _ _ _ _ _ _ _ _ _ _ _ [vI pl, vR (g 17)]
            refine z_aload F dX5_pick_85 0 rfl ?_
            refine z_callV (As := [vI pl, vR (aE ρ i9)]) (st := []) F (cAddP l G N0 h8 g (mx ρ a9) pl i9 hI8 (show 0 ≤ i9 ∧ i9 < ρ 8 0 from by omega) (show ρ 8 0 ≤ 24 from by omega) (show a9 36 0 ≤ 40 from by omega) (show 0 ≤ pl ∧ pl ≤ a9 36 0 from by omega)) cvX5_60 (ci_17 (ρ := (mx ρ a9)) hI8) (fun r9 h9 => by cases h9; rfl) rfl rfl ⟨Nat.le_of_ble_eq_true rfl, Nat.le_of_ble_eq_true rfl⟩ rfl ⟨by (try simp only []); omega, by (try simp only []); omega⟩ dX5_pick_87 ?_
            rintro _ h6 ⟨rfl, r6, q6, I6⟩
            show Z _ _ _ _ _ _ _ _ _ _ _ _ _ _ _ _ _ _ _ _ []
            refine z_iinc (lv' := [(3, vI (i9 + 1)), (4, vR (aE ρ i9)), (0, vR (g 6)), (1, vR (aC ρ c9)), (2, vI w9)]) F dX5_pick_90 1 rfl (by decide) rfl ?_
            refine z_goto (tgt := 9) F dX5_pick_93 (by decide) ?_
            refine z_widen (k' := (i9 + 1).toNat) (n' := 100 * (i9 + 1).toNat) (by (try simp only []); omega) (by (try simp only []); omega) ?_
            refine z_pick (lv' := [(3, vI (i9 + 1)), (0, vR (g 6)), (1, vR (aC ρ c9)), (2, vI w9)]) [0, 2, 3, 4] rfl ?_
            refine z_widen (k' := (i9 + 1).toNat) (n' := 100 * (i9 + 1).toNat) (by (try simp only []); omega) (by (try simp only []); omega) ?_
            exact ih9 (i9 + 1) h6 r6 (CI.mx I6 (sq_of3 q6 (((mx_sq ρ a9).su rfl _ _).sw rfl _))) (by omega) (by
              have e35 : r6 35 = inP (a9 35) pl i9 := (q6 35 (by decide) (by decide) (by decide)).trans sw_e
              have e36 : r6 36 0 = a9 36 0 + 1 := congrFun (q6 36 (by decide) (by decide) (by decide)) 0
              rw [e35, e36]
              exact PK_ins hpk ha.1 (by unfold blI; rw [if_pos (by omega)]) pl1 (fun q q0 q1 => pl2 q q0 q1) pl3) (by omega)
          · refine z_iload_n F dX5_pick_58 rfl 4 rfl ?_
            refine z_if_eq (tgt := 90) F dX5_pick_59 (by decide) (by omega) (fun c59 => ?_) (fun c59 => ?_)
            · refine z_iinc (lv' := [(3, vI (i9 + 1)), (4, vR (aE ρ i9)), (0, vR (g 6)), (1, vR (aC ρ c9)), (2, vI w9)]) F dX5_pick_90 1 rfl (by decide) rfl ?_
              refine z_goto (tgt := 9) F dX5_pick_93 (by decide) ?_
              refine z_widen (k' := (i9 + 1).toNat) (n' := 100 * (i9 + 1).toNat) (by (try simp only []); omega) (by (try simp only []); omega) ?_
              refine z_pick (lv' := [(3, vI (i9 + 1)), (0, vR (g 6)), (1, vR (aC ρ c9)), (2, vI w9)]) [0, 2, 3, 4] rfl ?_
              refine z_widen (k' := (i9 + 1).toNat) (n' := 100 * (i9 + 1).toNat) (by (try simp only []); omega) (by (try simp only []); omega) ?_
              exact ih9 (i9 + 1) h8 a9 (hI8) (by omega) (PK_skip hpk (by unfold blI; rw [if_neg (by omega)]; decide)) (by omega)
            · refine z_aload F dX5_pick_62 0 rfl ?_
              refine z_get (v := vI (ρ 12 i9)) F (ci_e (ρ := (mx ρ a9)) hI8 (show 0 ≤ i9 ∧ i9 < ρ 8 0 ∧ i9 < 100 from by omega)) fX5_48 rfl dX5_pick_64 ?_
              refine z_bipush F dX5_pick_67 (by decide) ?_
              refine z_icmp_ne (tgt := 90) F dX5_pick_69 (by decide) (by omega) (by decide) (fun c69 => ?_) (fun c69 => ?_)
              · refine z_iinc (lv' := [(3, vI (i9 + 1)), (4, vR (aE ρ i9)), (0, vR (g 6)), (1, vR (aC ρ c9)), (2, vI w9)]) F dX5_pick_90 1 rfl (by decide) rfl ?_
                refine z_goto (tgt := 9) F dX5_pick_93 (by decide) ?_
                refine z_widen (k' := (i9 + 1).toNat) (n' := 100 * (i9 + 1).toNat) (by (try simp only []); omega) (by (try simp only []); omega) ?_
                refine z_pick (lv' := [(3, vI (i9 + 1)), (0, vR (g 6)), (1, vR (aC ρ c9)), (2, vI w9)]) [0, 2, 3, 4] rfl ?_
                refine z_widen (k' := (i9 + 1).toNat) (n' := 100 * (i9 + 1).toNat) (by (try simp only []); omega) (by (try simp only []); omega) ?_
                exact ih9 (i9 + 1) h8 a9 (hI8) (by omega) (PK_skip hpk (by unfold blI; rw [if_neg (by omega)]; decide)) (by omega)
              · refine z_aload_n F dX5_pick_72 rfl 2 rfl ?_
                refine z_get (v := vR (g 17)) F (ci_6 (ρ := (mx ρ a9)) hI8) fX5_12 rfl dX5_pick_73 ?_
                refine z_aload_n F dX5_pick_76 rfl 2 rfl ?_
                refine z_aload F dX5_pick_77 0 rfl ?_
                refine z_get (v := vI (ρ 10 i9)) F (ci_e (ρ := (mx ρ a9)) hI8 (show 0 ≤ i9 ∧ i9 < ρ 8 0 ∧ i9 < 100 from by omega)) fX5_52 rfl dX5_pick_79 ?_
                refine z_callV (As := [vI (ρ 10 i9)]) (st := [vR (g 17)]) F (mX5_placeBehind l G N0 h8 g (mx ρ a9) (ρ 10 i9) hI8 (MC.sa (mx_sq ρ a9).sa hV) (by omega) (show a9 36 0 ≤ 24 from by omega)) cvX5_56 (ci_6 (ρ := (mx ρ a9)) hI8) (fun r9 h9 => by cases h9; rfl) rfl rfl ⟨Nat.le_of_ble_eq_true rfl, Nat.le_of_ble_eq_true rfl⟩ rfl ⟨by (try simp only []); omega, by (try simp only []); omega⟩ dX5_pick_82 ?_
                rintro _ h9 ⟨⟨pl, rfl, pl1, pl2, pl3⟩, hh9⟩
                rw [hh9]
                clear hh9 h9
                have pl1 : 0 ≤ pl ∧ pl ≤ a9 36 0 := pl1
                show Z _ _ _ _ _ _ _ _ _ _ _ _ _ _ _ _ _ _ _ _ [vI pl, vR (g 17)]
                refine z_aload F dX5_pick_85 0 rfl ?_
                refine z_callV (As := [vI pl, vR (aE ρ i9)]) (st := []) F (cAddP l G N0 h8 g (mx ρ a9) pl i9 hI8 (show 0 ≤ i9 ∧ i9 < ρ 8 0 from by omega) (show ρ 8 0 ≤ 24 from by omega) (show a9 36 0 ≤ 40 from by omega) (show 0 ≤ pl ∧ pl ≤ a9 36 0 from by omega)) cvX5_60 (ci_17 (ρ := (mx ρ a9)) hI8) (fun r9 h9 => by cases h9; rfl) rfl rfl ⟨Nat.le_of_ble_eq_true rfl, Nat.le_of_ble_eq_true rfl⟩ rfl ⟨by (try simp only []); omega, by (try simp only []); omega⟩ dX5_pick_87 ?_
                rintro _ h6 ⟨rfl, r6, q6, I6⟩
                show Z _ _ _ _ _ _ _ _ _ _ _ _ _ _ _ _ _ _ _ _ []
                refine z_iinc (lv' := [(3, vI (i9 + 1)), (4, vR (aE ρ i9)), (0, vR (g 6)), (1, vR (aC ρ c9)), (2, vI w9)]) F dX5_pick_90 1 rfl (by decide) rfl ?_
                refine z_goto (tgt := 9) F dX5_pick_93 (by decide) ?_
                refine z_widen (k' := (i9 + 1).toNat) (n' := 100 * (i9 + 1).toNat) (by (try simp only []); omega) (by (try simp only []); omega) ?_
                refine z_pick (lv' := [(3, vI (i9 + 1)), (0, vR (g 6)), (1, vR (aC ρ c9)), (2, vI w9)]) [0, 2, 3, 4] rfl ?_
                refine z_widen (k' := (i9 + 1).toNat) (n' := 100 * (i9 + 1).toNat) (by (try simp only []); omega) (by (try simp only []); omega) ?_
                exact ih9 (i9 + 1) h6 r6 (CI.mx I6 (sq_of3 q6 (((mx_sq ρ a9).su rfl _ _).sw rfl _))) (by omega) (by
                  have e35 : r6 35 = inP (a9 35) pl i9 := (q6 35 (by decide) (by decide) (by decide)).trans sw_e
                  have e36 : r6 36 0 = a9 36 0 + 1 := congrFun (q6 36 (by decide) (by decide) (by decide)) 0
                  rw [e35, e36]
                  exact PK_ins hpk ha.1 (by unfold blI; rw [if_pos (by omega)]) pl1 (fun q q0 q1 => pl2 q q0 q1) pl3) (by omega)
  exact L9 ((ρ 8 0 - 0 : Int).toNat + 1) 0 h7 (su (su ρ 36 0 0) 32 4 (ρ 32 4 + 1)) (CI.mx I7 (((SQ.refl ρ).su rfl _ _).su rfl _ _)) (by omega) (PK_0) (by omega)
set_option maxRecDepth 100000 in
set_option maxHeartbeats 4000000 in
theorem mX5_placeOf (l : Launch) (G : GG) (N0 : Nat) (h : Hp) (g : Int → Nat) (ρ : Sg) (c9 w9 : Int) (e9 : Int) (hI : CI G g ρ h) (hV : MC ρ) (hO : OT ρ c9 w9) (hc : 0 ≤ c9 ∧ c9 < ρ 2 0) (he : 0 ≤ e9 ∧ e9 < ρ 8 0) (hb : blI (ρ 9) (ρ 12) e9 c9 w9 = 1) : Ct l G N0 yX5_placeOf (Cond.code yX5_placeOf cX5_placeOf 3 (some FieldType.int) :: LW) ({ frames := 3, cells := 0, slots := 0, locals := 140 }) [vR (g 6), vR (aE ρ e9)] h (fun r h' => (∃ q, r = some (vI q) ∧ (0 ≤ q ∧ q < ρ 36 0) ∧ ρ 35 q = e9) ∧ h' = h) := by
  refine ct_of rfl rfl ?_
  intro p e s m args below meth c F hr hnm
  have F : Fx p s m args meth c RX5 cX5_placeOf 3 G N0 (cA h s.heap.size) := F
  obtain ⟨v0, v1, v2, v8, v16, v24, v39, vC, vE, vJ, vK, vB, vO⟩ := id hV
  have C9 := vC c9 hc.1 hc.2
  have hpk := hO.pk v8.1
  have hm9 := hO.1.1
  obtain ⟨Q, hQ⟩ : ∃ z, z = MQ below (cQc G N0 h s.heap.size (fun r h' => (∃ q, r = some (vI q) ∧ (0 ≤ q ∧ q < ρ 36 0) ∧ ρ 35 q = e9) ∧ h' = h)) args s 0 0 (cA h s.heap.size) := ⟨_, rfl⟩
  rw [← hQ]
  show Z _ _ _ _ _ _ _ _ _ _ _ _ _ _ _ _ _ _ _ [(0, vR (g 6)), (1, vR (aE ρ e9))] []
  refine z_iconst F dX5_placeOf_0 ?_
  refine z_istore_n (lv' := [(2, vI 0), (0, vR (g 6)), (1, vR (aE ρ e9))]) F dX5_placeOf_1 rfl (by decide) rfl ?_
  have L2 : ∀ (fuel : Nat) (q9 : Int), (0 ≤ q9 ∧ q9 ≤ ρ 36 0) → (∀ q, 0 ≤ q → q < q9 → ρ 35 q ≠ e9) → ρ 36 0 - q9 < (fuel : Int) → Z p l e ({ frames := 3, cells := 0, slots := 0, locals := 140 }) s m args below meth c 3 G N0 (cA h s.heap.size) Q h 0 0 2 [(2, vI q9), (0, vR (g 6)), (1, vR (aE ρ e9))] [] := by
    intro fuel
    induction fuel with
    | zero => intro q9  ha hn hm; exact absurd hm (by omega)
    | succ fuel ih2 =>
      intro q9  ha hn hm
      refine z_iload_n F dX5_placeOf_2 rfl 0 rfl ?_
      refine z_aload_n F dX5_placeOf_3 rfl 1 rfl ?_
      refine z_get (v := vR (g 17)) F (ci_6 hI) fX5_12 rfl dX5_placeOf_4 ?_
      refine z_callV (As := []) (st := [vI q9]) F (mJx4a65c_size_8abf5 l G N0 h (g 17) ((ρ 40 4).toNat) 0 (ρ 32 4) (ρ 36 0) (fun _ => none) (ci_17 hI)) cvX5_34 (ci_17 hI) (fun r9 h9 => by cases h9; rfl) rfl rfl ⟨Nat.le_of_ble_eq_true rfl, Nat.le_of_ble_eq_true rfl⟩ rfl ⟨Nat.le_of_ble_eq_true rfl, Nat.le_of_ble_eq_true rfl⟩ dX5_placeOf_7 ?_
      rintro _ h9 ⟨rfl, hh9⟩
      rw [hh9]
      clear hh9 h9
      show Z _ _ _ _ _ _ _ _ _ _ _ _ _ _ _ _ _ _ _ _ [vI (ρ 36 0), vI q9]
      refine z_icmp_ge (tgt := 33) F dX5_placeOf_10 (by decide) (by omega) (by omega) (fun c10 => ?_) (fun c10 => ?_)
      · exfalso
        obtain ⟨q, q1, q2⟩ := hO.1.2.2.2 e9 he.1 he.2 hb
        exact hn q q1.1 (by omega) q2
      · have hw9 := hO.ow (q := q9) ha.1 (by omega)
        refine z_aload_n F dX5_placeOf_13 rfl 1 rfl ?_
        refine z_get (v := vR (g 17)) F (ci_6 hI) fX5_12 rfl dX5_placeOf_14 ?_
        refine z_iload_n F dX5_placeOf_17 rfl 0 rfl ?_
        refine z_callV (As := [vI q9]) (st := []) F (cGet4 l G N0 h g ρ q9 hI (show 0 ≤ q9 ∧ q9 < ρ 36 0 from by omega)) cvX5_38 (ci_17 hI) (fun r9 h9 => by cases h9; rfl) rfl rfl ⟨Nat.le_of_ble_eq_true rfl, Nat.le_of_ble_eq_true rfl⟩ rfl ⟨Nat.le_of_ble_eq_true rfl, Nat.le_of_ble_eq_true rfl⟩ dX5_placeOf_18 ?_
        rintro _ h9 ⟨rfl, hh9⟩
        rw [hh9]
        clear hh9 h9
        show Z _ _ _ _ _ _ _ _ _ _ _ _ _ _ _ _ _ _ _ _ [vR (aE ρ (ρ 35 q9))]
        refine z_aload_n F dX5_placeOf_21 rfl 2 rfl ?_
        refine z_acmp_ne (rx := some (aE ρ (ρ 35 q9))) (ry := some (aE ρ e9)) (tgt := 27) F dX5_placeOf_22 (by decide) (fun c22 => ?_) (fun c22 => ?_)
        · have d22 : ρ 35 q9 ≠ e9 := fun z => c22 (by rw [z])
          refine z_iinc (lv' := [(2, vI (q9 + 1)), (0, vR (g 6)), (1, vR (aE ρ e9))]) F dX5_placeOf_27 0 rfl (by decide) rfl ?_
          refine z_goto (tgt := 2) F dX5_placeOf_30 (by decide) ?_
          exact ih2 (q9 + 1)  (by omega) (fun q q0 q1 => by
            by_cases z : q = q9
            · rw [z]; omega
            · exact hn q q0 (by omega)) (by omega)
        · have d22 : ρ 35 q9 = e9 := (ci_ee hI (show 0 ≤ ρ 35 q9 ∧ ρ 35 q9 < ρ 8 0 ∧ ρ 35 q9 < 100 from by omega) (show 0 ≤ e9 ∧ e9 < ρ 8 0 ∧ e9 < 100 from by omega)).mp (Option.some.inj c22)
          refine z_iload_n F dX5_placeOf_25 rfl 0 rfl ?_
          rw [hQ]
          exact z_iret (nf_i _) F hr (Nat.le_of_ble_eq_true rfl) (Nat.le_of_ble_eq_true rfl) dX5_placeOf_26 (⟨⟨q9, rfl, ⟨ha.1, by omega⟩, by omega⟩, rfl⟩)
  exact L2 ((ρ 36 0 - 0 : Int).toNat + 1) 0  (by omega) (fun q q0 q1 => by omega) (by omega)
set_option maxRecDepth 100000 in
set_option maxHeartbeats 4000000 in
theorem mX5_secondsOfFirst (l : Launch) (G : GG) (N0 : Nat) (h : Hp) (g : Int → Nat) (ρ : Sg) (c9 w9 : Int) (k9 : Int) (hI : CI G g ρ h) (hV : MC ρ) (hO : OT ρ c9 w9) (hc : 0 ≤ c9 ∧ c9 < ρ 2 0) (hk : 0 ≤ k9 ∧ k9 ≤ ρ 36 0) : Ct l G N0 yX5_secondsOfFirst (Cond.code yX5_secondsOfFirst cX5_secondsOfFirst 4 (some FieldType.int) :: LW) ({ frames := 3, cells := 0, slots := 0, locals := 160 }) [vR (g 6), vI k9] h (fun r h' => r = some (vI (sumI (fun x => sOf ρ 14 (ρ 35 x)) 0 k9.toNat)) ∧ h' = h) := by
  refine ct_of rfl rfl ?_
  intro p e s m args below meth c F hr hnm
  have F : Fx p s m args meth c RX5 cX5_secondsOfFirst 4 G N0 (cA h s.heap.size) := F
  obtain ⟨v0, v1, v2, v8, v16, v24, v39, vC, vE, vJ, vK, vB, vO⟩ := id hV
  have C9 := vC c9 hc.1 hc.2
  have hpk := hO.pk v8.1
  have hm9 := hO.1.1
  obtain ⟨Q, hQ⟩ : ∃ z, z = MQ below (cQc G N0 h s.heap.size (fun r h' => r = some (vI (sumI (fun x => sOf ρ 14 (ρ 35 x)) 0 k9.toNat)) ∧ h' = h)) args s 0 0 (cA h s.heap.size) := ⟨_, rfl⟩
  rw [← hQ]
  show Z _ _ _ _ _ _ _ _ _ _ _ _ _ _ _ _ _ _ _ [(0, vR (g 6)), (1, vI k9)] []
  refine z_iconst F dX5_secondsOfFirst_0 ?_
  refine z_istore_n (lv' := [(2, vI 0), (0, vR (g 6)), (1, vI k9)]) F dX5_secondsOfFirst_1 rfl (by decide) rfl ?_
  refine z_iconst F dX5_secondsOfFirst_2 ?_
  refine z_istore_n (lv' := [(3, vI 0), (2, vI 0), (0, vR (g 6)), (1, vI k9)]) F dX5_secondsOfFirst_3 rfl (by decide) rfl ?_
  have L4 : ∀ (fuel : Nat) (s9 : Int) (q9 : Int), (0 ≤ q9 ∧ q9 ≤ k9) → (s9 = sumI (fun x => sOf ρ 14 (ρ 35 x)) 0 q9.toNat) → k9 - q9 < (fuel : Int) → Z p l e ({ frames := 3, cells := 0, slots := 0, locals := 160 }) s m args below meth c 4 G N0 (cA h s.heap.size) Q h 0 0 4 [(3, vI q9), (2, vI s9), (0, vR (g 6)), (1, vI k9)] [] := by
    intro fuel
    induction fuel with
    | zero => intro s9 q9  ha hs hm; exact absurd hm (by omega)
    | succ fuel ih4 =>
      intro s9 q9  ha hs hm
      refine z_iload_n F dX5_secondsOfFirst_4 rfl 0 rfl ?_
      refine z_iload_n F dX5_secondsOfFirst_5 rfl 3 rfl ?_
      refine z_icmp_ge (tgt := 47) F dX5_secondsOfFirst_6 (by decide) (by omega) (by omega) (fun c6 => ?_) (fun c6 => ?_)
      · refine z_iload_n F dX5_secondsOfFirst_47 rfl 1 rfl ?_
        rw [hQ]
        exact z_iret (nf_i _) F hr (Nat.le_of_ble_eq_true rfl) (Nat.le_of_ble_eq_true rfl) dX5_secondsOfFirst_48 (⟨rI (by rw [hs, show q9 = k9 by omega]), rfl⟩)
      · refine z_iload_n F dX5_secondsOfFirst_9 rfl 0 rfl ?_
        refine z_aload_n F dX5_secondsOfFirst_10 rfl 2 rfl ?_
        refine z_get (v := vR (g 17)) F (ci_6 hI) fX5_12 rfl dX5_secondsOfFirst_11 ?_
        refine z_callV (As := []) (st := [vI q9]) F (mJx4a65c_size_8abf5 l G N0 h (g 17) ((ρ 40 4).toNat) 0 (ρ 32 4) (ρ 36 0) (fun _ => none) (ci_17 hI)) cvX5_34 (ci_17 hI) (fun r9 h9 => by cases h9; rfl) rfl rfl ⟨Nat.le_of_ble_eq_true rfl, Nat.le_of_ble_eq_true rfl⟩ rfl ⟨Nat.le_of_ble_eq_true rfl, Nat.le_of_ble_eq_true rfl⟩ dX5_secondsOfFirst_14 ?_
        rintro _ h9 ⟨rfl, hh9⟩
        rw [hh9]
        clear hh9 h9
        show Z _ _ _ _ _ _ _ _ _ _ _ _ _ _ _ _ _ _ _ _ [vI (ρ 36 0), vI q9]
        refine z_icmp_ge (tgt := 47) F dX5_secondsOfFirst_17 (by decide) (by omega) (by omega) (fun c17 => ?_) (fun c17 => ?_)
        · exfalso; omega
        · have hw9 := hO.ow (q := q9) ha.1 (by omega)
          refine z_iload_n F dX5_secondsOfFirst_20 rfl 1 rfl ?_
          refine z_aload_n F dX5_secondsOfFirst_21 rfl 2 rfl ?_
          refine z_get (v := vR (g 2)) F (ci_6 hI) fX5_22 rfl dX5_secondsOfFirst_22 ?_
          refine z_aload_n F dX5_secondsOfFirst_25 rfl 2 rfl ?_
          refine z_get (v := vR (g 17)) F (ci_6 hI) fX5_12 rfl dX5_secondsOfFirst_26 ?_
          refine z_iload_n F dX5_secondsOfFirst_29 rfl 0 rfl ?_
          refine z_callV (As := [vI q9]) (st := [vR (g 2), vI s9]) F (cGet4 l G N0 h g ρ q9 hI (show 0 ≤ q9 ∧ q9 < ρ 36 0 from by omega)) cvX5_38 (ci_17 hI) (fun r9 h9 => by cases h9; rfl) rfl rfl ⟨Nat.le_of_ble_eq_true rfl, Nat.le_of_ble_eq_true rfl⟩ rfl ⟨Nat.le_of_ble_eq_true rfl, Nat.le_of_ble_eq_true rfl⟩ dX5_secondsOfFirst_30 ?_
          rintro _ h9 ⟨rfl, hh9⟩
          rw [hh9]
          clear hh9 h9
          show Z _ _ _ _ _ _ _ _ _ _ _ _ _ _ _ _ _ _ _ _ [vR (aE ρ (ρ 35 q9)), vR (g 2), vI s9]
          refine z_cast F (ci_e hI (show 0 ≤ ρ 35 q9 ∧ ρ 35 q9 < ρ 8 0 ∧ ρ 35 q9 < 100 from by omega)) q260 (fun r9 h9 => by cases h9; rfl) dX5_secondsOfFirst_33 ?_
          refine z_callV (As := [vR (aE ρ (ρ 35 q9))]) (st := [vI s9]) F (mX6_secondsOf0 l G N0 h g ρ (ρ 35 q9) hI (show 0 ≤ ρ 35 q9 ∧ ρ 35 q9 < ρ 8 0 from by omega) (show ρ 8 0 ≤ 24 from by omega) (show 0 ≤ ρ 12 (ρ 35 q9) ∧ ρ 12 (ρ 35 q9) ≤ 200 from by omega)) cvX5_73 (ci_2 hI) (fun r9 h9 => by cases h9; rfl) rfl rfl ⟨Nat.le_of_ble_eq_true rfl, Nat.le_of_ble_eq_true rfl⟩ rfl ⟨Nat.le_of_ble_eq_true rfl, Nat.le_of_ble_eq_true rfl⟩ dX5_secondsOfFirst_36 ?_
          rintro _ h9 ⟨rfl, hh9⟩
          rw [hh9]
          clear hh9 h9
          show Z _ _ _ _ _ _ _ _ _ _ _ _ _ _ _ _ _ _ _ _ [vI (sOf ρ 14 (ρ 35 q9)), vI s9]
          refine z_iadd F dX5_secondsOfFirst_39 ?_
          refine z_istore_n (lv' := [(2, vI (s9 + (sOf ρ 14 (ρ 35 q9)))), (3, vI q9), (0, vR (g 6)), (1, vI k9)]) F dX5_secondsOfFirst_40 rfl (by decide) rfl ?_
          refine z_iinc (lv' := [(3, vI (q9 + 1)), (2, vI (s9 + (sOf ρ 14 (ρ 35 q9)))), (0, vR (g 6)), (1, vI k9)]) F dX5_secondsOfFirst_41 1 rfl (by decide) rfl ?_
          refine z_goto (tgt := 4) F dX5_secondsOfFirst_44 (by decide) ?_
          exact ih4 (s9 + (sOf ρ 14 (ρ 35 q9))) (q9 + 1)  (by omega) (by rw [sumI_s _ ha.1]; omega) (by omega)
  exact L4 ((k9 - 0 : Int).toNat + 1) 0 0  (by omega) (rfl) (by omega)
set_option maxRecDepth 100000 in
set_option maxHeartbeats 4000000 in
theorem mX5_secondsInDay (l : Launch) (G : GG) (N0 : Nat) (h : Hp) (g : Int → Nat) (ρ : Sg) (c9 w9 : Int) (d9 : Int) (hI : CI G g ρ h) (hV : MC ρ) (hO : OT ρ c9 w9) (hc : 0 ≤ c9 ∧ c9 < ρ 2 0) (hd : 0 ≤ d9 ∧ d9 < 5) : Ct l G N0 yX5_secondsInDay (Cond.code yX5_secondsInDay cX5_secondsInDay 4 (some FieldType.int) :: LW) ({ frames := 3, cells := 0, slots := 0, locals := 160 }) [vR (g 6), vI d9] h (fun r h' => r = some (vI (sumI (fun x => ρ 14 (5 * ρ 35 x + d9)) 0 (ρ 36 0).toNat)) ∧ h' = h) := by
  refine ct_of rfl rfl ?_
  intro p e s m args below meth c F hr hnm
  have F : Fx p s m args meth c RX5 cX5_secondsInDay 4 G N0 (cA h s.heap.size) := F
  obtain ⟨v0, v1, v2, v8, v16, v24, v39, vC, vE, vJ, vK, vB, vO⟩ := id hV
  have C9 := vC c9 hc.1 hc.2
  have hpk := hO.pk v8.1
  have hm9 := hO.1.1
  obtain ⟨Q, hQ⟩ : ∃ z, z = MQ below (cQc G N0 h s.heap.size (fun r h' => r = some (vI (sumI (fun x => ρ 14 (5 * ρ 35 x + d9)) 0 (ρ 36 0).toNat)) ∧ h' = h)) args s 0 0 (cA h s.heap.size) := ⟨_, rfl⟩
  rw [← hQ]
  show Z _ _ _ _ _ _ _ _ _ _ _ _ _ _ _ _ _ _ _ [(0, vR (g 6)), (1, vI d9)] []
  refine z_iconst F dX5_secondsInDay_0 ?_
  refine z_istore_n (lv' := [(2, vI 0), (0, vR (g 6)), (1, vI d9)]) F dX5_secondsInDay_1 rfl (by decide) rfl ?_
  refine z_iconst F dX5_secondsInDay_2 ?_
  refine z_istore_n (lv' := [(3, vI 0), (2, vI 0), (0, vR (g 6)), (1, vI d9)]) F dX5_secondsInDay_3 rfl (by decide) rfl ?_
  have L4 : ∀ (fuel : Nat) (s9 : Int) (q9 : Int), (0 ≤ q9 ∧ q9 ≤ ρ 36 0) → (s9 = sumI (fun x => ρ 14 (5 * ρ 35 x + d9)) 0 q9.toNat) → ρ 36 0 - q9 < (fuel : Int) → Z p l e ({ frames := 3, cells := 0, slots := 0, locals := 160 }) s m args below meth c 4 G N0 (cA h s.heap.size) Q h 0 0 4 [(3, vI q9), (2, vI s9), (0, vR (g 6)), (1, vI d9)] [] := by
    intro fuel
    induction fuel with
    | zero => intro s9 q9  ha hs hm; exact absurd hm (by omega)
    | succ fuel ih4 =>
      intro s9 q9  ha hs hm
      refine z_iload_n F dX5_secondsInDay_4 rfl 0 rfl ?_
      refine z_aload_n F dX5_secondsInDay_5 rfl 2 rfl ?_
      refine z_get (v := vR (g 17)) F (ci_6 hI) fX5_12 rfl dX5_secondsInDay_6 ?_
      refine z_callV (As := []) (st := [vI q9]) F (mJx4a65c_size_8abf5 l G N0 h (g 17) ((ρ 40 4).toNat) 0 (ρ 32 4) (ρ 36 0) (fun _ => none) (ci_17 hI)) cvX5_34 (ci_17 hI) (fun r9 h9 => by cases h9; rfl) rfl rfl ⟨Nat.le_of_ble_eq_true rfl, Nat.le_of_ble_eq_true rfl⟩ rfl ⟨Nat.le_of_ble_eq_true rfl, Nat.le_of_ble_eq_true rfl⟩ dX5_secondsInDay_9 ?_
      rintro _ h9 ⟨rfl, hh9⟩
      rw [hh9]
      clear hh9 h9
      show Z _ _ _ _ _ _ _ _ _ _ _ _ _ _ _ _ _ _ _ _ [vI (ρ 36 0), vI q9]
      refine z_icmp_ge (tgt := 43) F dX5_secondsInDay_12 (by decide) (by omega) (by omega) (fun c12 => ?_) (fun c12 => ?_)
      · refine z_iload_n F dX5_secondsInDay_43 rfl 1 rfl ?_
        rw [hQ]
        exact z_iret (nf_i _) F hr (Nat.le_of_ble_eq_true rfl) (Nat.le_of_ble_eq_true rfl) dX5_secondsInDay_44 (⟨rI (by rw [hs, show q9 = ρ 36 0 by omega]), rfl⟩)
      · have hw9 := hO.ow (q := q9) ha.1 (by omega)
        refine z_iload_n F dX5_secondsInDay_15 rfl 1 rfl ?_
        refine z_aload_n F dX5_secondsInDay_16 rfl 2 rfl ?_
        refine z_get (v := vR (g 2)) F (ci_6 hI) fX5_22 rfl dX5_secondsInDay_17 ?_
        refine z_aload_n F dX5_secondsInDay_20 rfl 2 rfl ?_
        refine z_get (v := vR (g 17)) F (ci_6 hI) fX5_12 rfl dX5_secondsInDay_21 ?_
        refine z_iload_n F dX5_secondsInDay_24 rfl 0 rfl ?_
        refine z_callV (As := [vI q9]) (st := [vR (g 2), vI s9]) F (cGet4 l G N0 h g ρ q9 hI (show 0 ≤ q9 ∧ q9 < ρ 36 0 from by omega)) cvX5_38 (ci_17 hI) (fun r9 h9 => by cases h9; rfl) rfl rfl ⟨Nat.le_of_ble_eq_true rfl, Nat.le_of_ble_eq_true rfl⟩ rfl ⟨Nat.le_of_ble_eq_true rfl, Nat.le_of_ble_eq_true rfl⟩ dX5_secondsInDay_25 ?_
        rintro _ h9 ⟨rfl, hh9⟩
        rw [hh9]
        clear hh9 h9
        show Z _ _ _ _ _ _ _ _ _ _ _ _ _ _ _ _ _ _ _ _ [vR (aE ρ (ρ 35 q9)), vR (g 2), vI s9]
        refine z_cast F (ci_e hI (show 0 ≤ ρ 35 q9 ∧ ρ 35 q9 < ρ 8 0 ∧ ρ 35 q9 < 100 from by omega)) q260 (fun r9 h9 => by cases h9; rfl) dX5_secondsInDay_28 ?_
        refine z_iload_n F dX5_secondsInDay_31 rfl 3 rfl ?_
        refine z_callV (As := [vR (aE ρ (ρ 35 q9)), vI d9]) (st := [vI s9]) F (mX6_secondsInDay0 l G N0 h g ρ (ρ 35 q9) d9 hI (show 0 ≤ ρ 35 q9 ∧ ρ 35 q9 < ρ 8 0 from by omega) (by omega) (show ρ 8 0 ≤ 24 from by omega)) cvX5_77 (ci_2 hI) (fun r9 h9 => by cases h9; rfl) rfl rfl ⟨Nat.le_of_ble_eq_true rfl, Nat.le_of_ble_eq_true rfl⟩ rfl ⟨Nat.le_of_ble_eq_true rfl, Nat.le_of_ble_eq_true rfl⟩ dX5_secondsInDay_32 ?_
        rintro _ h9 ⟨rfl, hh9⟩
        rw [hh9]
        clear hh9 h9
        show Z _ _ _ _ _ _ _ _ _ _ _ _ _ _ _ _ _ _ _ _ [vI (ρ 14 (5 * (ρ 35 q9) + d9)), vI s9]
        refine z_iadd F dX5_secondsInDay_35 ?_
        refine z_istore_n (lv' := [(2, vI (s9 + (ρ 14 (5 * (ρ 35 q9) + d9)))), (3, vI q9), (0, vR (g 6)), (1, vI d9)]) F dX5_secondsInDay_36 rfl (by decide) rfl ?_
        refine z_iinc (lv' := [(3, vI (q9 + 1)), (2, vI (s9 + (ρ 14 (5 * (ρ 35 q9) + d9)))), (0, vR (g 6)), (1, vI d9)]) F dX5_secondsInDay_37 1 rfl (by decide) rfl ?_
        refine z_goto (tgt := 4) F dX5_secondsInDay_40 (by decide) ?_
        exact ih4 (s9 + (ρ 14 (5 * (ρ 35 q9) + d9))) (q9 + 1)  (by omega) (by rw [sumI_s _ ha.1]; omega) (by omega)
  exact L4 ((ρ 36 0 - 0 : Int).toNat + 1) 0 0  (by omega) (rfl) (by omega)
/-- the minutes of the picked entry at a place -/
def mAt (ρ : Sg) (c q : Int) : Int := if ρ 5 c = 101 then rndS (ρ 3 c) (ρ 4 c) (sOf ρ 14 (ρ 35 q)) else rndS (ρ 3 c) (ρ 4 c) (sumI (fun x => sOf ρ 14 (ρ 35 x)) 0 q.toNat + sOf ρ 14 (ρ 35 q)) - rndS (ρ 3 c) (ρ 4 c) (sumI (fun x => sOf ρ 14 (ρ 35 x)) 0 q.toNat)
theorem OT.sb {ρ : Sg} {c wr : Int} (hV : MC ρ) (H : OT ρ c wr) {q : Int} (q0 : 0 ≤ q) (q1 : q < ρ 36 0) : 0 ≤ sOf ρ 14 (ρ 35 q) ∧ sOf ρ 14 (ρ 35 q) ≤ 180000 := by
  have w := (H.ow q0 q1).1
  rw [H.2.1 _ w.1 w.2]
  exact secS_b hV w.1 w.2
theorem OT.sum {ρ : Sg} {c wr : Int} (hV : MC ρ) (H : OT ρ c wr) {k : Int} (k0 : 0 ≤ k) (k1 : k ≤ ρ 36 0) : 0 ≤ sumI (fun x => sOf ρ 14 (ρ 35 x)) 0 k.toNat ∧ sumI (fun x => sOf ρ 14 (ρ 35 x)) 0 k.toNat ≤ 180000 * k := by
  have := sumI_b (f := fun x => sOf ρ 14 (ρ 35 x)) (M := 180000) k.toNat (fun x x0 x1 => H.sb hV x0 (by omega))
  rw [show ((k.toNat : Nat) : Int) = k by omega] at this
  exact this
theorem OT.dsum {ρ : Sg} {c wr : Int} (hV : MC ρ) (H : OT ρ c wr) {d : Int} (d0 : 0 ≤ d) (d1 : d < 5) : 0 ≤ sumI (fun x => ρ 14 (5 * ρ 35 x + d)) 0 (ρ 36 0).toNat ∧ sumI (fun x => ρ 14 (5 * ρ 35 x + d)) 0 (ρ 36 0).toNat ≤ 180000 * 24 := by
  have hm := H.1.1
  have h8 := hV.2.2.2.1
  have := sumI_b (f := fun x => ρ 14 (5 * ρ 35 x + d)) (M := 180000) (ρ 36 0).toNat (fun x x0 x1 => by
    have w := (H.ow x0 (show x < ρ 36 0 by omega)).1
    show 0 ≤ ρ 14 (5 * ρ 35 x + d) ∧ _
    rw [H.2.2 _ d w.1 w.2 d0 d1]
    exact dayS_b hV w.1 w.2)
  omega
theorem OT.mAts {ρ : Sg} {c wr : Int} (hV : MC ρ) (H : OT ρ c wr) {q : Int} (q0 : 0 ≤ q) (q1 : q < ρ 36 0) : mAt ρ c q = rdO (ρ 9) (ρ 12) (ρ 10) (secS ρ) (ρ 5 c) (ρ 3 c) (ρ 4 c) c (ρ 35 q) wr (ρ 8 0).toNat := by
  have h8 := hV.2.2.2.1
  have w := (H.ow q0 q1).1
  have e : ∀ k : Nat, (k : Int) ≤ ρ 36 0 → sumI (fun x => sOf ρ 14 (ρ 35 x)) 0 k = sumI (fun x => secS ρ (ρ 35 x)) 0 k := fun k hk => sumI_g k (fun m m0 m1 => by
    have w := (H.ow m0 (show m < ρ 36 0 by omega)).1
    exact H.2.1 _ w.1 w.2)
  rw [(H.pk h8.1).rd (secS ρ) (ρ 5 c) (ρ 3 c) (ρ 4 c) q0 q1]
  unfold mAt
  rw [H.2.1 _ w.1 w.2, e q.toNat (by omega)]
theorem OT.opSs {ρ : Sg} {c : Int} (hV : MC ρ) (H : OT ρ c 1) (hc : 0 ≤ c ∧ c < ρ 2 0) : (ρ 5 c = 99 → rndS (ρ 3 c) (ρ 4 c) (sumI (fun x => sOf ρ 14 (ρ 35 x)) 0 (ρ 36 0).toNat) = opS ρ c) ∧ (ρ 5 c = 100 → sumI (fun d => rndS (ρ 3 c) (ρ 4 c) (sumI (fun x => ρ 14 (5 * ρ 35 x + d)) 0 (ρ 36 0).toNat)) 0 5 = opS ρ c) ∧ (ρ 5 c ≠ 100 → sumI (fun q => mAt ρ c q) 0 (ρ 36 0).toNat = opS ρ c) := by
  obtain ⟨v0, v1, v2, v8, v16, v24, v39, vC, vE, vJ, vK, vB, vO⟩ := id hV
  have C := vC c hc.1 hc.2
  have hm := H.1.1
  have e : sumI (fun x => sOf ρ 14 (ρ 35 x)) 0 (ρ 36 0).toNat = sumI (fun x => secS ρ (ρ 35 x)) 0 (ρ 36 0).toNat := sumI_g _ (fun m m0 m1 => by
    have w := (H.ow m0 (show m < ρ 36 0 by omega)).1
    exact H.2.1 _ w.1 w.2)
  refine ⟨fun q => ?_, fun q => ?_, fun q => ?_⟩
  · rw [e]
    exact ((H.pk v8.1).opC (secS ρ) (dyF ρ) q C.1).symm
  · show _ = opO _ _ _ _ _ _ _ _ _ _
    unfold opO
    rw [if_pos q]
    have hd : ∀ n : Nat, n ≤ 5 → sumI (fun d => rndS (ρ 3 c) (ρ 4 c) (sumI (fun x => ρ 14 (5 * ρ 35 x + d)) 0 (ρ 36 0).toNat)) 0 n = opD (ρ 9) (ρ 12) (dyF ρ) (ρ 3 c) (ρ 4 c) c (ρ 8 0).toNat n := fun n => by
      induction n with
      | zero => intro _; rfl
      | succ n ih =>
        intro hn
        rw [sumI, opD, ih (by omega), Int.zero_add, (H.pk v8.1).day (dyF ρ) (n : Int), sumI_g (f' := fun q => dyF ρ (5 * ρ 35 q + (n : Int))) _ (fun m m0 m1 => by
          have w := (H.ow m0 (show m < ρ 36 0 by omega)).1
          show ρ 14 (5 * ρ 35 m + (n : Int)) = _
          rw [H.2.2 _ (n : Int) w.1 w.2 (by omega) (by omega), dyF_at ρ (by omega) (by omega)])]
    exact hd 5 (by omega)
  · show _ = opO _ _ _ _ _ _ _ _ _ _
    unfold opO
    rw [if_neg q, (H.pk v8.1).opEs]
    exact sumI_g _ (fun m m0 m1 => H.mAts hV m0 (by omega))
set_option maxRecDepth 100000 in
set_option maxHeartbeats 4000000 in
theorem mX5_minutesAt (l : Launch) (G : GG) (N0 : Nat) (h : Hp) (g : Int → Nat) (ρ : Sg) (c9 w9 : Int) (q9 : Int) (hI : CI G g ρ h) (hV : MC ρ) (hO : OT ρ c9 w9) (hc : 0 ≤ c9 ∧ c9 < ρ 2 0) (hq : 0 ≤ q9 ∧ q9 < ρ 36 0) : Ct l G N0 yX5_minutesAt (Cond.code yX5_minutesAt cX5_minutesAt 5 (some FieldType.int) :: LW) ({ frames := 4, cells := 0, slots := 0, locals := 200 }) [vR (g 6), vI q9] h (fun r h' => r = some (vI (mAt ρ c9 q9)) ∧ h' = h) := by
  refine ct_of rfl rfl ?_
  intro p e s m args below meth c F hr hnm
  have F : Fx p s m args meth c RX5 cX5_minutesAt 5 G N0 (cA h s.heap.size) := F
  obtain ⟨v0, v1, v2, v8, v16, v24, v39, vC, vE, vJ, vK, vB, vO⟩ := id hV
  have C9 := vC c9 hc.1 hc.2
  have hpk := hO.pk v8.1
  have hm9 := hO.1.1
  have hw9 := hO.ow hq.1 hq.2
  have hsb := hO.sb hV hq.1 hq.2
  have hsm := hO.sum hV hq.1 (Int.le_of_lt hq.2)
  have C8 : (1 ≤ ρ 3 (ρ 9 (ρ 35 q9)) ∧ ρ 3 (ρ 9 (ρ 35 q9)) ≤ 60) ∧ (0 ≤ ρ 4 (ρ 9 (ρ 35 q9)) ∧ ρ 4 (ρ 9 (ρ 35 q9)) < 65536) ∧ (0 ≤ ρ 5 (ρ 9 (ρ 35 q9)) ∧ ρ 5 (ρ 9 (ρ 35 q9)) < 65536) := by rw [hw9.2.1]; omega
  obtain ⟨Q, hQ⟩ : ∃ z, z = MQ below (cQc G N0 h s.heap.size (fun r h' => r = some (vI (mAt ρ c9 q9)) ∧ h' = h)) args s 0 0 (cA h s.heap.size) := ⟨_, rfl⟩
  rw [← hQ]
  show Z _ _ _ _ _ _ _ _ _ _ _ _ _ _ _ _ _ _ _ [(0, vR (g 6)), (1, vI q9)] []
  refine z_iload_n F dX5_minutesAt_0 rfl 1 rfl ?_
  refine z_if_lt (tgt := 15) F dX5_minutesAt_1 (by decide) (by omega) (fun c1 => ?_) (fun c1 => ?_)
  · exfalso; omega
  · refine z_iload_n F dX5_minutesAt_4 rfl 1 rfl ?_
    refine z_aload_n F dX5_minutesAt_5 rfl 0 rfl ?_
    refine z_get (v := vR (g 17)) F (ci_6 hI) fX5_12 rfl dX5_minutesAt_6 ?_
    refine z_callV (As := []) (st := [vI q9]) F (mJx4a65c_size_8abf5 l G N0 h (g 17) ((ρ 40 4).toNat) 0 (ρ 32 4) (ρ 36 0) (fun _ => none) (ci_17 hI)) cvX5_34 (ci_17 hI) (fun r9 h9 => by cases h9; rfl) rfl rfl ⟨Nat.le_of_ble_eq_true rfl, Nat.le_of_ble_eq_true rfl⟩ rfl ⟨Nat.le_of_ble_eq_true rfl, Nat.le_of_ble_eq_true rfl⟩ dX5_minutesAt_9 ?_
    rintro _ h9 ⟨rfl, hh9⟩
    rw [hh9]
    clear hh9 h9
    show Z _ _ _ _ _ _ _ _ _ _ _ _ _ _ _ _ _ _ _ _ [vI (ρ 36 0), vI q9]
    refine z_icmp_lt (tgt := 17) F dX5_minutesAt_12 (by decide) (by omega) (by omega) (fun c12 => ?_) (fun c12 => ?_)
    · refine z_aload_n F dX5_minutesAt_17 rfl 0 rfl ?_
      refine z_get (v := vR (g 17)) F (ci_6 hI) fX5_12 rfl dX5_minutesAt_18 ?_
      refine z_iload_n F dX5_minutesAt_21 rfl 1 rfl ?_
      refine z_callV (As := [vI q9]) (st := []) F (cGet4 l G N0 h g ρ q9 hI (show 0 ≤ q9 ∧ q9 < ρ 36 0 from by omega)) cvX5_38 (ci_17 hI) (fun r9 h9 => by cases h9; rfl) rfl rfl ⟨Nat.le_of_ble_eq_true rfl, Nat.le_of_ble_eq_true rfl⟩ rfl ⟨Nat.le_of_ble_eq_true rfl, Nat.le_of_ble_eq_true rfl⟩ dX5_minutesAt_22 ?_
      rintro _ h9 ⟨rfl, hh9⟩
      rw [hh9]
      clear hh9 h9
      show Z _ _ _ _ _ _ _ _ _ _ _ _ _ _ _ _ _ _ _ _ [vR (aE ρ (ρ 35 q9))]
      refine z_cast F (ci_e hI (show 0 ≤ ρ 35 q9 ∧ ρ 35 q9 < ρ 8 0 ∧ ρ 35 q9 < 100 from by omega)) q260 (fun r9 h9 => by cases h9; rfl) dX5_minutesAt_25 ?_
      refine z_astore_n (lv' := [(2, vR (aE ρ (ρ 35 q9))), (0, vR (g 6)), (1, vI q9)]) F dX5_minutesAt_28 rfl (by decide) rfl ?_
      refine z_aload_n F dX5_minutesAt_29 rfl 0 rfl ?_
      refine z_get (v := vR (aC ρ (ρ 9 (ρ 35 q9)))) F (ci_e hI (show 0 ≤ ρ 35 q9 ∧ ρ 35 q9 < ρ 8 0 ∧ ρ 35 q9 < 100 from by omega)) fX5_44 rfl dX5_minutesAt_30 ?_
      refine z_get (v := vI (ρ 5 (ρ 9 (ρ 35 q9)))) F (ci_c hI (show 0 ≤ ρ 9 (ρ 35 q9) ∧ ρ 9 (ρ 35 q9) < ρ 2 0 ∧ ρ 9 (ρ 35 q9) < 100 from by omega)) fX5_81 rfl dX5_minutesAt_33 ?_
      refine z_bipush F dX5_minutesAt_36 (by decide) ?_
      refine z_icmp_ne (tgt := 57) F dX5_minutesAt_38 (by decide) (by omega) (by decide) (fun c38 => ?_) (fun c38 => ?_)
      · refine z_aload_n F dX5_minutesAt_57 rfl 1 rfl ?_
        refine z_iload_n F dX5_minutesAt_58 rfl 2 rfl ?_
        refine z_callV (As := [vI q9]) (st := []) F (mX5_secondsOfFirst l G N0 h g ρ c9 w9 q9 hI hV hO hc (show 0 ≤ q9 ∧ q9 ≤ ρ 36 0 from by omega)) cvX5_89 (ci_6 hI) (fun r9 h9 => by cases h9; rfl) rfl rfl ⟨Nat.le_of_ble_eq_true rfl, Nat.le_of_ble_eq_true rfl⟩ rfl ⟨Nat.le_of_ble_eq_true rfl, Nat.le_of_ble_eq_true rfl⟩ dX5_minutesAt_59 ?_
        rintro _ h9 ⟨rfl, hh9⟩
        rw [hh9]
        clear hh9 h9
        show Z _ _ _ _ _ _ _ _ _ _ _ _ _ _ _ _ _ _ _ _ [vI (sumI (fun x => sOf ρ 14 (ρ 35 x)) 0 (q9).toNat)]
        refine z_istore_n (lv' := [(3, vI (sumI (fun x => sOf ρ 14 (ρ 35 x)) 0 (q9).toNat)), (2, vR (aE ρ (ρ 35 q9))), (0, vR (g 6)), (1, vI q9)]) F dX5_minutesAt_62 rfl (by decide) rfl ?_
        refine z_iload_n F dX5_minutesAt_63 rfl 0 rfl ?_
        refine z_aload_n F dX5_minutesAt_64 rfl 2 rfl ?_
        refine z_get (v := vR (g 2)) F (ci_6 hI) fX5_22 rfl dX5_minutesAt_65 ?_
        refine z_aload_n F dX5_minutesAt_68 rfl 1 rfl ?_
        refine z_callV (As := [vR (aE ρ (ρ 35 q9))]) (st := [vI (sumI (fun x => sOf ρ 14 (ρ 35 x)) 0 (q9).toNat)]) F (mX6_secondsOf0 l G N0 h g ρ (ρ 35 q9) hI (show 0 ≤ ρ 35 q9 ∧ ρ 35 q9 < ρ 8 0 from by omega) (show ρ 8 0 ≤ 24 from by omega) (show 0 ≤ ρ 12 (ρ 35 q9) ∧ ρ 12 (ρ 35 q9) ≤ 200 from by omega)) cvX5_73 (ci_2 hI) (fun r9 h9 => by cases h9; rfl) rfl rfl ⟨Nat.le_of_ble_eq_true rfl, Nat.le_of_ble_eq_true rfl⟩ rfl ⟨Nat.le_of_ble_eq_true rfl, Nat.le_of_ble_eq_true rfl⟩ dX5_minutesAt_69 ?_
        rintro _ h9 ⟨rfl, hh9⟩
        rw [hh9]
        clear hh9 h9
        show Z _ _ _ _ _ _ _ _ _ _ _ _ _ _ _ _ _ _ _ _ [vI (sOf ρ 14 (ρ 35 q9)), vI (sumI (fun x => sOf ρ 14 (ρ 35 x)) 0 (q9).toNat)]
        refine z_iadd F dX5_minutesAt_72 ?_
        refine z_istore (lv' := [(4, vI ((sumI (fun x => sOf ρ 14 (ρ 35 x)) 0 (q9).toNat) + (sOf ρ 14 (ρ 35 q9)))), (3, vI (sumI (fun x => sOf ρ 14 (ρ 35 x)) 0 (q9).toNat)), (2, vR (aE ρ (ρ 35 q9))), (0, vR (g 6)), (1, vI q9)]) F dX5_minutesAt_73 (by decide) rfl ?_
        refine z_aload_n F dX5_minutesAt_75 rfl 2 rfl ?_
        refine z_get (v := vR (aC ρ (ρ 9 (ρ 35 q9)))) F (ci_e hI (show 0 ≤ ρ 35 q9 ∧ ρ 35 q9 < ρ 8 0 ∧ ρ 35 q9 < 100 from by omega)) fX5_44 rfl dX5_minutesAt_76 ?_
        refine z_iload F dX5_minutesAt_79 0 rfl ?_
        refine z_callV (As := [vI ((sumI (fun x => sOf ρ 14 (ρ 35 x)) 0 (q9).toNat) + (sOf ρ 14 (ρ 35 q9)))]) (st := []) F (mX0_roundSeconds l G N0 h (aC ρ (ρ 9 (ρ 35 q9))) (ρ 9 (ρ 35 q9)) (ρ 3 (ρ 9 (ρ 35 q9))) (ρ 4 (ρ 9 (ρ 35 q9))) (ρ 5 (ρ 9 (ρ 35 q9))) (ρ 6 (ρ 9 (ρ 35 q9))) (ρ 7 (ρ 9 (ρ 35 q9))) ((sumI (fun x => sOf ρ 14 (ρ 35 x)) 0 (q9).toNat) + (sOf ρ 14 (ρ 35 q9))) (ci_c hI (show 0 ≤ ρ 9 (ρ 35 q9) ∧ ρ 9 (ρ 35 q9) < ρ 2 0 ∧ ρ 9 (ρ 35 q9) < 100 from by omega)) (by omega) (by omega) (by omega)) cvX5_86 (ci_c hI (show 0 ≤ ρ 9 (ρ 35 q9) ∧ ρ 9 (ρ 35 q9) < ρ 2 0 ∧ ρ 9 (ρ 35 q9) < 100 from by omega)) (fun r9 h9 => by cases h9; rfl) rfl rfl ⟨Nat.le_of_ble_eq_true rfl, Nat.le_of_ble_eq_true rfl⟩ rfl ⟨Nat.le_of_ble_eq_true rfl, Nat.le_of_ble_eq_true rfl⟩ dX5_minutesAt_81 ?_
        rintro _ h9 ⟨rfl, hh9⟩
        rw [hh9]
        clear hh9 h9
        show Z _ _ _ _ _ _ _ _ _ _ _ _ _ _ _ _ _ _ _ _ [vI (rndS (ρ 3 (ρ 9 (ρ 35 q9))) (ρ 4 (ρ 9 (ρ 35 q9))) ((sumI (fun x => sOf ρ 14 (ρ 35 x)) 0 (q9).toNat) + (sOf ρ 14 (ρ 35 q9))))]
        refine z_aload_n F dX5_minutesAt_84 rfl 2 rfl ?_
        refine z_get (v := vR (aC ρ (ρ 9 (ρ 35 q9)))) F (ci_e hI (show 0 ≤ ρ 35 q9 ∧ ρ 35 q9 < ρ 8 0 ∧ ρ 35 q9 < 100 from by omega)) fX5_44 rfl dX5_minutesAt_85 ?_
        refine z_iload_n F dX5_minutesAt_88 rfl 1 rfl ?_
        refine z_callV (As := [vI (sumI (fun x => sOf ρ 14 (ρ 35 x)) 0 (q9).toNat)]) (st := [vI (rndS (ρ 3 (ρ 9 (ρ 35 q9))) (ρ 4 (ρ 9 (ρ 35 q9))) ((sumI (fun x => sOf ρ 14 (ρ 35 x)) 0 (q9).toNat) + (sOf ρ 14 (ρ 35 q9))))]) F (mX0_roundSeconds l G N0 h (aC ρ (ρ 9 (ρ 35 q9))) (ρ 9 (ρ 35 q9)) (ρ 3 (ρ 9 (ρ 35 q9))) (ρ 4 (ρ 9 (ρ 35 q9))) (ρ 5 (ρ 9 (ρ 35 q9))) (ρ 6 (ρ 9 (ρ 35 q9))) (ρ 7 (ρ 9 (ρ 35 q9))) (sumI (fun x => sOf ρ 14 (ρ 35 x)) 0 (q9).toNat) (ci_c hI (show 0 ≤ ρ 9 (ρ 35 q9) ∧ ρ 9 (ρ 35 q9) < ρ 2 0 ∧ ρ 9 (ρ 35 q9) < 100 from by omega)) (by omega) (by omega) (by omega)) cvX5_86 (ci_c hI (show 0 ≤ ρ 9 (ρ 35 q9) ∧ ρ 9 (ρ 35 q9) < ρ 2 0 ∧ ρ 9 (ρ 35 q9) < 100 from by omega)) (fun r9 h9 => by cases h9; rfl) rfl rfl ⟨Nat.le_of_ble_eq_true rfl, Nat.le_of_ble_eq_true rfl⟩ rfl ⟨Nat.le_of_ble_eq_true rfl, Nat.le_of_ble_eq_true rfl⟩ dX5_minutesAt_89 ?_
        rintro _ h9 ⟨rfl, hh9⟩
        rw [hh9]
        clear hh9 h9
        show Z _ _ _ _ _ _ _ _ _ _ _ _ _ _ _ _ _ _ _ _ [vI (rndS (ρ 3 (ρ 9 (ρ 35 q9))) (ρ 4 (ρ 9 (ρ 35 q9))) (sumI (fun x => sOf ρ 14 (ρ 35 x)) 0 (q9).toNat)), vI (rndS (ρ 3 (ρ 9 (ρ 35 q9))) (ρ 4 (ρ 9 (ρ 35 q9))) ((sumI (fun x => sOf ρ 14 (ρ 35 x)) 0 (q9).toNat) + (sOf ρ 14 (ρ 35 q9))))]
        refine z_isub F dX5_minutesAt_92 ?_
        rw [hQ]
        exact z_iret (nf_i _) F hr (Nat.le_of_ble_eq_true rfl) (Nat.le_of_ble_eq_true rfl) dX5_minutesAt_93 (⟨rI (by unfold mAt; rw [← hw9.2.1]; first | rw [if_pos (by omega)] | rw [if_neg (by omega)]), rfl⟩)
      · refine z_aload_n F dX5_minutesAt_41 rfl 0 rfl ?_
        refine z_get (v := vR (aC ρ (ρ 9 (ρ 35 q9)))) F (ci_e hI (show 0 ≤ ρ 35 q9 ∧ ρ 35 q9 < ρ 8 0 ∧ ρ 35 q9 < 100 from by omega)) fX5_44 rfl dX5_minutesAt_42 ?_
        refine z_aload_n F dX5_minutesAt_45 rfl 1 rfl ?_
        refine z_get (v := vR (g 2)) F (ci_6 hI) fX5_22 rfl dX5_minutesAt_46 ?_
        refine z_aload_n F dX5_minutesAt_49 rfl 0 rfl ?_
        refine z_callV (As := [vR (aE ρ (ρ 35 q9))]) (st := [vR (aC ρ (ρ 9 (ρ 35 q9)))]) F (mX6_secondsOf0 l G N0 h g ρ (ρ 35 q9) hI (show 0 ≤ ρ 35 q9 ∧ ρ 35 q9 < ρ 8 0 from by omega) (show ρ 8 0 ≤ 24 from by omega) (show 0 ≤ ρ 12 (ρ 35 q9) ∧ ρ 12 (ρ 35 q9) ≤ 200 from by omega)) cvX5_73 (ci_2 hI) (fun r9 h9 => by cases h9; rfl) rfl rfl ⟨Nat.le_of_ble_eq_true rfl, Nat.le_of_ble_eq_true rfl⟩ rfl ⟨Nat.le_of_ble_eq_true rfl, Nat.le_of_ble_eq_true rfl⟩ dX5_minutesAt_50 ?_
        rintro _ h9 ⟨rfl, hh9⟩
        rw [hh9]
        clear hh9 h9
        show Z _ _ _ _ _ _ _ _ _ _ _ _ _ _ _ _ _ _ _ _ [vI (sOf ρ 14 (ρ 35 q9)), vR (aC ρ (ρ 9 (ρ 35 q9)))]
        refine z_callV (As := [vI (sOf ρ 14 (ρ 35 q9))]) (st := []) F (mX0_roundSeconds l G N0 h (aC ρ (ρ 9 (ρ 35 q9))) (ρ 9 (ρ 35 q9)) (ρ 3 (ρ 9 (ρ 35 q9))) (ρ 4 (ρ 9 (ρ 35 q9))) (ρ 5 (ρ 9 (ρ 35 q9))) (ρ 6 (ρ 9 (ρ 35 q9))) (ρ 7 (ρ 9 (ρ 35 q9))) (sOf ρ 14 (ρ 35 q9)) (ci_c hI (show 0 ≤ ρ 9 (ρ 35 q9) ∧ ρ 9 (ρ 35 q9) < ρ 2 0 ∧ ρ 9 (ρ 35 q9) < 100 from by omega)) (by omega) (by omega) (by omega)) cvX5_86 (ci_c hI (show 0 ≤ ρ 9 (ρ 35 q9) ∧ ρ 9 (ρ 35 q9) < ρ 2 0 ∧ ρ 9 (ρ 35 q9) < 100 from by omega)) (fun r9 h9 => by cases h9; rfl) rfl rfl ⟨Nat.le_of_ble_eq_true rfl, Nat.le_of_ble_eq_true rfl⟩ rfl ⟨Nat.le_of_ble_eq_true rfl, Nat.le_of_ble_eq_true rfl⟩ dX5_minutesAt_53 ?_
        rintro _ h9 ⟨rfl, hh9⟩
        rw [hh9]
        clear hh9 h9
        show Z _ _ _ _ _ _ _ _ _ _ _ _ _ _ _ _ _ _ _ _ [vI (rndS (ρ 3 (ρ 9 (ρ 35 q9))) (ρ 4 (ρ 9 (ρ 35 q9))) (sOf ρ 14 (ρ 35 q9)))]
        rw [hQ]
        exact z_iret (nf_i _) F hr (Nat.le_of_ble_eq_true rfl) (Nat.le_of_ble_eq_true rfl) dX5_minutesAt_56 (⟨rI (by unfold mAt; rw [← hw9.2.1]; first | rw [if_pos (by omega)] | rw [if_neg (by omega)]), rfl⟩)
    · exfalso; omega
set_option maxRecDepth 100000 in
set_option maxHeartbeats 4000000 in
theorem mX5_minutesByLines (l : Launch) (G : GG) (N0 : Nat) (h : Hp) (g : Int → Nat) (ρ : Sg) (c9 w9 : Int) (hI : CI G g ρ h) (hV : MC ρ) (hO : OT ρ c9 w9) (hc : 0 ≤ c9 ∧ c9 < ρ 2 0) (hw : w9 = 1) : Ct l G N0 yX5_minutesByLines (Cond.code yX5_minutesByLines cX5_minutesByLines 4 (some FieldType.int) :: LW) ({ frames := 5, cells := 0, slots := 0, locals := 240 }) [vR (g 6), vR (aC ρ c9)] h (fun r h' => r = some (vI (opS ρ c9)) ∧ h' = h) := by
  refine ct_of rfl rfl ?_
  intro p e s m args below meth c F hr hnm
  have F : Fx p s m args meth c RX5 cX5_minutesByLines 4 G N0 (cA h s.heap.size) := F
  obtain ⟨v0, v1, v2, v8, v16, v24, v39, vC, vE, vJ, vK, vB, vO⟩ := id hV
  have C9 := vC c9 hc.1 hc.2
  have hpk := hO.pk v8.1
  have hm9 := hO.1.1
  subst hw
  have hop := hO.opSs hV hc
  obtain ⟨Q, hQ⟩ : ∃ z, z = MQ below (cQc G N0 h s.heap.size (fun r h' => r = some (vI (opS ρ c9)) ∧ h' = h)) args s 0 0 (cA h s.heap.size) := ⟨_, rfl⟩
  rw [← hQ]
  show Z _ _ _ _ _ _ _ _ _ _ _ _ _ _ _ _ _ _ _ [(0, vR (g 6)), (1, vR (aC ρ c9))] []
  refine z_iconst F dX5_minutesByLines_0 ?_
  refine z_istore_n (lv' := [(2, vI 0), (0, vR (g 6)), (1, vR (aC ρ c9))]) F dX5_minutesByLines_1 rfl (by decide) rfl ?_
  refine z_aload_n F dX5_minutesByLines_2 rfl 2 rfl ?_
  refine z_get (v := vI (ρ 5 c9)) F (ci_c hI (show 0 ≤ c9 ∧ c9 < ρ 2 0 ∧ c9 < 100 from by omega)) fX5_81 rfl dX5_minutesByLines_3 ?_
  refine z_bipush F dX5_minutesByLines_6 (by decide) ?_
  refine z_icmp_ne (tgt := 38) F dX5_minutesByLines_8 (by decide) (by omega) (by decide) (fun c8 => ?_) (fun c8 => ?_)
  · refine z_iconst F dX5_minutesByLines_38 ?_
    refine z_istore_n (lv' := [(3, vI 0), (2, vI 0), (0, vR (g 6)), (1, vR (aC ρ c9))]) F dX5_minutesByLines_39 rfl (by decide) rfl ?_
    have L40 : ∀ (fuel : Nat) (s9 : Int) (q9 : Int), (0 ≤ q9 ∧ q9 ≤ ρ 36 0) → (s9 = sumI (fun q => mAt ρ c9 q) 0 q9.toNat) → ρ 36 0 - q9 < (fuel : Int) → Z p l e ({ frames := 5, cells := 0, slots := 0, locals := 240 }) s m args below meth c 4 G N0 (cA h s.heap.size) Q h 0 0 40 [(3, vI q9), (2, vI s9), (0, vR (g 6)), (1, vR (aC ρ c9))] [] := by
      intro fuel
      induction fuel with
      | zero => intro s9 q9  ha hs hm; exact absurd hm (by omega)
      | succ fuel ih40 =>
        intro s9 q9  ha hs hm
        refine z_iload_n F dX5_minutesByLines_40 rfl 0 rfl ?_
        refine z_aload_n F dX5_minutesByLines_41 rfl 2 rfl ?_
        refine z_get (v := vR (g 17)) F (ci_6 hI) fX5_12 rfl dX5_minutesByLines_42 ?_
        refine z_callV (As := []) (st := [vI q9]) F (mJx4a65c_size_8abf5 l G N0 h (g 17) ((ρ 40 4).toNat) 0 (ρ 32 4) (ρ 36 0) (fun _ => none) (ci_17 hI)) cvX5_34 (ci_17 hI) (fun r9 h9 => by cases h9; rfl) rfl rfl ⟨Nat.le_of_ble_eq_true rfl, Nat.le_of_ble_eq_true rfl⟩ rfl ⟨Nat.le_of_ble_eq_true rfl, Nat.le_of_ble_eq_true rfl⟩ dX5_minutesByLines_45 ?_
        rintro _ h9 ⟨rfl, hh9⟩
        rw [hh9]
        clear hh9 h9
        show Z _ _ _ _ _ _ _ _ _ _ _ _ _ _ _ _ _ _ _ _ [vI (ρ 36 0), vI q9]
        refine z_icmp_ge (tgt := 65) F dX5_minutesByLines_48 (by decide) (by omega) (by omega) (fun c48 => ?_) (fun c48 => ?_)
        · refine z_iload_n F dX5_minutesByLines_65 rfl 1 rfl ?_
          rw [hQ]
          exact z_iret (nf_i _) F hr (Nat.le_of_ble_eq_true rfl) (Nat.le_of_ble_eq_true rfl) dX5_minutesByLines_66 (⟨rI (by rw [hs, show q9 = ρ 36 0 by omega]; exact hop.2.2 (by omega)), rfl⟩)
        · refine z_iload_n F dX5_minutesByLines_51 rfl 1 rfl ?_
          refine z_aload_n F dX5_minutesByLines_52 rfl 2 rfl ?_
          refine z_iload_n F dX5_minutesByLines_53 rfl 0 rfl ?_
          refine z_callV (As := [vI q9]) (st := [vI s9]) F (mX5_minutesAt l G N0 h g ρ c9 1 q9 hI hV hO hc (show 0 ≤ q9 ∧ q9 < ρ 36 0 from by omega)) cvX5_98 (ci_6 hI) (fun r9 h9 => by cases h9; rfl) rfl rfl ⟨Nat.le_of_ble_eq_true rfl, Nat.le_of_ble_eq_true rfl⟩ rfl ⟨Nat.le_of_ble_eq_true rfl, Nat.le_of_ble_eq_true rfl⟩ dX5_minutesByLines_54 ?_
          rintro _ h9 ⟨rfl, hh9⟩
          rw [hh9]
          clear hh9 h9
          show Z _ _ _ _ _ _ _ _ _ _ _ _ _ _ _ _ _ _ _ _ [vI (mAt ρ c9 q9), vI s9]
          refine z_iadd F dX5_minutesByLines_57 ?_
          refine z_istore_n (lv' := [(2, vI (s9 + (mAt ρ c9 q9))), (3, vI q9), (0, vR (g 6)), (1, vR (aC ρ c9))]) F dX5_minutesByLines_58 rfl (by decide) rfl ?_
          refine z_iinc (lv' := [(3, vI (q9 + 1)), (2, vI (s9 + (mAt ρ c9 q9))), (0, vR (g 6)), (1, vR (aC ρ c9))]) F dX5_minutesByLines_59 1 rfl (by decide) rfl ?_
          refine z_goto (tgt := 40) F dX5_minutesByLines_62 (by decide) ?_
          exact ih40 (s9 + (mAt ρ c9 q9)) (q9 + 1)  (by omega) (by rw [sumI_s _ ha.1]; omega) (by omega)
    exact L40 ((ρ 36 0 - 0 : Int).toNat + 1) 0 0  (by omega) (rfl) (by omega)
  · refine z_iconst F dX5_minutesByLines_11 ?_
    refine z_istore_n (lv' := [(3, vI 0), (2, vI 0), (0, vR (g 6)), (1, vR (aC ρ c9))]) F dX5_minutesByLines_12 rfl (by decide) rfl ?_
    have L13 : ∀ (fuel : Nat) (s9 : Int) (d9 : Int), (0 ≤ d9 ∧ d9 ≤ 5) → (s9 = sumI (fun d => rndS (ρ 3 c9) (ρ 4 c9) (sumI (fun x => ρ 14 (5 * ρ 35 x + d)) 0 (ρ 36 0).toNat)) 0 d9.toNat) → 5 - d9 < (fuel : Int) → Z p l e ({ frames := 5, cells := 0, slots := 0, locals := 240 }) s m args below meth c 4 G N0 (cA h s.heap.size) Q h 0 0 13 [(3, vI d9), (2, vI s9), (0, vR (g 6)), (1, vR (aC ρ c9))] [] := by
      intro fuel
      induction fuel with
      | zero => intro s9 d9  ha hs hm; exact absurd hm (by omega)
      | succ fuel ih13 =>
        intro s9 d9  ha hs hm
        refine z_iload_n F dX5_minutesByLines_13 rfl 0 rfl ?_
        refine z_iconst F dX5_minutesByLines_14 ?_
        refine z_icmp_ge (tgt := 36) F dX5_minutesByLines_15 (by decide) (by omega) (by decide) (fun c15 => ?_) (fun c15 => ?_)
        · refine z_iload_n F dX5_minutesByLines_36 rfl 1 rfl ?_
          rw [hQ]
          exact z_iret (nf_i _) F hr (Nat.le_of_ble_eq_true rfl) (Nat.le_of_ble_eq_true rfl) dX5_minutesByLines_37 (⟨rI (by rw [hs, show d9 = 5 by omega]; exact hop.2.1 (by omega)), rfl⟩)
        · refine z_iload_n F dX5_minutesByLines_18 rfl 1 rfl ?_
          refine z_aload_n F dX5_minutesByLines_19 rfl 3 rfl ?_
          refine z_aload_n F dX5_minutesByLines_20 rfl 2 rfl ?_
          refine z_iload_n F dX5_minutesByLines_21 rfl 0 rfl ?_
          refine z_callV (As := [vI d9]) (st := [vR (aC ρ c9), vI s9]) F (mX5_secondsInDay l G N0 h g ρ c9 1 d9 hI hV hO hc (by omega)) cvX5_96 (ci_6 hI) (fun r9 h9 => by cases h9; rfl) rfl rfl ⟨Nat.le_of_ble_eq_true rfl, Nat.le_of_ble_eq_true rfl⟩ rfl ⟨Nat.le_of_ble_eq_true rfl, Nat.le_of_ble_eq_true rfl⟩ dX5_minutesByLines_22 ?_
          rintro _ h9 ⟨rfl, hh9⟩
          rw [hh9]
          clear hh9 h9
          have hds := hO.dsum hV (d := d9) (by omega) (by omega)
          show Z _ _ _ _ _ _ _ _ _ _ _ _ _ _ _ _ _ _ _ _ [vI (sumI (fun x => ρ 14 (5 * ρ 35 x + d9)) 0 (ρ 36 0).toNat), vR (aC ρ c9), vI s9]
          refine z_callV (As := [vI (sumI (fun x => ρ 14 (5 * ρ 35 x + d9)) 0 (ρ 36 0).toNat)]) (st := [vI s9]) F (mX0_roundSeconds l G N0 h (aC ρ c9) c9 (ρ 3 c9) (ρ 4 c9) (ρ 5 c9) (ρ 6 c9) (ρ 7 c9) (sumI (fun x => ρ 14 (5 * ρ 35 x + d9)) 0 (ρ 36 0).toNat) (ci_c hI (show 0 ≤ c9 ∧ c9 < ρ 2 0 ∧ c9 < 100 from by omega)) (by omega) (by omega) (by omega)) cvX5_86 (ci_c hI (show 0 ≤ c9 ∧ c9 < ρ 2 0 ∧ c9 < 100 from by omega)) (fun r9 h9 => by cases h9; rfl) rfl rfl ⟨Nat.le_of_ble_eq_true rfl, Nat.le_of_ble_eq_true rfl⟩ rfl ⟨Nat.le_of_ble_eq_true rfl, Nat.le_of_ble_eq_true rfl⟩ dX5_minutesByLines_25 ?_
          rintro _ h9 ⟨rfl, hh9⟩
          rw [hh9]
          clear hh9 h9
          show Z _ _ _ _ _ _ _ _ _ _ _ _ _ _ _ _ _ _ _ _ [vI (rndS (ρ 3 c9) (ρ 4 c9) (sumI (fun x => ρ 14 (5 * ρ 35 x + d9)) 0 (ρ 36 0).toNat)), vI s9]
          refine z_iadd F dX5_minutesByLines_28 ?_
          refine z_istore_n (lv' := [(2, vI (s9 + (rndS (ρ 3 c9) (ρ 4 c9) (sumI (fun x => ρ 14 (5 * ρ 35 x + d9)) 0 (ρ 36 0).toNat)))), (3, vI d9), (0, vR (g 6)), (1, vR (aC ρ c9))]) F dX5_minutesByLines_29 rfl (by decide) rfl ?_
          refine z_iinc (lv' := [(3, vI (d9 + 1)), (2, vI (s9 + (rndS (ρ 3 c9) (ρ 4 c9) (sumI (fun x => ρ 14 (5 * ρ 35 x + d9)) 0 (ρ 36 0).toNat)))), (0, vR (g 6)), (1, vR (aC ρ c9))]) F dX5_minutesByLines_30 1 rfl (by decide) rfl ?_
          refine z_goto (tgt := 13) F dX5_minutesByLines_33 (by decide) ?_
          exact ih13 (s9 + (rndS (ρ 3 c9) (ρ 4 c9) (sumI (fun x => ρ 14 (5 * ρ 35 x + d9)) 0 (ρ 36 0).toNat))) (d9 + 1)  (by omega) (by rw [sumI_s _ ha.1]; omega) (by omega)
    exact L13 ((5 - 0 : Int).toNat + 1) 0 0  (by omega) (rfl) (by omega)
set_option maxRecDepth 100000 in
set_option maxHeartbeats 4000000 in
theorem mX5_minutesFor (l : Launch) (G : GG) (N0 : Nat) (h : Hp) (g : Int → Nat) (ρ : Sg) (c9 w9 : Int) (hI : CI G g ρ h) (hV : MC ρ) (hO : OT ρ c9 w9) (hc : 0 ≤ c9 ∧ c9 < ρ 2 0) (hw : w9 = 1) : Ct l G N0 yX5_minutesFor (Cond.code yX5_minutesFor cX5_minutesFor 2 (some FieldType.int) :: LW) ({ frames := 6, cells := 0, slots := 0, locals := 280 }) [vR (g 6), vR (aC ρ c9)] h (fun r h' => r = some (vI (opS ρ c9)) ∧ h' = h) := by
  refine ct_of rfl rfl ?_
  intro p e s m args below meth c F hr hnm
  have F : Fx p s m args meth c RX5 cX5_minutesFor 2 G N0 (cA h s.heap.size) := F
  obtain ⟨v0, v1, v2, v8, v16, v24, v39, vC, vE, vJ, vK, vB, vO⟩ := id hV
  have C9 := vC c9 hc.1 hc.2
  have hpk := hO.pk v8.1
  have hm9 := hO.1.1
  subst hw
  have hop := hO.opSs hV hc
  have hsm := hO.sum hV hm9.1 (Int.le_refl _)
  obtain ⟨Q, hQ⟩ : ∃ z, z = MQ below (cQc G N0 h s.heap.size (fun r h' => r = some (vI (opS ρ c9)) ∧ h' = h)) args s 0 0 (cA h s.heap.size) := ⟨_, rfl⟩
  rw [← hQ]
  show Z _ _ _ _ _ _ _ _ _ _ _ _ _ _ _ _ _ _ _ [(0, vR (g 6)), (1, vR (aC ρ c9))] []
  refine z_aload_n F dX5_minutesFor_0 rfl 1 rfl ?_
  refine z_get (v := vI (ρ 5 c9)) F (ci_c hI (show 0 ≤ c9 ∧ c9 < ρ 2 0 ∧ c9 < 100 from by omega)) fX5_81 rfl dX5_minutesFor_1 ?_
  refine z_bipush F dX5_minutesFor_4 (by decide) ?_
  refine z_icmp_ne (tgt := 25) F dX5_minutesFor_6 (by decide) (by omega) (by decide) (fun c6 => ?_) (fun c6 => ?_)
  · refine z_aload_n F dX5_minutesFor_25 rfl 0 rfl ?_
    refine z_aload_n F dX5_minutesFor_26 rfl 1 rfl ?_
    refine z_callV (As := [vR (aC ρ c9)]) (st := []) F (mX5_minutesByLines l G N0 h g ρ c9 1 hI hV hO hc rfl) cvX5_92 (ci_6 hI) (fun r9 h9 => by cases h9; rfl) rfl rfl ⟨Nat.le_of_ble_eq_true rfl, Nat.le_of_ble_eq_true rfl⟩ rfl ⟨Nat.le_of_ble_eq_true rfl, Nat.le_of_ble_eq_true rfl⟩ dX5_minutesFor_27 ?_
    rintro _ h9 ⟨rfl, hh9⟩
    rw [hh9]
    clear hh9 h9
    show Z _ _ _ _ _ _ _ _ _ _ _ _ _ _ _ _ _ _ _ _ [vI (opS ρ c9)]
    rw [hQ]
    exact z_iret (nf_i _) F hr (Nat.le_of_ble_eq_true rfl) (Nat.le_of_ble_eq_true rfl) dX5_minutesFor_30 (⟨rI (by first | rfl | exact hop.1 (by omega)), rfl⟩)
  · refine z_aload_n F dX5_minutesFor_9 rfl 1 rfl ?_
    refine z_aload_n F dX5_minutesFor_10 rfl 0 rfl ?_
    refine z_aload_n F dX5_minutesFor_11 rfl 0 rfl ?_
    refine z_get (v := vR (g 17)) F (ci_6 hI) fX5_12 rfl dX5_minutesFor_12 ?_
    refine z_callV (As := []) (st := [vR (g 6), vR (aC ρ c9)]) F (mJx4a65c_size_8abf5 l G N0 h (g 17) ((ρ 40 4).toNat) 0 (ρ 32 4) (ρ 36 0) (fun _ => none) (ci_17 hI)) cvX5_34 (ci_17 hI) (fun r9 h9 => by cases h9; rfl) rfl rfl ⟨Nat.le_of_ble_eq_true rfl, Nat.le_of_ble_eq_true rfl⟩ rfl ⟨Nat.le_of_ble_eq_true rfl, Nat.le_of_ble_eq_true rfl⟩ dX5_minutesFor_15 ?_
    rintro _ h9 ⟨rfl, hh9⟩
    rw [hh9]
    clear hh9 h9
    show Z _ _ _ _ _ _ _ _ _ _ _ _ _ _ _ _ _ _ _ _ [vI (ρ 36 0), vR (g 6), vR (aC ρ c9)]
    refine z_callV (As := [vI (ρ 36 0)]) (st := [vR (aC ρ c9)]) F (mX5_secondsOfFirst l G N0 h g ρ c9 1 (ρ 36 0) hI hV hO hc (show 0 ≤ ρ 36 0 ∧ ρ 36 0 ≤ ρ 36 0 from by omega)) cvX5_89 (ci_6 hI) (fun r9 h9 => by cases h9; rfl) rfl rfl ⟨Nat.le_of_ble_eq_true rfl, Nat.le_of_ble_eq_true rfl⟩ rfl ⟨Nat.le_of_ble_eq_true rfl, Nat.le_of_ble_eq_true rfl⟩ dX5_minutesFor_18 ?_
    rintro _ h9 ⟨rfl, hh9⟩
    rw [hh9]
    clear hh9 h9
    show Z _ _ _ _ _ _ _ _ _ _ _ _ _ _ _ _ _ _ _ _ [vI (sumI (fun x => sOf ρ 14 (ρ 35 x)) 0 (ρ 36 0).toNat), vR (aC ρ c9)]
    refine z_callV (As := [vI (sumI (fun x => sOf ρ 14 (ρ 35 x)) 0 (ρ 36 0).toNat)]) (st := []) F (mX0_roundSeconds l G N0 h (aC ρ c9) c9 (ρ 3 c9) (ρ 4 c9) (ρ 5 c9) (ρ 6 c9) (ρ 7 c9) (sumI (fun x => sOf ρ 14 (ρ 35 x)) 0 (ρ 36 0).toNat) (ci_c hI (show 0 ≤ c9 ∧ c9 < ρ 2 0 ∧ c9 < 100 from by omega)) (by omega) (by omega) (by omega)) cvX5_86 (ci_c hI (show 0 ≤ c9 ∧ c9 < ρ 2 0 ∧ c9 < 100 from by omega)) (fun r9 h9 => by cases h9; rfl) rfl rfl ⟨Nat.le_of_ble_eq_true rfl, Nat.le_of_ble_eq_true rfl⟩ rfl ⟨Nat.le_of_ble_eq_true rfl, Nat.le_of_ble_eq_true rfl⟩ dX5_minutesFor_21 ?_
    rintro _ h9 ⟨rfl, hh9⟩
    rw [hh9]
    clear hh9 h9
    show Z _ _ _ _ _ _ _ _ _ _ _ _ _ _ _ _ _ _ _ _ [vI (rndS (ρ 3 c9) (ρ 4 c9) (sumI (fun x => sOf ρ 14 (ρ 35 x)) 0 (ρ 36 0).toNat))]
    rw [hQ]
    exact z_iret (nf_i _) F hr (Nat.le_of_ble_eq_true rfl) (Nat.le_of_ble_eq_true rfl) dX5_minutesFor_24 (⟨rI (by first | rfl | exact hop.1 (by omega)), rfl⟩)
