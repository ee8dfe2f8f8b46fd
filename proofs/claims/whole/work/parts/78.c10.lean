theorem sw_n {σ : Sg} {k k' : Nat} {f : Int → Int} (h : k' ≠ k) : sw σ k f k' = σ k' := by
  funext j
  exact if_neg h
def f13 (ρ : Sg) (k : Nat) : Int → Int := fun e => if inK (ρ 35) k e = 1 then sumI (ρ 14) (5 * e) 5 else ρ 13 e
def f12 (ρ : Sg) (k : Nat) : Int → Int := fun e => if inK (ρ 35) k e = 1 then 102 else ρ 12 e
/-- the first k picked are frozen -/
abbrev FZ (ρ : Sg) (k : Nat) : Sg := sw (sw ρ 13 (f13 ρ k)) 12 (f12 ρ k)
theorem FZ_0 (ρ : Sg) : FZ ρ 0 = ρ := by
  have e1 : f13 ρ 0 = ρ 13 := by funext j; exact if_neg (by unfold inK; decide)
  have e2 : f12 ρ 0 = ρ 12 := by funext j; exact if_neg (by unfold inK; decide)
  unfold FZ
  rw [e1, e2]
  funext k j
  unfold sw
  by_cases a : k = 12
  · rw [if_pos a, a]
  · by_cases b : k = 13
    · rw [if_neg a, if_pos b, b]
    · rw [if_neg a, if_neg b]
theorem FZ_s {ρ : Sg} {k : Int} (h0 : 0 ≤ k) : su (su (FZ ρ k.toNat) 13 (ρ 35 k) (sumI (ρ 14) (5 * ρ 35 k) 5)) 12 (ρ 35 k) 102 = FZ ρ (k + 1).toNat := by
  have e1 : f13 ρ (k + 1).toNat = fun e => if e = ρ 35 k then sumI (ρ 14) (5 * ρ 35 k) 5 else f13 ρ k.toNat e := by
    funext e
    unfold f13
    rw [(toN_s h0).1, inK, (toN_s h0).2]
    by_cases q : e = ρ 35 k
    · rw [if_pos q, if_pos rfl, if_pos q, q]
    · rw [if_neg q, if_neg q]
  have e2 : f12 ρ (k + 1).toNat = fun e => if e = ρ 35 k then 102 else f12 ρ k.toNat e := by
    funext e
    unfold f12
    rw [(toN_s h0).1, inK, (toN_s h0).2]
    by_cases q : e = ρ 35 k
    · rw [if_pos q, if_pos rfl, if_pos q]
    · rw [if_neg q, if_neg q]
  unfold FZ
  rw [e1, e2]
  funext k' j
  unfold su sw
  by_cases a : k' = 12
  · simp [a]
  · by_cases b : k' = 13
    · simp [b]
    · simp [a, b]
set_option maxRecDepth 100000 in
set_option maxHeartbeats 4000000 in
theorem mX5_freezePicked (l : Launch) (G : GG) (N0 : Nat) (h : Hp) (g : Int → Nat) (ρ : Sg) (hI : CI G g ρ h) (h8 : 0 ≤ ρ 8 0 ∧ ρ 8 0 ≤ 24) (h36 : 0 ≤ ρ 36 0 ∧ ρ 36 0 ≤ 24) (hP : ∀ q, 0 ≤ q → q < ρ 36 0 → (0 ≤ ρ 35 q ∧ ρ 35 q < ρ 8 0) ∧ ρ 12 (ρ 35 q) = 101) (hN : ∀ a b, 0 ≤ a → a < b → b < ρ 36 0 → ρ 35 a ≠ ρ 35 b) : Ct l G N0 yX5_freezePicked (Cond.code yX5_freezePicked cX5_freezePicked 3 none :: LW) ({ frames := 3, cells := 0, slots := 0, locals := 160 }) [vR (g 6)] h (fun r h' => r = none ∧ CI G g (FZ ρ (ρ 36 0).toNat) h') := by
  refine ct_of rfl rfl ?_
  intro p e s m args below meth c F hr hnm
  have F : Fx p s m args meth c RX5 cX5_freezePicked 3 G N0 (cA h s.heap.size) := F
  obtain ⟨Q, hQ⟩ : ∃ z, z = MQ below (cQc G N0 h s.heap.size (fun r h' => r = none ∧ CI G g (FZ ρ (ρ 36 0).toNat) h')) args s 0 0 (cA h s.heap.size) := ⟨_, rfl⟩
  rw [← hQ]
  show Z _ _ _ _ _ _ _ _ _ _ _ _ _ _ _ _ _ _ _ [(0, vR (g 6))] []
  refine z_iconst F dX5_freezePicked_0 ?_
  refine z_istore_n (lv' := [(1, vI 0), (0, vR (g 6))]) F dX5_freezePicked_1 rfl (by decide) rfl ?_
  have L2 : ∀ (fuel : Nat) (k9 : Int) (h8 : Hp), (CI G g (FZ ρ k9.toNat) h8) → (0 ≤ k9 ∧ k9 ≤ ρ 36 0) → ρ 36 0 - k9 < (fuel : Int) → Z p l e ({ frames := 3, cells := 0, slots := 0, locals := 160 }) s m args below meth c 3 G N0 (cA h s.heap.size) Q h8 0 0 2 [(1, vI k9), (0, vR (g 6))] [] := by
    intro fuel
    induction fuel with
    | zero => intro k9 h8  hI8 ha hm; exact absurd hm (by omega)
    | succ fuel ih2 =>
      intro k9 h8  hI8 ha hm
      refine z_iload_n F dX5_freezePicked_2 rfl 0 rfl ?_
      refine z_aload_n F dX5_freezePicked_3 rfl 1 rfl ?_
      refine z_get (v := vR (g 17)) F (ci_6 (ρ := (sw (sw ρ 13 (f13 ρ k9.toNat)) 12 (f12 ρ k9.toNat))) hI8) fX5_12 rfl dX5_freezePicked_4 ?_
      refine z_callV (As := []) (st := [vI k9]) F (mJx4a65c_size_8abf5 l G N0 h8 (g 17) ((ρ 40 4).toNat) 0 (ρ 32 4) (ρ 36 0) (fun _ => none) (ci_17 (ρ := (sw (sw ρ 13 (f13 ρ k9.toNat)) 12 (f12 ρ k9.toNat))) hI8)) cvX5_34 (ci_17 (ρ := (sw (sw ρ 13 (f13 ρ k9.toNat)) 12 (f12 ρ k9.toNat))) hI8) (fun r9 h9 => by cases h9; rfl) rfl rfl ⟨Nat.le_of_ble_eq_true rfl, Nat.le_of_ble_eq_true rfl⟩ rfl ⟨Nat.le_of_ble_eq_true rfl, Nat.le_of_ble_eq_true rfl⟩ dX5_freezePicked_7 ?_
      rintro _ h9 ⟨rfl, hh9⟩
      rw [hh9]
      clear hh9 h9
      show Z _ _ _ _ _ _ _ _ _ _ _ _ _ _ _ _ _ _ _ _ [vI (ρ 36 0), vI k9]
      refine z_icmp_ge (tgt := 49) F dX5_freezePicked_10 (by decide) (by omega) (by omega) (fun c10 => ?_) (fun c10 => ?_)
      · rw [hQ]
        exact z_vret F hr (Nat.le_of_ble_eq_true rfl) (Nat.le_of_ble_eq_true rfl) dX5_freezePicked_49 (⟨rfl, by rw [show ρ 36 0 = k9 by omega]; exact hI8⟩)
      · have hw9 := hP k9 ha.1 (by omega)
        have z12 : f12 ρ k9.toNat (ρ 35 k9) = 101 := by
          unfold f12
          rw [if_neg]
          · exact hw9.2
          · intro z
            obtain ⟨q, q1, q2⟩ := (inK_iff k9.toNat).mp z
            exact hN q k9 q1.1 (by omega) (by omega) q2
        have hs8 : sOf (FZ ρ k9.toNat) 14 (ρ 35 k9) = sumI (ρ 14) (5 * ρ 35 k9) 5 := if_neg (by show ¬ f12 ρ k9.toNat (ρ 35 k9) = 102; omega)
        refine z_aload_n F dX5_freezePicked_13 rfl 1 rfl ?_
        refine z_get (v := vR (g 17)) F (ci_6 (ρ := (sw (sw ρ 13 (f13 ρ k9.toNat)) 12 (f12 ρ k9.toNat))) hI8) fX5_12 rfl dX5_freezePicked_14 ?_
        refine z_iload_n F dX5_freezePicked_17 rfl 0 rfl ?_
        refine z_callV (As := [vI k9]) (st := []) F (cGet4 l G N0 h8 g (sw (sw ρ 13 (f13 ρ k9.toNat)) 12 (f12 ρ k9.toNat)) k9 hI8 (show 0 ≤ k9 ∧ k9 < ρ 36 0 from by omega)) cvX5_38 (ci_17 (ρ := (sw (sw ρ 13 (f13 ρ k9.toNat)) 12 (f12 ρ k9.toNat))) hI8) (fun r9 h9 => by cases h9; rfl) rfl rfl ⟨Nat.le_of_ble_eq_true rfl, Nat.le_of_ble_eq_true rfl⟩ rfl ⟨Nat.le_of_ble_eq_true rfl, Nat.le_of_ble_eq_true rfl⟩ dX5_freezePicked_18 ?_
        rintro _ h9 ⟨rfl, hh9⟩
        rw [hh9]
        clear hh9 h9
        show Z _ _ _ _ _ _ _ _ _ _ _ _ _ _ _ _ _ _ _ _ [vR (aE ρ (ρ 35 k9))]
        refine z_cast F (ci_e (ρ := (sw (sw ρ 13 (f13 ρ k9.toNat)) 12 (f12 ρ k9.toNat))) hI8 (show 0 ≤ ρ 35 k9 ∧ ρ 35 k9 < ρ 8 0 ∧ ρ 35 k9 < 100 from by omega)) q260 (fun r9 h9 => by cases h9; rfl) dX5_freezePicked_21 ?_
        refine z_astore_n (lv' := [(2, vR (aE ρ (ρ 35 k9))), (1, vI k9), (0, vR (g 6))]) F dX5_freezePicked_24 rfl (by decide) rfl ?_
        refine z_aload_n F dX5_freezePicked_25 rfl 0 rfl ?_
        refine z_aload_n F dX5_freezePicked_26 rfl 2 rfl ?_
        refine z_get (v := vR (g 2)) F (ci_6 (ρ := (sw (sw ρ 13 (f13 ρ k9.toNat)) 12 (f12 ρ k9.toNat))) hI8) fX5_22 rfl dX5_freezePicked_27 ?_
        refine z_aload_n F dX5_freezePicked_30 rfl 0 rfl ?_
        refine z_callV (As := [vR (aE ρ (ρ 35 k9))]) (st := [vR (aE ρ (ρ 35 k9))]) F (mX6_secondsOf0 l G N0 h8 g (sw (sw ρ 13 (f13 ρ k9.toNat)) 12 (f12 ρ k9.toNat)) (ρ 35 k9) hI8 (show 0 ≤ ρ 35 k9 ∧ ρ 35 k9 < ρ 8 0 from by omega) (show ρ 8 0 ≤ 24 from by omega) (show 0 ≤ (f12 ρ k9.toNat) (ρ 35 k9) ∧ (f12 ρ k9.toNat) (ρ 35 k9) ≤ 200 from by omega)) cvX5_73 (ci_2 (ρ := (sw (sw ρ 13 (f13 ρ k9.toNat)) 12 (f12 ρ k9.toNat))) hI8) (fun r9 h9 => by cases h9; rfl) rfl rfl ⟨Nat.le_of_ble_eq_true rfl, Nat.le_of_ble_eq_true rfl⟩ rfl ⟨Nat.le_of_ble_eq_true rfl, Nat.le_of_ble_eq_true rfl⟩ dX5_freezePicked_31 ?_
        rintro _ h9 ⟨rfl, hh9⟩
        rw [hh9]
        clear hh9 h9
        show Z _ _ _ _ _ _ _ _ _ _ _ _ _ _ _ _ _ _ _ _ [vI (sOf (sw (sw ρ 13 (f13 ρ k9.toNat)) 12 (f12 ρ k9.toNat)) 14 (ρ 35 k9)), vR (aE ρ (ρ 35 k9))]
        obtain ⟨h1, eh1, Ih1⟩ : ∃ z : Hp, hu h8 (aE ρ (ρ 35 k9)) (eO 7 [vI (ρ 35 k9), vR (aC ρ (ρ 9 (ρ 35 k9))), vI (ρ 10 (ρ 35 k9)), vI (ρ 11 (ρ 35 k9)), vI ((f12 ρ k9.toNat) (ρ 35 k9)), vI (sOf (sw (sw ρ 13 (f13 ρ k9.toNat)) 12 (f12 ρ k9.toNat)) 14 (ρ 35 k9))]) = z ∧ CI G g (su (sw (sw ρ 13 (f13 ρ k9.toNat)) 12 (f12 ρ k9.toNat)) 13 (ρ 35 k9) (sOf (sw (sw ρ 13 (f13 ρ k9.toNat)) 12 (f12 ρ k9.toNat)) 14 (ρ 35 k9))) z := ⟨_, rfl, cP13 hI8 (show 0 ≤ ρ 35 k9 ∧ ρ 35 k9 < ρ 8 0 ∧ ρ 35 k9 < 100 from by omega) (by first | (simp [su, sw, fb_fi]; done) | (simp [su, sw, fb_fi]; rfl) | (simp [su, sw, fb_fi]; exact ⟨rfl, rfl⟩))⟩
        refine z_put (fs := [vI (ρ 35 k9), vR (aC ρ (ρ 9 (ρ 35 k9))), vI (ρ 10 (ρ 35 k9)), vI (ρ 11 (ρ 35 k9)), vI ((f12 ρ k9.toNat) (ρ 35 k9)), vI ((f13 ρ k9.toNat) (ρ 35 k9))]) (fs' := [vI (ρ 35 k9), vR (aC ρ (ρ 9 (ρ 35 k9))), vI (ρ 10 (ρ 35 k9)), vI (ρ 11 (ρ 35 k9)), vI ((f12 ρ k9.toNat) (ρ 35 k9)), vI (sOf (sw (sw ρ 13 (f13 ρ k9.toNat)) 12 (f12 ρ k9.toNat)) 14 (ρ 35 k9))]) (h' := h1) F (ci_e (ρ := (sw (sw ρ 13 (f13 ρ k9.toNat)) 12 (f12 ρ k9.toNat))) hI8 (show 0 ≤ ρ 35 k9 ∧ ρ 35 k9 < ρ 8 0 ∧ ρ 35 k9 < 100 from by omega)) fX5_101 ftX2_5 (nf_i _) (Nat.le_of_ble_eq_true rfl) rfl dX5_freezePicked_34 eh1 ?_
        refine z_aload_n F dX5_freezePicked_37 rfl 0 rfl ?_
        refine z_bipush F dX5_freezePicked_38 (by decide) ?_
        obtain ⟨h2, eh2, Ih2⟩ : ∃ z : Hp, hu h1 (aE ρ (ρ 35 k9)) (eO 7 [vI (ρ 35 k9), vR (aC ρ (ρ 9 (ρ 35 k9))), vI (ρ 10 (ρ 35 k9)), vI (ρ 11 (ρ 35 k9)), vI 102, vI (sOf (sw (sw ρ 13 (f13 ρ k9.toNat)) 12 (f12 ρ k9.toNat)) 14 (ρ 35 k9))]) = z ∧ CI G g (su (su (sw (sw ρ 13 (f13 ρ k9.toNat)) 12 (f12 ρ k9.toNat)) 13 (ρ 35 k9) (sOf (sw (sw ρ 13 (f13 ρ k9.toNat)) 12 (f12 ρ k9.toNat)) 14 (ρ 35 k9))) 12 (ρ 35 k9) 102) z := ⟨_, rfl, cP12 Ih1 (show 0 ≤ ρ 35 k9 ∧ ρ 35 k9 < ρ 8 0 ∧ ρ 35 k9 < 100 from by omega) (by first | (simp [su, sw, fb_fi]; done) | (simp [su, sw, fb_fi]; rfl) | (simp [su, sw, fb_fi]; exact ⟨rfl, rfl⟩))⟩
        refine z_put (fs := [vI (ρ 35 k9), vR (aC ρ (ρ 9 (ρ 35 k9))), vI (ρ 10 (ρ 35 k9)), vI (ρ 11 (ρ 35 k9)), vI ((f12 ρ k9.toNat) (ρ 35 k9)), vI (sOf (sw (sw ρ 13 (f13 ρ k9.toNat)) 12 (f12 ρ k9.toNat)) 14 (ρ 35 k9))]) (fs' := [vI (ρ 35 k9), vR (aC ρ (ρ 9 (ρ 35 k9))), vI (ρ 10 (ρ 35 k9)), vI (ρ 11 (ρ 35 k9)), vI 102, vI (sOf (sw (sw ρ 13 (f13 ρ k9.toNat)) 12 (f12 ρ k9.toNat)) 14 (ρ 35 k9))]) (h' := h2) F (show h1 (aE ρ (ρ 35 k9)) = some (eO 7 [vI (ρ 35 k9), vR (aC ρ (ρ 9 (ρ 35 k9))), vI (ρ 10 (ρ 35 k9)), vI (ρ 11 (ρ 35 k9)), vI ((f12 ρ k9.toNat) (ρ 35 k9)), vI (sOf (sw (sw ρ 13 (f13 ρ k9.toNat)) 12 (f12 ρ k9.toNat)) 14 (ρ 35 k9))]) from (ci_e (ρ := (su (sw (sw ρ 13 (f13 ρ k9.toNat)) 12 (f12 ρ k9.toNat)) 13 (ρ 35 k9) (sOf (sw (sw ρ 13 (f13 ρ k9.toNat)) 12 (f12 ρ k9.toNat)) 14 (ρ 35 k9)))) Ih1 (show 0 ≤ ρ 35 k9 ∧ ρ 35 k9 < ρ 8 0 ∧ ρ 35 k9 < 100 from by omega)).trans (congrArg some (by first | (simp [su, sw, fb_fi]; done) | (simp [su, sw, fb_fi]; rfl) | (simp [su, sw, fb_fi]; exact ⟨rfl, rfl⟩)))) fX5_48 ftX2_4 (nf_c (by omega)) (Nat.le_of_ble_eq_true rfl) rfl dX5_freezePicked_40 eh2 ?_
        refine z_iinc (lv' := [(1, vI (k9 + 1)), (2, vR (aE ρ (ρ 35 k9))), (0, vR (g 6))]) F dX5_freezePicked_43 1 rfl (by decide) rfl ?_
        refine z_goto (tgt := 2) F dX5_freezePicked_46 (by decide) ?_
        refine z_pick (lv' := [(1, vI (k9 + 1)), (0, vR (g 6))]) [0, 2] rfl ?_
        exact ih2 (k9 + 1) h2 (CI.eq Ih2 (by rw [hs8]; exact FZ_s ha.1)) (by omega) (by omega)
  exact L2 ((ρ 36 0 - 0 : Int).toNat + 1) 0 h (CI.eq hI (FZ_0 ρ).symm) (by omega) (by omega)
theorem IJ.new {G : GG} {g : Int → Nat} {ρ : Sg} {h h1 h9 : Hp} {c : Int} {q q2 : Nat} {e0 : AE} (H : CI G g ρ h) (hV : MC ρ) (h16 : ρ 16 0 < 8) (hq : h q = none) (e1 : hu h q e0 = h1) (hq2 : h1 q2 = none) (e9 : h9 = hu (hu h1 q2 (eO 4 [vI 0, vR (G.2.2 0), vI 0])) q (eO 8 [vR (aC ρ c), vR q2, vI 0, vF 0])) : ∃ r, IJ G g ρ c [] q r h9 := by
  obtain ⟨v0, v1, v2, v8, v16, v24, v39, vC, vE, vJ, vK, vB, vO⟩ := hV
  have hne : q2 ≠ q := fun z => by rw [z, ← e1, hu_s] at hq2; cases hq2
  have hq3 : h q2 = none := by rw [← e1, hu_n _ _ hne] at hq2; exact hq2
  have b := vB.2.2.2 (ρ 16 0) (Int.le_refl _)
  refine ⟨mkV ρ c (q : Int) (q2 : Int) (G.2.2 0 : Int), mkV_R b.1 b.2, ?_, ?_, LB.nil⟩
  · have e : h9 = hu (hu h q2 (eO 4 [vI 0, vR (G.2.2 0), vI 0])) q (eO 8 [vR (aC ρ c), vR q2, vI 0, vF 0]) := by
      rw [e9, ← e1]
      funext a
      by_cases z : a = q
      · rw [z, hu_s, hu_s]
      · rw [hu_n _ _ z, hu_n _ _ z]
        by_cases y : a = q2
        · rw [y, hu_s, hu_s]
        · rw [hu_n _ _ y, hu_n _ _ y, hu_n _ _ z]
    rw [e]
    exact CI.newInv H v39.1 ⟨v16.1, h16⟩ b.1 b.2 hq hq3 hne
  · show (su ρ 42 (ρ 16 0) (q : Int) 42 (ρ 16 0)).toNat = q
    rw [su_e]
    rfl
theorem ivE_len {ρ : Sg} {c : Int} (hV : MC ρ) (H : OT ρ c 0) : (ivE ρ c).length ≤ 24 := by
  have h8 := hV.2.2.2.1
  have hm := H.1.1
  by_cases q : ρ 5 c = 100
  · show (if ρ 5 c = 100 then _ else _ : List Ln).length ≤ 24
    rw [if_pos q]
    have := dLn_len (ρ 9) (ρ 12) (dyF ρ) (ρ 3 c) (ρ 4 c) c (ρ 8 0).toNat 5
    omega
  · rw [H.ivE hV q, eP_len]
    omega
theorem OT.inK {ρ : Sg} {c wr : Int} (H : OT ρ c wr) (e : Int) : inK (ρ 35) (ρ 36 0).toNat e = 1 ↔ 0 ≤ e ∧ e < ρ 8 0 ∧ blI (ρ 9) (ρ 12) e c wr = 1 := by
  have P := H.1
  have hm := P.1
  rw [inK_iff]
  constructor
  · rintro ⟨q, q1, q2⟩
    have := P.2.1 q q1.1 (by omega)
    rw [q2] at this
    exact ⟨this.1.1, this.1.2, this.2⟩
  · rintro ⟨e0, e1, e2⟩
    obtain ⟨q, q1, q2⟩ := P.2.2.2 e e0 e1 e2
    exact ⟨q, by omega, q2⟩
/-- what an invoice leaves -/
abbrev ivRL (ρ : Sg) (c : Int) (L : List Ln) : Sg := su (su (su (sw (sw (LX (sw (su ρ 18 (ρ 16 0) c) 27 (bl27 ρ c (ρ 24 0))) ρ (ρ 6 c) L) 13 (fx13 ρ c (ρ 8 0))) 12 (st12 ρ c (ρ 8 0))) 16 0 (ρ 16 0 + 1)) 31 (ρ 16 0) (lSum L)) 39 0 (ρ 16 0 + 1)
abbrev ivR (ρ : Sg) (c : Int) : Sg := ivRL ρ c (ivL ρ c)
theorem bl_101 {ow sa : Int → Int} {e c : Int} (h : blI ow sa e c 0 = 1) : sa e = 101 := by
  unfold blI at h
  by_cases z : ow e = c ∧ (sa e = 101 ∨ ((0 : Int) ≠ 0 ∧ sa e = 114))
  · rcases z.2 with w | w
    · exact w
    · exact absurd rfl w.1
  · rw [if_neg z] at h; exact absurd h (by decide)
theorem inv_SA {ρ b r7 r8 r10 : Sg} {c : Int} {L : List Ln} (S5 : SA ρ b) (hO : OT b c 0) (R : IR (sw b 27 (bl27 b c (b 24 0))) c L r7) (e8 : r8 = FZ r7 (r7 36 0).toNat) (hS : SA (su r8 16 0 (r8 16 0 + 1)) r10) : SA (ivRL ρ c L) r10 := by
  obtain ⟨r0, r39, r18, r17, ⟨r19, r21, r20, r22, r23⟩, r31, r41, rr⟩ := R
  have e36 : r7 36 = b 36 := r0 36 rfl
  have e35 : r7 35 = b 35 := r0 35 rfl
  have e12 : r7 12 = b 12 := r0 12 rfl
  have e13 : r7 13 = b 13 := r0 13 rfl
  have e14 : r7 14 = b 14 := r0 14 rfl
  have e16 : r7 16 = b 16 := r0 16 rfl
  have b6 : b 6 = ρ 6 := S5 6 rfl
  have b8 : b 8 = ρ 8 := S5 8 rfl
  have b9 : b 9 = ρ 9 := S5 9 rfl
  have b12 : b 12 = ρ 12 := S5 12 rfl
  have b13 : b 13 = ρ 13 := S5 13 rfl
  have b16 : b 16 = ρ 16 := S5 16 rfl
  have b24 : b 24 = ρ 24 := S5 24 rfl
  have b25 : b 25 = ρ 25 := S5 25 rfl
  have b27 : b 27 = ρ 27 := S5 27 rfl
  intro k hk
  rw [hS k hk, e8]
  have kk : k = 12 ∨ k = 13 ∨ k = 16 ∨ k = 17 ∨ k = 18 ∨ k = 19 ∨ k = 20 ∨ k = 21 ∨ k = 22 ∨ k = 23 ∨ k = 27 ∨ k = 31 ∨ k = 39 ∨ (k ≠ 12 ∧ k ≠ 13 ∧ k ≠ 16 ∧ k ≠ 17 ∧ k ≠ 18 ∧ k ≠ 19 ∧ k ≠ 20 ∧ k ≠ 21 ∧ k ≠ 22 ∧ k ≠ 23 ∧ k ≠ 27 ∧ k ≠ 31 ∧ k ≠ 39) := by omega
  rcases kk with rfl | rfl | rfl | rfl | rfl | rfl | rfl | rfl | rfl | rfl | rfl | rfl | rfl | n
  · funext e
    show f12 r7 (r7 36 0).toNat e = st12 ρ c (ρ 8 0) e
    unfold f12 st12
    rw [e35, e36, e12, ← b8, ← b9, ← b12]
    by_cases z : inK (b 35) (b 36 0).toNat e = 1
    · rw [if_pos z, if_pos ((hO.inK e).mp z)]
    · rw [if_neg z, if_neg (fun w => z ((hO.inK e).mpr w))]
  · funext e
    show f13 r7 (r7 36 0).toNat e = fx13 ρ c (ρ 8 0) e
    unfold f13 fx13
    rw [e35, e36, e13, e14, ← b8, ← b9, ← b12, ← b13, ← secS_r S5.c]
    by_cases z : inK (b 35) (b 36 0).toNat e = 1
    · have w := (hO.inK e).mp z
      have h1 := hO.2.1 e w.1 w.2.1
      unfold sOf at h1
      rw [if_neg (by rw [bl_101 w.2.2]; decide)] at h1
      rw [if_pos z, if_pos w, h1]
    · rw [if_neg z, if_neg (fun w => z ((hO.inK e).mpr w))]
  · funext j
    show (if j = 0 then r7 16 0 + 1 else r7 16 j) = (if j = 0 then ρ 16 0 + 1 else ρ 16 j)
    rw [e16, b16]
  · show r7 17 = u17 ρ L
    rw [show r7 17 = u17 b L from r17]
    unfold u17
    rw [b16, S5 17 rfl]
  · show r7 18 = _
    rw [r18]
    funext j
    show (if j = b 16 0 then c else b 18 j) = (if j = ρ 16 0 then c else ρ 18 j)
    rw [b16, S5 18 rfl]
  · show r7 19 = u19 ρ L
    rw [show r7 19 = u19 b L from r19]
    unfold u19
    rw [b16, S5 19 rfl]
  · show r7 20 = u20 ρ L
    rw [show r7 20 = u20 b L from r20]
    unfold u20
    rw [b16, S5 20 rfl]
  · show r7 21 = u21 ρ L
    rw [show r7 21 = u21 b L from r21]
    unfold u21
    rw [b16, S5 21 rfl]
  · show r7 22 = u22 ρ (ρ 6 c) L
    rw [show r7 22 = u22 b (b 6 c) L from r22]
    unfold u22
    rw [b16, b6, S5 22 rfl]
  · show r7 23 = u23 ρ (ρ 6 c) L
    rw [show r7 23 = u23 b (b 6 c) L from r23]
    unfold u23
    rw [b16, b6, S5 23 rfl]
  · show r7 27 = bl27 ρ c (ρ 24 0)
    rw [r0 27 rfl]
    show bl27 b c (b 24 0) = _
    funext j
    unfold bl27
    rw [b24, b27, b9, b25]
  · show r7 31 = (fun j => if j = ρ 16 0 then lSum L else ρ 31 j)
    rw [r31]
    funext j
    show (if j = b 16 0 then _ else b 31 j) = _
    rw [b16, S5 31 rfl]
  · show r7 39 = (fun j => if j = 0 then ρ 16 0 + 1 else ρ 39 j)
    rw [r39]
    funext j
    show (if j = 0 then b 16 0 + 1 else b 39 j) = _
    rw [b16, S5 39 rfl]
  · obtain ⟨n12, n13, n16, n17, n18, n19, n20, n21, n22, n23, n27, n31, n39⟩ := n
    have hB : iB k = false := by
      unfold scrB adB at hk
      unfold iB
      simp at hk ⊢
      omega
    have hS5 := S5 k hk
    funext j
    show su (sw (sw r7 13 _) 12 _) 16 0 _ k j = su (su (su (sw (sw (sw (sw (sw (sw (sw (sw (sw (su ρ 18 _ _) 27 _) 19 _) 21 _) 20 _) 22 _) 23 _) 17 _) 13 _) 12 _) 16 _ _) 31 _ _) 39 _ _ k j
    rw [su_n n16, sw_n n12, sw_n n13, r0 k hB, sw_n n27, hS5]
    rw [su_n n39, su_n n31, su_n n16, sw_n n12, sw_n n13, sw_n n17, sw_n n23, sw_n n22, sw_n n20, sw_n n21, sw_n n19, sw_n n27, su_n n18]
