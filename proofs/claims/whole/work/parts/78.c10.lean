theorem sw_n {σ : Sg} {k k' : Nat} {f : Int → Int} (h : k' ≠ k) : sw σ k f k' = σ k' := by
  funext j
  exact if_neg h
def f13 (ρ : Sg) (k : Nat) : Int → Int := fun e => if inK (ρ 35) k e = 1 then sumI (ρ 14) (5 * e) 5 else ρ 13 e
def f12 (ρ : Sg) (k : Nat) : Int → Int := fun e => if inK (ρ 35) k e = 1 then 102 else ρ 12 e
/-- the first k picked are frozen -/
abbrev FZ (ρ : Sg) (k : Nat) : Sg := sw (sw ρ 13 (f13 ρ k)) 12 (f12 ρ k)
theorem FZ_0 (ρ : Sg) : FZ ρ 0 = ρ := by
  have e1 : f13 ρ 0 = ρ 13 := by funext j; exact if_neg (by unfold inK; decide)
  have e2 : f12 ρ 0 = ρ 12 := by funext j; exact if_neg (by unfold inK; decide)
  unfold FZ
  rw [e1, e2]
  funext k j
  unfold sw
  by_cases a : k = 12
  · rw [if_pos a, a]
  · by_cases b : k = 13
    · rw [if_neg a, if_pos b, b]
    · rw [if_neg a, if_neg b]
theorem FZ_s {ρ : Sg} {k : Int} (h0 : 0 ≤ k) : su (su (FZ ρ k.toNat) 13 (ρ 35 k) (sumI (ρ 14) (5 * ρ 35 k) 5)) 12 (ρ 35 k) 102 = FZ ρ (k + 1).toNat := by
  have e1 : f13 ρ (k + 1).toNat = fun e => if e = ρ 35 k then sumI (ρ 14) (5 * ρ 35 k) 5 else f13 ρ k.toNat e := by
    funext e
    unfold f13
    rw [(toN_s h0).1, inK, (toN_s h0).2]
    by_cases q : e = ρ 35 k
    · rw [if_pos q, if_pos rfl, if_pos q, q]
    · rw [if_neg q, if_neg q]
  have e2 : f12 ρ (k + 1).toNat = fun e => if e = ρ 35 k then 102 else f12 ρ k.toNat e := by
    funext e
    unfold f12
    rw [(toN_s h0).1, inK, (toN_s h0).2]
    by_cases q : e = ρ 35 k
    · rw [if_pos q, if_pos rfl, if_pos q]
    · rw [if_neg q, if_neg q]
  unfold FZ
  rw [e1, e2]
  funext k' j
  unfold su sw
  by_cases a : k' = 12
  · simp [a]
  · by_cases b : k' = 13
    · simp [b]
    · simp [a, b]
set_option maxRecDepth 100000 in
set_option maxHeartbeats 4000000 in
theorem mX5_freezePicked (l : Launch) (G : GG) (N0 : Nat) (h : Hp) (g : Int → Nat) (ρ : Sg) (hI : CI G g ρ h) (h8 : 0 ≤ ρ 8 0 ∧ ρ 8 0 ≤ 24) (h36 : 0 ≤ ρ 36 0 ∧ ρ 36 0 ≤ 24) (hP : ∀ q, 0 ≤ q → q < ρ 36 0 → (0 ≤ ρ 35 q ∧ ρ 35 q < ρ 8 0) ∧ ρ 12 (ρ 35 q) = 101) (hN : ∀ a b, 0 ≤ a → a < b → b < ρ 36 0 → ρ 35 a ≠ ρ 35 b) : Ct l G N0 yX5_freezePicked (Cond.code yX5_freezePicked cX5_freezePicked 3 none :: LW) ({ frames := 3, cells := 0, slots := 0, locals := 160 }) [vR (g 6)] h (fun r h' => r = none ∧ CI G g (FZ ρ (ρ 36 0).toNat) h') := by
  refine ct_of rfl rfl ?_
  intro p e s m args below meth c F hr hnm
  have F : Fx p s m args meth c RX5 cX5_freezePicked 3 G N0 (cA h s.heap.size) := F
  obtain ⟨Q, hQ⟩ : ∃ z, z = MQ below (cQc G N0 h s.heap.size (fun r h' => r = none ∧ CI G g (FZ ρ (ρ 36 0).toNat) h')) args s 0 0 (cA h s.heap.size) := ⟨_, rfl⟩
  rw [← hQ]
  show Z _ _ _ _ _ _ _ _ _ _ _ _ _ _ _ _ _ _ _ [(0, vR (g 6))] []
  refine z_iconst F dX5_freezePicked_0 ?_
  refine z_istore_n (lv' := [(1, vI 0), (0, vR (g 6))]) F dX5_freezePicked_1 rfl (by decide) rfl ?_
  have L2 : ∀ (fuel : Nat) (k9 : Int) (h8 : Hp), (CI G g (FZ ρ k9.toNat) h8) → (0 ≤ k9 ∧ k9 ≤ ρ 36 0) → ρ 36 0 - k9 < (fuel : Int) → Z p l e ({ frames := 3, cells := 0, slots := 0, locals := 160 }) s m args below meth c 3 G N0 (cA h s.heap.size) Q h8 0 0 2 [(1, vI k9), (0, vR (g 6))] [] := by
    intro fuel
    induction fuel with
    | zero => intro k9 h8  hI8 ha hm; exact absurd hm (by omega)
    | succ fuel ih2 =>
      intro k9 h8  hI8 ha hm
      refine z_iload_n F dX5_freezePicked_2 rfl 0 rfl ?_
      refine z_aload_n F dX5_freezePicked_3 rfl 1 rfl ?_
      refine z_get (v := vR (g 17)) F (ci_6 (ρ := (sw (sw ρ 13 (f13 ρ k9.toNat)) 12 (f12 ρ k9.toNat))) hI8) fX5_12 rfl dX5_freezePicked_4 ?_
      refine z_callV (As := []) (st := [vI k9]) F (mJx4a65c_size_8abf5 l G N0 h8 (g 17) ((ρ 40 4).toNat) 0 (ρ 32 4) (ρ 36 0) (fun _ => none) (ci_17 (ρ := (sw (sw ρ 13 (f13 ρ k9.toNat)) 12 (f12 ρ k9.toNat))) hI8)) cvX5_34 (ci_17 (ρ := (sw (sw ρ 13 (f13 ρ k9.toNat)) 12 (f12 ρ k9.toNat))) hI8) (fun r9 h9 => by cases h9; rfl) rfl rfl ⟨Nat.le_of_ble_eq_true rfl, Nat.le_of_ble_eq_true rfl⟩ rfl ⟨Nat.le_of_ble_eq_true rfl, Nat.le_of_ble_eq_true rfl⟩ dX5_freezePicked_7 ?_
      rintro _ h9 ⟨rfl, hh9⟩
      rw [hh9]
      clear hh9 h9
      show Z _ _ _ _ _ _ _ _ _ _ _ _ _ _ _ _ _ _ _ _ [vI (ρ 36 0), vI k9]
      refine z_icmp_ge (tgt := 49) F dX5_freezePicked_10 (by decide) (by omega) (by omega) (fun c10 => ?_) (fun c10 => ?_)
      · rw [hQ]
        exact z_vret F hr (Nat.le_of_ble_eq_true rfl) (Nat.le_of_ble_eq_true rfl) dX5_freezePicked_49 (⟨rfl, by rw [show ρ 36 0 = k9 by omega]; exact hI8⟩)
      · have hw9 := hP k9 ha.1 (by omega)
        have z12 : f12 ρ k9.toNat (ρ 35 k9) = 101 := by
          unfold f12
          rw [if_neg]
          · exact hw9.2
          · intro z
            obtain ⟨q, q1, q2⟩ := (inK_iff k9.toNat).mp z
            exact hN q k9 q1.1 (by omega) (by omega) q2
        have hs8 : sOf (FZ ρ k9.toNat) 14 (ρ 35 k9) = sumI (ρ 14) (5 * ρ 35 k9) 5 := if_neg (by show ¬ f12 ρ k9.toNat (ρ 35 k9) = 102; omega)
        refine z_aload_n F dX5_freezePicked_13 rfl 1 rfl ?_
        refine z_get (v := vR (g 17)) F (ci_6 (ρ := (sw (sw ρ 13 (f13 ρ k9.toNat)) 12 (f12 ρ k9.toNat))) hI8) fX5_12 rfl dX5_freezePicked_14 ?_
        refine z_iload_n F dX5_freezePicked_17 rfl 0 rfl ?_
        refine z_callV (As := [vI k9]) (st := []) F (cGet4 l G N0 h8 g (sw (sw ρ 13 (f13 ρ k9.toNat)) 12 (f12 ρ k9.toNat)) k9 hI8 (show 0 ≤ k9 ∧ k9 < ρ 36 0 from by omega)) cvX5_38 (ci_17 (ρ := (sw (sw ρ 13 (f13 ρ k9.toNat)) 12 (f12 ρ k9.toNat))) hI8) (fun r9 h9 => by cases h9; rfl) rfl rfl ⟨Nat.le_of_ble_eq_true rfl, Nat.le_of_ble_eq_true rfl⟩ rfl ⟨Nat.le_of_ble_eq_true rfl, Nat.le_of_ble_eq_true rfl⟩ dX5_freezePicked_18 ?_
        rintro _ h9 ⟨rfl, hh9⟩
        rw [hh9]
        clear hh9 h9
        show Z _ _ _ _ _ _ _ _ _ _ _ _ _ _ _ _ _ _ _ _ [vR (aE ρ (ρ 35 k9))]
        refine z_cast F (ci_e (ρ := (sw (sw ρ 13 (f13 ρ k9.toNat)) 12 (f12 ρ k9.toNat))) hI8 (show 0 ≤ ρ 35 k9 ∧ ρ 35 k9 < ρ 8 0 ∧ ρ 35 k9 < 100 from by omega)) q260 (fun r9 h9 => by cases h9; rfl) dX5_freezePicked_21 ?_
        refine z_astore_n (lv' := [(2, vR (aE ρ (ρ 35 k9))), (1, vI k9), (0, vR (g 6))]) F dX5_freezePicked_24 rfl (by decide) rfl ?_
        refine z_aload_n F dX5_freezePicked_25 rfl 0 rfl ?_
        refine z_aload_n F dX5_freezePicked_26 rfl 2 rfl ?_
        refine z_get (v := vR (g 2)) F (ci_6 (ρ := (sw (sw ρ 13 (f13 ρ k9.toNat)) 12 (f12 ρ k9.toNat))) hI8) fX5_22 rfl dX5_freezePicked_27 ?_
        refine z_aload_n F dX5_freezePicked_30 rfl 0 rfl ?_
        refine z_callV (As := [vR (aE ρ (ρ 35 k9))]) (st := [vR (aE ρ (ρ 35 k9))]) F (mX6_secondsOf0 l G N0 h8 g (sw (sw ρ 13 (f13 ρ k9.toNat)) 12 (f12 ρ k9.toNat)) (ρ 35 k9) hI8 (show 0 ≤ ρ 35 k9 ∧ ρ 35 k9 < ρ 8 0 from by omega) (show ρ 8 0 ≤ 24 from by omega) (show 0 ≤ (f12 ρ k9.toNat) (ρ 35 k9) ∧ (f12 ρ k9.toNat) (ρ 35 k9) ≤ 200 from by omega)) cvX5_73 (ci_2 (ρ := (sw (sw ρ 13 (f13 ρ k9.toNat)) 12 (f12 ρ k9.toNat))) hI8) (fun r9 h9 => by cases h9; rfl) rfl rfl ⟨Nat.le_of_ble_eq_true rfl, Nat.le_of_ble_eq_true rfl⟩ rfl ⟨Nat.le_of_ble_eq_true rfl, Nat.le_of_ble_eq_true rfl⟩ dX5_freezePicked_31 ?_
        rintro _ h9 ⟨rfl, hh9⟩
        rw [hh9]
        clear hh9 h9
        show Z _ _ _ _ _ _ _ _ _ _ _ _ _ _ _ _ _ _ _ _ [vI (sOf (sw (sw ρ 13 (f13 ρ k9.toNat)) 12 (f12 ρ k9.toNat)) 14 (ρ 35 k9)), vR (aE ρ (ρ 35 k9))]
        obtain ⟨h1, eh1, Ih1⟩ : ∃ z : Hp, hu h8 (aE ρ (ρ 35 k9)) (eO 7 [vI (ρ 35 k9), vR (aC ρ (ρ 9 (ρ 35 k9))), vI (ρ 10 (ρ 35 k9)), vI (ρ 11 (ρ 35 k9)), vI ((f12 ρ k9.toNat) (ρ 35 k9)), vI (sOf (sw (sw ρ 13 (f13 ρ k9.toNat)) 12 (f12 ρ k9.toNat)) 14 (ρ 35 k9))]) = z ∧ CI G g (su (sw (sw ρ 13 (f13 ρ k9.toNat)) 12 (f12 ρ k9.toNat)) 13 (ρ 35 k9) (sOf (sw (sw ρ 13 (f13 ρ k9.toNat)) 12 (f12 ρ k9.toNat)) 14 (ρ 35 k9))) z := ⟨_, rfl, cP13 hI8 (show 0 ≤ ρ 35 k9 ∧ ρ 35 k9 < ρ 8 0 ∧ ρ 35 k9 < 100 from by omega) (by first | (simp [su, sw, fb_fi]; done) | (simp [su, sw, fb_fi]; rfl) | (simp [su, sw, fb_fi]; exact ⟨rfl, rfl⟩))⟩
        refine z_put (fs := [vI (ρ 35 k9), vR (aC ρ (ρ 9 (ρ 35 k9))), vI (ρ 10 (ρ 35 k9)), vI (ρ 11 (ρ 35 k9)), vI ((f12 ρ k9.toNat) (ρ 35 k9)), vI ((f13 ρ k9.toNat) (ρ 35 k9))]) (fs' := [vI (ρ 35 k9), vR (aC ρ (ρ 9 (ρ 35 k9))), vI (ρ 10 (ρ 35 k9)), vI (ρ 11 (ρ 35 k9)), vI ((f12 ρ k9.toNat) (ρ 35 k9)), vI (sOf (sw (sw ρ 13 (f13 ρ k9.toNat)) 12 (f12 ρ k9.toNat)) 14 (ρ 35 k9))]) (h' := h1) F (ci_e (ρ := (sw (sw ρ 13 (f13 ρ k9.toNat)) 12 (f12 ρ k9.toNat))) hI8 (show 0 ≤ ρ 35 k9 ∧ ρ 35 k9 < ρ 8 0 ∧ ρ 35 k9 < 100 from by omega)) fX5_101 ftX2_5 (nf_i _) (Nat.le_of_ble_eq_true rfl) rfl dX5_freezePicked_34 eh1 ?_
        refine z_aload_n F dX5_freezePicked_37 rfl 0 rfl ?_
        refine z_bipush F dX5_freezePicked_38 (by decide) ?_
        obtain ⟨h2, eh2, Ih2⟩ : ∃ z : Hp, hu h1 (aE ρ (ρ 35 k9)) (eO 7 [vI (ρ 35 k9), vR (aC ρ (ρ 9 (ρ 35 k9))), vI (ρ 10 (ρ 35 k9)), vI (ρ 11 (ρ 35 k9)), vI 102, vI (sOf (sw (sw ρ 13 (f13 ρ k9.toNat)) 12 (f12 ρ k9.toNat)) 14 (ρ 35 k9))]) = z ∧ CI G g (su (su (sw (sw ρ 13 (f13 ρ k9.toNat)) 12 (f12 ρ k9.toNat)) 13 (ρ 35 k9) (sOf (sw (sw ρ 13 (f13 ρ k9.toNat)) 12 (f12 ρ k9.toNat)) 14 (ρ 35 k9))) 12 (ρ 35 k9) 102) z := ⟨_, rfl, cP12 Ih1 (show 0 ≤ ρ 35 k9 ∧ ρ 35 k9 < ρ 8 0 ∧ ρ 35 k9 < 100 from by omega) (by first | (simp [su, sw, fb_fi]; done) | (simp [su, sw, fb_fi]; rfl) | (simp [su, sw, fb_fi]; exact ⟨rfl, rfl⟩))⟩
        refine z_put (fs := [vI (ρ 35 k9), vR (aC ρ (ρ 9 (ρ 35 k9))), vI (ρ 10 (ρ 35 k9)), vI (ρ 11 (ρ 35 k9)), vI ((f12 ρ k9.toNat) (ρ 35 k9)), vI (sOf (sw (sw ρ 13 (f13 ρ k9.toNat)) 12 (f12 ρ k9.toNat)) 14 (ρ 35 k9))]) (fs' := [vI (ρ 35 k9), vR (aC ρ (ρ 9 (ρ 35 k9))), vI (ρ 10 (ρ 35 k9)), vI (ρ 11 (ρ 35 k9)), vI 102, vI (sOf (sw (sw ρ 13 (f13 ρ k9.toNat)) 12 (f12 ρ k9.toNat)) 14 (ρ 35 k9))]) (h' := h2) F (show h1 (aE ρ (ρ 35 k9)) = some (eO 7 [vI (ρ 35 k9), vR (aC ρ (ρ 9 (ρ 35 k9))), vI (ρ 10 (ρ 35 k9)), vI (ρ 11 (ρ 35 k9)), vI ((f12 ρ k9.toNat) (ρ 35 k9)), vI (sOf (sw (sw ρ 13 (f13 ρ k9.toNat)) 12 (f12 ρ k9.toNat)) 14 (ρ 35 k9))]) from (ci_e (ρ := (su (sw (sw ρ 13 (f13 ρ k9.toNat)) 12 (f12 ρ k9.toNat)) 13 (ρ 35 k9) (sOf (sw (sw ρ 13 (f13 ρ k9.toNat)) 12 (f12 ρ k9.toNat)) 14 (ρ 35 k9)))) Ih1 (show 0 ≤ ρ 35 k9 ∧ ρ 35 k9 < ρ 8 0 ∧ ρ 35 k9 < 100 from by omega)).trans (congrArg some (by first | (simp [su, sw, fb_fi]; done) | (simp [su, sw, fb_fi]; rfl) | (simp [su, sw, fb_fi]; exact ⟨rfl, rfl⟩)))) fX5_48 ftX2_4 (nf_c (by omega)) (Nat.le_of_ble_eq_true rfl) rfl dX5_freezePicked_40 eh2 ?_
        refine z_iinc (lv' := [(1, vI (k9 + 1)), (2, vR (aE ρ (ρ 35 k9))), (0, vR (g 6))]) F dX5_freezePicked_43 1 rfl (by decide) rfl ?_
        refine z_goto (tgt := 2) F dX5_freezePicked_46 (by decide) ?_
        refine z_pick (lv' := [(1, vI (k9 + 1)), (0, vR (g 6))]) [0, 2] rfl ?_
        exact ih2 (k9 + 1) h2 (CI.eq Ih2 (by rw [hs8]; exact FZ_s ha.1)) (by omega) (by omega)
  exact L2 ((ρ 36 0 - 0 : Int).toNat + 1) 0 h (CI.eq hI (FZ_0 ρ).symm) (by omega) (by omega)
theorem IJ.new {G : GG} {g : Int → Nat} {ρ : Sg} {h h1 h9 : Hp} {c : Int} {q q2 : Nat} {e0 : AE} (H : CI G g ρ h) (hV : MC ρ) (h16 : ρ 16 0 < 8) (hq : h q = none) (e1 : hu h q e0 = h1) (hq2 : h1 q2 = none) (e9 : h9 = hu (hu h1 q2 (eO 4 [vI 0, vR (G.2.2 0), vI 0])) q (eO 8 [vR (aC ρ c), vR q2, vI 0, vF 0])) : ∃ r, IJ G g ρ c [] q r h9 := by
  obtain ⟨v0, v1, v2, v8, v16, v24, v39, vC, vE, vJ, vK, vB, vO⟩ := hV
  have hne : q2 ≠ q := fun z => by rw [z, ← e1, hu_s] at hq2; cases hq2
  have hq3 : h q2 = none := by rw [← e1, hu_n _ _ hne] at hq2; exact hq2
  have b := vB.2.2.2 (ρ 16 0) (Int.le_refl _)
  refine ⟨mkV ρ c (q : Int) (q2 : Int) (G.2.2 0 : Int), mkV_R b.1 b.2, ?_, ?_, LB.nil⟩
  · have e : h9 = hu (hu h q2 (eO 4 [vI 0, vR (G.2.2 0), vI 0])) q (eO 8 [vR (aC ρ c), vR q2, vI 0, vF 0]) := by
      rw [e9, ← e1]
      funext a
      by_cases z : a = q
      · rw [z, hu_s, hu_s]
      · rw [hu_n _ _ z, hu_n _ _ z]
        by_cases y : a = q2
        · rw [y, hu_s, hu_s]
        · rw [hu_n _ _ y, hu_n _ _ y, hu_n _ _ z]
    rw [e]
    exact CI.newInv H v39.1 ⟨v16.1, h16⟩ b.1 b.2 hq hq3 hne
  · show (su ρ 42 (ρ 16 0) (q : Int) 42 (ρ 16 0)).toNat = q
    rw [su_e]
    rfl
theorem ivE_len {ρ : Sg} {c : Int} (hV : MC ρ) (H : OT ρ c 0) : (ivE ρ c).length ≤ 24 := by
  have h8 := hV.2.2.2.1
  have hm := H.1.1
  by_cases q : ρ 5 c = 100
  · show (if ρ 5 c = 100 then _ else _ : List Ln).length ≤ 24
    rw [if_pos q]
    have := dLn_len (ρ 9) (ρ 12) (dyF ρ) (ρ 3 c) (ρ 4 c) c (ρ 8 0).toNat 5
    omega
  · rw [H.ivE hV q, eP_len]
    omega
theorem OT.inK {ρ : Sg} {c wr : Int} (H : OT ρ c wr) (e : Int) : inK (ρ 35) (ρ 36 0).toNat e = 1 ↔ 0 ≤ e ∧ e < ρ 8 0 ∧ blI (ρ 9) (ρ 12) e c wr = 1 := by
  have P := H.1
  have hm := P.1
  rw [inK_iff]
  constructor
  · rintro ⟨q, q1, q2⟩
    have := P.2.1 q q1.1 (by omega)
    rw [q2] at this
    exact ⟨this.1.1, this.1.2, this.2⟩
  · rintro ⟨e0, e1, e2⟩
    obtain ⟨q, q1, q2⟩ := P.2.2.2 e e0 e1 e2
    exact ⟨q, by omega, q2⟩
/-- what an invoice leaves -/
abbrev ivRL (ρ : Sg) (c : Int) (L : List Ln) : Sg := su (su (su (sw (sw (LX (sw (su ρ 18 (ρ 16 0) c) 27 (bl27 ρ c (ρ 24 0))) ρ (ρ 6 c) L) 13 (fx13 ρ c (ρ 8 0))) 12 (st12 ρ c (ρ 8 0))) 16 0 (ρ 16 0 + 1)) 31 (ρ 16 0) (lSum L)) 39 0 (ρ 16 0 + 1)
abbrev ivR (ρ : Sg) (c : Int) : Sg := ivRL ρ c (ivL ρ c)
theorem bl_101 {ow sa : Int → Int} {e c : Int} (h : blI ow sa e c 0 = 1) : sa e = 101 := by
  unfold blI at h
  by_cases z : ow e = c ∧ (sa e = 101 ∨ ((0 : Int) ≠ 0 ∧ sa e = 114))
  · rcases z.2 with w | w
    · exact w
    · exact absurd rfl w.1
  · rw [if_neg z] at h; exact absurd h (by decide)
theorem inv_SA {ρ b r7 r8 r10 : Sg} {c : Int} {L : List Ln} (S5 : SA ρ b) (hO : OT b c 0) (R : IR (sw b 27 (bl27 b c (b 24 0))) c L r7) (e8 : r8 = FZ r7 (r7 36 0).toNat) (hS : SA (su r8 16 0 (r8 16 0 + 1)) r10) : SA (ivRL ρ c L) r10 := by
  obtain ⟨r0, r39, r18, r17, ⟨r19, r21, r20, r22, r23⟩, r31, r41, rr⟩ := R
  have e36 : r7 36 = b 36 := r0 36 rfl
  have e35 : r7 35 = b 35 := r0 35 rfl
  have e12 : r7 12 = b 12 := r0 12 rfl
  have e13 : r7 13 = b 13 := r0 13 rfl
  have e14 : r7 14 = b 14 := r0 14 rfl
  have e16 : r7 16 = b 16 := r0 16 rfl
  have b6 : b 6 = ρ 6 := S5 6 rfl
  have b8 : b 8 = ρ 8 := S5 8 rfl
  have b9 : b 9 = ρ 9 := S5 9 rfl
  have b12 : b 12 = ρ 12 := S5 12 rfl
  have b13 : b 13 = ρ 13 := S5 13 rfl
  have b16 : b 16 = ρ 16 := S5 16 rfl
  have b24 : b 24 = ρ 24 := S5 24 rfl
  have b25 : b 25 = ρ 25 := S5 25 rfl
  have b27 : b 27 = ρ 27 := S5 27 rfl
  intro k hk
  rw [hS k hk, e8]
  have kk : k = 12 ∨ k = 13 ∨ k = 16 ∨ k = 17 ∨ k = 18 ∨ k = 19 ∨ k = 20 ∨ k = 21 ∨ k = 22 ∨ k = 23 ∨ k = 27 ∨ k = 31 ∨ k = 39 ∨ (k ≠ 12 ∧ k ≠ 13 ∧ k ≠ 16 ∧ k ≠ 17 ∧ k ≠ 18 ∧ k ≠ 19 ∧ k ≠ 20 ∧ k ≠ 21 ∧ k ≠ 22 ∧ k ≠ 23 ∧ k ≠ 27 ∧ k ≠ 31 ∧ k ≠ 39) := by omega
  rcases kk with rfl | rfl | rfl | rfl | rfl | rfl | rfl | rfl | rfl | rfl | rfl | rfl | rfl | n
  · funext e
    show f12 r7 (r7 36 0).toNat e = st12 ρ c (ρ 8 0) e
    unfold f12 st12
    rw [e35, e36, e12, ← b8, ← b9, ← b12]
    by_cases z : inK (b 35) (b 36 0).toNat e = 1
    · rw [if_pos z, if_pos ((hO.inK e).mp z)]
    · rw [if_neg z, if_neg (fun w => z ((hO.inK e).mpr w))]
  · funext e
    show f13 r7 (r7 36 0).toNat e = fx13 ρ c (ρ 8 0) e
    unfold f13 fx13
    rw [e35, e36, e13, e14, ← b8, ← b9, ← b12, ← b13, ← secS_r S5.c]
    by_cases z : inK (b 35) (b 36 0).toNat e = 1
    · have w := (hO.inK e).mp z
      have h1 := hO.2.1 e w.1 w.2.1
      unfold sOf at h1
      rw [if_neg (by rw [bl_101 w.2.2]; decide)] at h1
      rw [if_pos z, if_pos w, h1]
    · rw [if_neg z, if_neg (fun w => z ((hO.inK e).mpr w))]
  · funext j
    show (if j = 0 then r7 16 0 + 1 else r7 16 j) = (if j = 0 then ρ 16 0 + 1 else ρ 16 j)
    rw [e16, b16]
  · show r7 17 = u17 ρ L
    rw [show r7 17 = u17 b L from r17]
    unfold u17
    rw [b16, S5 17 rfl]
  · show r7 18 = _
    rw [r18]
    funext j
    show (if j = b 16 0 then c else b 18 j) = (if j = ρ 16 0 then c else ρ 18 j)
    rw [b16, S5 18 rfl]
  · show r7 19 = u19 ρ L
    rw [show r7 19 = u19 b L from r19]
    unfold u19
    rw [b16, S5 19 rfl]
  · show r7 20 = u20 ρ L
    rw [show r7 20 = u20 b L from r20]
    unfold u20
    rw [b16, S5 20 rfl]
  · show r7 21 = u21 ρ L
    rw [show r7 21 = u21 b L from r21]
    unfold u21
    rw [b16, S5 21 rfl]
  · show r7 22 = u22 ρ (ρ 6 c) L
    rw [show r7 22 = u22 b (b 6 c) L from r22]
    unfold u22
    rw [b16, b6, S5 22 rfl]
  · show r7 23 = u23 ρ (ρ 6 c) L
    rw [show r7 23 = u23 b (b 6 c) L from r23]
    unfold u23
    rw [b16, b6, S5 23 rfl]
  · show r7 27 = bl27 ρ c (ρ 24 0)
    rw [r0 27 rfl]
    show bl27 b c (b 24 0) = _
    funext j
    unfold bl27
    rw [b24, b27, b9, b25]
  · show r7 31 = (fun j => if j = ρ 16 0 then lSum L else ρ 31 j)
    rw [r31]
    funext j
    show (if j = b 16 0 then _ else b 31 j) = _
    rw [b16, S5 31 rfl]
  · show r7 39 = (fun j => if j = 0 then ρ 16 0 + 1 else ρ 39 j)
    rw [r39]
    funext j
    show (if j = 0 then b 16 0 + 1 else b 39 j) = _
    rw [b16, S5 39 rfl]
  · obtain ⟨n12, n13, n16, n17, n18, n19, n20, n21, n22, n23, n27, n31, n39⟩ := n
    have hB : iB k = false := by
      unfold scrB adB at hk
      unfold iB
      simp at hk ⊢
      omega
    have hS5 := S5 k hk
    funext j
    show su (sw (sw r7 13 _) 12 _) 16 0 _ k j = su (su (su (sw (sw (sw (sw (sw (sw (sw (sw (sw (su ρ 18 _ _) 27 _) 19 _) 21 _) 20 _) 22 _) 23 _) 17 _) 13 _) 12 _) 16 _ _) 31 _ _) 39 _ _ k j
    rw [su_n n16, sw_n n12, sw_n n13, r0 k hB, sw_n n27, hS5]
    rw [su_n n39, su_n n31, su_n n16, sw_n n12, sw_n n13, sw_n n17, sw_n n23, sw_n n22, sw_n n20, sw_n n21, sw_n n19, sw_n n27, su_n n18]
set_option maxRecDepth 100000 in
set_option maxHeartbeats 4000000 in
theorem mX8_invoice (l : Launch) (G : GG) (N0 : Nat) (h : Hp) (hl9 : l.stackTraces = false) (g : Int → Nat) (ρ : Sg) (c9 : Int) (hI : CI G g ρ h) (hV : MC ρ) (r_c9 : -2147483648 ≤ c9 ∧ c9 < 2147483648) : CtX l G N0 yX8_invoice (Cond.code yX8_invoice cX8_invoice 4 (some FieldType.int) :: LW) ({ frames := 12, cells := 110, slots := 6700, locals := 700 }) [vR (g 0), vI c9] h (fun r h' => ¬ (¬ (0 ≤ c9 ∧ c9 < ρ 2 0)) ∧ ¬ (ρ 16 0 = 8 ∨ (bhF (ρ 9) (ρ 12) (ρ 10) c9 (-1) 0 (ρ 8 0).toNat < 0 ∧ hcF ρ c9 (ρ 24 0).toNat = 0)) ∧ ∃ ρ', r = some (vI (ρ 16 0)) ∧ SA (ivR ρ c9) ρ' ∧ CI G g ρ' h') (fun E h' => ∃ ρ', SA ρ ρ' ∧ CI G g ρ' h' ∧ ((E = "java/lang/IndexOutOfBoundsException" ∧ (¬ (0 ≤ c9 ∧ c9 < ρ 2 0))) ∨ (E = "java/lang/IllegalStateException" ∧ ¬ (¬ (0 ≤ c9 ∧ c9 < ρ 2 0)) ∧ (ρ 16 0 = 8 ∨ (bhF (ρ 9) (ρ 12) (ρ 10) c9 (-1) 0 (ρ 8 0).toNat < 0 ∧ hcF ρ c9 (ρ 24 0).toNat = 0))))) := by
  refine ctX_of rfl rfl ?_
  intro p e s m args below meth c F hr htab
  have F : Fx p s m args meth c RX8 cX8_invoice 4 G N0 (cA h s.heap.size) := F
  obtain ⟨v0, v1, v2, v8, v16, v24, v39, vC, vE, vJ, vK, vB, vO⟩ := id hV
  show Z _ _ _ _ _ _ _ _ _ _ _ _ _ _ _ _ _ _ _ [(0, vR (g 0)), (1, vI c9)] []
  refine z_aload_n F dX8_invoice_0 rfl 0 rfl ?_
  refine z_iload_n F dX8_invoice_1 rfl 1 rfl ?_
  refine z_xcallV (As := [vI c9]) (st := []) F htab (mX8_clientAt l G N0 h hl9 g ρ c9 hI hV (by omega)) cvX8_105 (ci_0 hI) (fun r9 h9 => by cases h9; rfl) rfl rfl ⟨Nat.le_of_ble_eq_true rfl, Nat.le_of_ble_eq_true rfl⟩ rfl ⟨Nat.le_of_ble_eq_true rfl, Nat.le_of_ble_eq_true rfl⟩ dX8_invoice_2 (fun E h9 hx => by obtain ⟨e1, rfl⟩ := hx; refine ⟨ρ, SA.refl _, hI, ?_⟩; obtain ⟨rfl, e2⟩ := e1; first | exact Or.inl ⟨rfl, by omega⟩ | exact Or.inr (⟨rfl, by omega, by omega⟩)) (Nat.le_of_ble_eq_true rfl) (Nat.le_of_ble_eq_true rfl) ?_
  rintro _ h9 ⟨f2_0, rfl, hh9⟩
  rw [hh9]
  clear hh9 h9
  show Z _ _ _ _ _ _ _ _ _ _ _ _ _ _ _ _ _ _ _ _ [vR (aC ρ c9)]
  refine z_astore_n (lv' := [(2, vR (aC ρ c9)), (0, vR (g 0)), (1, vI c9)]) F dX8_invoice_5 rfl (by decide) rfl ?_
  refine z_aload_n F dX8_invoice_6 rfl 1 rfl ?_
  refine z_get (v := vR (g 9)) F (ci_0 hI) fX8_44 rfl dX8_invoice_7 ?_
  refine z_callV (As := []) (st := []) F (mJx4a65c_size_8abf5 l G N0 h (g 9) ((ρ 40 1).toNat) 0 (ρ 32 1) (ρ 16 0) (fun _ => none) (ci_9 hI)) cvX8_90 (ci_9 hI) (fun r9 h9 => by cases h9; rfl) rfl rfl ⟨Nat.le_of_ble_eq_true rfl, Nat.le_of_ble_eq_true rfl⟩ rfl ⟨Nat.le_of_ble_eq_true rfl, Nat.le_of_ble_eq_true rfl⟩ dX8_invoice_10 ?_
  rintro _ h9 ⟨rfl, hh9⟩
  rw [hh9]
  clear hh9 h9
  show Z _ _ _ _ _ _ _ _ _ _ _ _ _ _ _ _ _ _ _ _ [vI (ρ 16 0)]
  refine z_bipush F dX8_invoice_13 (by decide) ?_
  refine z_icmp_lt (tgt := 28) F dX8_invoice_15 (by decide) (by omega) (by decide) (fun c15 => ?_) (fun c15 => ?_)
  · refine z_aload_n F dX8_invoice_28 rfl 1 rfl ?_
    refine z_get (v := vR (g 6)) F (ci_0 hI) fX8_33 rfl dX8_invoice_29 ?_
    refine z_aload_n F dX8_invoice_32 rfl 0 rfl ?_
    refine z_iconst F dX8_invoice_33 ?_
    refine z_callV (As := [vR (aC ρ c9), vI 0]) (st := []) F (mX5_pick l G N0 h g ρ c9 0 hI hV (by omega) (Or.inl rfl)) cvX8_218 (ci_6 hI) (fun r9 h9 => by cases h9; rfl) rfl rfl ⟨Nat.le_of_ble_eq_true rfl, Nat.le_of_ble_eq_true rfl⟩ rfl ⟨Nat.le_of_ble_eq_true rfl, Nat.le_of_ble_eq_true rfl⟩ dX8_invoice_34 ?_
    rintro _ h5 ⟨rfl, a5, I5, O5⟩
    obtain ⟨b9, hb9⟩ : ∃ z, z = mx ρ a5 := ⟨_, rfl⟩
    rw [← hb9] at I5 O5
    have Q5 : SQ ρ b9 := by rw [hb9]; exact mx_sq ρ a5
    have S5 : SA ρ b9 := Q5.sa
    have V5 : MC b9 := MC.sa S5 hV
    have f2 : b9 2 = ρ 2 := S5 2 rfl
    have m2 : b9 2 0 = ρ 2 0 := congrFun f2 0
    have f5 : b9 5 = ρ 5 := S5 5 rfl
    have m5 : b9 5 0 = ρ 5 0 := congrFun f5 0
    have f8 : b9 8 = ρ 8 := S5 8 rfl
    have m8 : b9 8 0 = ρ 8 0 := congrFun f8 0
    have f16 : b9 16 = ρ 16 := S5 16 rfl
    have m16 : b9 16 0 = ρ 16 0 := congrFun f16 0
    have f24 : b9 24 = ρ 24 := S5 24 rfl
    have m24 : b9 24 0 = ρ 24 0 := congrFun f24 0
    obtain ⟨u0, u1, u2, u8, u16, u24, u39, uC, uE, uJ, uK, uB, uO⟩ := id V5
    have hci5 := hcF_in b9 c9 (b9 24 0).toNat
    have hc5 : 0 ≤ c9 ∧ c9 < b9 2 0 := by rw [f2]; omega
    have hcf5 : hcF b9 c9 (b9 24 0).toNat = hcF ρ c9 (ρ 24 0).toNat := by rw [hcF_r S5.c, f24]
    have C5 := uC c9 hc5.1 hc5.2
    have P5 := O5.pk V5.2.2.2.1.1
    have hm5 := O5.1.1
    have hbz5 : bhF (ρ 9) (ρ 12) (ρ 10) c9 (-1) 0 (ρ 8 0).toNat < 0 ↔ b9 36 0 = 0 := by
      have hb := P5.bh (k := -1) (by omega) (by omega) (e := -1) (by rw [if_pos rfl]; decide)
      rw [S5 9 rfl, S5 12 rfl, S5 10 rfl, f8] at hb
      rw [hb]
      by_cases z : (-1 : Int) + 1 < b9 36 0
      · rw [if_pos z]
        have := (P5.2.1 (-1 + 1) (by omega) z).1.1
        omega
      · rw [if_neg z]
        omega
    have a45 : aC ρ c9 = aC b9 c9 := by unfold aC; rw [Q5 45 rfl]
    rw [a45]
    show Z _ _ _ _ _ _ _ _ _ _ _ _ _ _ _ _ _ _ _ _ []
    refine z_aload_n F dX8_invoice_37 rfl 1 rfl ?_
    refine z_get (v := vR (g 6)) F (ci_0 I5) fX8_33 rfl dX8_invoice_38 ?_
    refine z_get (v := vR (g 17)) F (ci_6 I5) fX8_251 rfl dX8_invoice_41 ?_
    refine z_callV (As := []) (st := []) F (mJx4a65c_isEmpty_aae02 l G N0 h5 (g 17) ((b9 40 4).toNat) 0 (b9 32 4) (b9 36 0) (fun _ => none) (ci_17 I5) (by omega)) cvX8_254 (ci_17 I5) (fun r9 h9 => by cases h9; rfl) rfl rfl ⟨Nat.le_of_ble_eq_true rfl, Nat.le_of_ble_eq_true rfl⟩ rfl ⟨Nat.le_of_ble_eq_true rfl, Nat.le_of_ble_eq_true rfl⟩ dX8_invoice_44 ?_
    rintro _ h9 ⟨rfl, hh9⟩
    rw [hh9]
    clear hh9 h9
    generalize ex1 : (if b9 36 0 = 0 then (1 : Int) else 0) = x1
    show Z _ _ _ _ _ _ _ _ _ _ _ _ _ _ _ _ _ _ _ _ [vI x1]
    refine z_if_eq (tgt := 69) F dX8_invoice_47 (by decide) (by omega) (fun c47 => ?_) (fun c47 => ?_)
    · refine z_new (N := 4) F nwX8_264 (fun r9 h9 => by cases h9; rfl) (Nat.le_of_ble_eq_true rfl) (Nat.le_of_ble_eq_true rfl) dX8_invoice_69 (fun ad2 fad2 => ?_)
      obtain ⟨h3, eh3, Ih3⟩ : ∃ z : Hp, hu h5 ad2 (eO 8 [vN, vN, vI 0, vF 0]) = z ∧ CI G g b9 z := ⟨_, rfl, CI.fresh I5 fad2 _⟩
      rw [eh3]
      have g4 : h3 ad2 = some (eO 8 [vN, vN, vI 0, vF 0]) := by rw [← eh3]; exact hu_s _ _ _
      refine z_dup F dX8_invoice_72 rfl ?_
      refine z_aload_n F dX8_invoice_73 rfl 0 rfl ?_
      refine z_callI (rm := { frames := 4, cells := 1, slots := 3, locals := 220 }) (As := [vR (aC b9 c9)]) (st := [vR ad2]) F (mX3_init l G N0 h3 ad2 (aC b9 c9) (g4)) ciX8_266 rfl rfl ⟨Nat.le_of_ble_eq_true rfl, Nat.le_of_ble_eq_true rfl⟩ rfl ⟨Nat.le_of_ble_eq_true rfl, Nat.le_of_ble_eq_true rfl⟩ dX8_invoice_74 ?_
      rintro _ h9 ⟨rfl, q2, fq2, k9⟩
      have h165 : b9 16 0 < 8 := by rw [f16]; omega
      have H5 := V5.ih hc5 h165
      obtain ⟨r5, J5⟩ := IJ.new I5 V5 h165 fad2 eh3 fq2 k9
      have I7 := J5.ci H5
      show Z _ _ _ _ _ _ _ _ _ _ _ _ _ _ _ _ _ _ _ _ [vR ad2]
      refine z_astore_n (lv' := [(3, vR ad2), (2, vR (aC b9 c9)), (0, vR (g 0)), (1, vI c9)]) F dX8_invoice_77 rfl (by decide) rfl ?_
      refine z_aload_n F dX8_invoice_78 rfl 1 rfl ?_
      refine z_get (v := vI (b9 5 c9)) F (ci_c I7 (show 0 ≤ c9 ∧ c9 < b9 2 0 ∧ c9 < 100 from by omega)) fX8_115 rfl dX8_invoice_79 ?_
      refine z_bipush F dX8_invoice_82 (by decide) ?_
      refine z_icmp_ne (tgt := 95) F dX8_invoice_84 (by decide) (by omega) (by decide) (fun c84 => ?_) (fun c84 => ?_)
      · refine z_aload_n F dX8_invoice_95 rfl 2 rfl ?_
        refine z_aload_n F dX8_invoice_96 rfl 0 rfl ?_
        refine z_callV (As := [vR ad2]) (st := []) F (mX8_addEntryLines l G N0 h9 g b9 r5 c9 ad2 V5 hc5 h165 J5 O5 (by omega)) cvX8_273 (ci_0 I7) (fun r9 h9 => by cases h9; rfl) rfl rfl ⟨Nat.le_of_ble_eq_true rfl, Nat.le_of_ble_eq_true rfl⟩ rfl ⟨Nat.le_of_ble_eq_true rfl, Nat.le_of_ble_eq_true rfl⟩ dX8_invoice_97 ?_
        rintro _ h10 ⟨rfl, r6, J6⟩
        have I8 := J6.ci H5
        show Z _ _ _ _ _ _ _ _ _ _ _ _ _ _ _ _ _ _ _ _ []
        refine z_aload_n F dX8_invoice_100 rfl 2 rfl ?_
        refine z_aload_n F dX8_invoice_101 rfl 0 rfl ?_
        refine z_callV (As := [vR ad2]) (st := []) F (mX8_addCorrectionLines l G N0 h10 g b9 r6 c9 ad2 (ivE b9 c9) V5 hc5 h165 J6 (ivE_len V5 O5)) cvX8_276 (ci_0 I8) (fun r9 h9 => by cases h9; rfl) rfl rfl ⟨Nat.le_of_ble_eq_true rfl, Nat.le_of_ble_eq_true rfl⟩ rfl ⟨Nat.le_of_ble_eq_true rfl, Nat.le_of_ble_eq_true rfl⟩ dX8_invoice_102 ?_
        rintro _ h11 ⟨rfl, r7, J7⟩
        have I9 := J7.2.1
        have R7 := J7.1.1
        have g8 : r7 8 = b9 8 := R7 8 rfl
        have g12 : r7 12 = b9 12 := R7 12 rfl
        have g16 : r7 16 = b9 16 := R7 16 rfl
        have g35 : r7 35 = b9 35 := R7 35 rfl
        have g36 : r7 36 = b9 36 := R7 36 rfl
        show Z _ _ _ _ _ _ _ _ _ _ _ _ _ _ _ _ _ _ _ _ []
        refine z_aload_n F dX8_invoice_105 rfl 2 rfl ?_
        refine z_get (v := vR (g 6)) F (ci_0 I9) fX8_33 rfl dX8_invoice_106 ?_
        refine z_callV (As := []) (st := []) F (mX5_freezePicked l G N0 h11 g r7 I9 (by rw [g8, f8]; omega) (by rw [g36]; omega) (fun q q0 q1 => by rw [g36] at q1; have w := O5.ow q0 q1; rw [g35, g8, g12]; exact ⟨w.1, by omega⟩) (fun a b a0 ab bm => by rw [g36] at bm; rw [g35]; exact P5.inj a0 ab bm)) cvX8_279 (ci_6 I9) (fun r9 h9 => by cases h9; rfl) rfl rfl ⟨Nat.le_of_ble_eq_true rfl, Nat.le_of_ble_eq_true rfl⟩ rfl ⟨Nat.le_of_ble_eq_true rfl, Nat.le_of_ble_eq_true rfl⟩ dX8_invoice_109 ?_
        rintro _ h12 ⟨rfl, I12⟩
        obtain ⟨r8, e8⟩ : ∃ z, z = FZ r7 (r7 36 0).toNat := ⟨_, rfl⟩
        rw [← e8] at I12
        have e16 : r8 16 0 = b9 16 0 := by rw [e8]; exact congrFun g16 0
        have e39 : r8 39 0 = b9 16 0 + 1 := by rw [e8]; exact congrFun J7.1.2.1 0
        have e42 : aI r8 (r8 16 0) = ad2 := by rw [e16, e8]; exact J7.2.2.1
        show Z _ _ _ _ _ _ _ _ _ _ _ _ _ _ _ _ _ _ _ _ []
        refine z_aload_n F dX8_invoice_112 rfl 2 rfl ?_
        refine z_get (v := vR (g 9)) F (ci_0 I12) fX8_44 rfl dX8_invoice_113 ?_
        refine z_aload_n F dX8_invoice_116 rfl 0 rfl ?_
        refine z_callV (As := [vR ad2]) (st := []) F (cAddI l G N0 h12 g r8 ad2 I12 (by rw [← e42]; exact ci_i I12 (by omega)) e42.symm (by omega) (by omega)) cvX8_101 (ci_9 I12) (fun r9 h9 => by cases h9; rfl) rfl rfl ⟨Nat.le_of_ble_eq_true rfl, Nat.le_of_ble_eq_true rfl⟩ rfl ⟨Nat.le_of_ble_eq_true rfl, Nat.le_of_ble_eq_true rfl⟩ dX8_invoice_117 ?_
        rintro _ h13 ⟨rfl, r13, S13, I13⟩
        have T13 := inv_SA (ρ := ρ) S5 O5 J7.1 e8 S13
        rw [show ivE b9 c9 ++ cLn (b9 27) (b9 9) (b9 25) (b9 26) c9 (b9 24 0).toNat = ivL ρ c9 from ivL_r S5.c c9] at T13
        have e13 : r13 16 0 = ρ 16 0 + 1 := by rw [T13 16 rfl]; rfl
        show Z _ _ _ _ _ _ _ _ _ _ _ _ _ _ _ _ _ _ _ _ [vI 1]
        refine z_pop F dX8_invoice_120 rfl ?_
        refine z_aload_n F dX8_invoice_121 rfl 2 rfl ?_
        refine z_get (v := vR (g 9)) F (ci_0 I13) fX8_44 rfl dX8_invoice_122 ?_
        refine z_callV (As := []) (st := []) F (mJx4a65c_size_8abf5 l G N0 h13 (g 9) ((r13 40 1).toNat) 0 (r13 32 1) (r13 16 0) (fun _ => none) (ci_9 I13)) cvX8_90 (ci_9 I13) (fun r9 h9 => by cases h9; rfl) rfl rfl ⟨Nat.le_of_ble_eq_true rfl, Nat.le_of_ble_eq_true rfl⟩ rfl ⟨Nat.le_of_ble_eq_true rfl, Nat.le_of_ble_eq_true rfl⟩ dX8_invoice_125 ?_
        rintro _ h9 ⟨rfl, hh9⟩
        rw [hh9]
        clear hh9 h9
        show Z _ _ _ _ _ _ _ _ _ _ _ _ _ _ _ _ _ _ _ _ [vI (r13 16 0)]
        refine z_iconst F dX8_invoice_128 ?_
        refine z_isub F dX8_invoice_129 ?_
        exact z_iretX (nf_i _) F hr (Nat.le_of_ble_eq_true rfl) (Nat.le_of_ble_eq_true rfl) dX8_invoice_130 (⟨by omega, by omega, r13, rI (by first | rfl | omega), T13, I13⟩)
      · refine z_aload_n F dX8_invoice_87 rfl 2 rfl ?_
        refine z_aload_n F dX8_invoice_88 rfl 0 rfl ?_
        refine z_callV (As := [vR ad2]) (st := []) F (mX8_addDayLines l G N0 h9 g b9 r5 c9 ad2 V5 hc5 h165 J5 O5 (by omega)) cvX8_269 (ci_0 I7) (fun r9 h9 => by cases h9; rfl) rfl rfl ⟨Nat.le_of_ble_eq_true rfl, Nat.le_of_ble_eq_true rfl⟩ rfl ⟨Nat.le_of_ble_eq_true rfl, Nat.le_of_ble_eq_true rfl⟩ dX8_invoice_89 ?_
        rintro _ h10 ⟨rfl, r6, J6⟩
        have I8 := J6.ci H5
        show Z _ _ _ _ _ _ _ _ _ _ _ _ _ _ _ _ _ _ _ _ []
        refine z_goto (tgt := 100) F dX8_invoice_92 (by decide) ?_
        refine z_aload_n F dX8_invoice_100 rfl 2 rfl ?_
        refine z_aload_n F dX8_invoice_101 rfl 0 rfl ?_
        refine z_callV (As := [vR ad2]) (st := []) F (mX8_addCorrectionLines l G N0 h10 g b9 r6 c9 ad2 (ivE b9 c9) V5 hc5 h165 J6 (ivE_len V5 O5)) cvX8_276 (ci_0 I8) (fun r9 h9 => by cases h9; rfl) rfl rfl ⟨Nat.le_of_ble_eq_true rfl, Nat.le_of_ble_eq_true rfl⟩ rfl ⟨Nat.le_of_ble_eq_true rfl, Nat.le_of_ble_eq_true rfl⟩ dX8_invoice_102 ?_
        rintro _ h11 ⟨rfl, r7, J7⟩
        have I9 := J7.2.1
        have R7 := J7.1.1
        have g8 : r7 8 = b9 8 := R7 8 rfl
        have g12 : r7 12 = b9 12 := R7 12 rfl
        have g16 : r7 16 = b9 16 := R7 16 rfl
        have g35 : r7 35 = b9 35 := R7 35 rfl
        have g36 : r7 36 = b9 36 := R7 36 rfl
        show Z _ _ _ _ _ _ _ _ _ _ _ _ _ _ _ _ _ _ _ _ []
        refine z_aload_n F dX8_invoice_105 rfl 2 rfl ?_
        refine z_get (v := vR (g 6)) F (ci_0 I9) fX8_33 rfl dX8_invoice_106 ?_
        refine z_callV (As := []) (st := []) F (mX5_freezePicked l G N0 h11 g r7 I9 (by rw [g8, f8]; omega) (by rw [g36]; omega) (fun q q0 q1 => by rw [g36] at q1; have w := O5.ow q0 q1; rw [g35, g8, g12]; exact ⟨w.1, by omega⟩) (fun a b a0 ab bm => by rw [g36] at bm; rw [g35]; exact P5.inj a0 ab bm)) cvX8_279 (ci_6 I9) (fun r9 h9 => by cases h9; rfl) rfl rfl ⟨Nat.le_of_ble_eq_true rfl, Nat.le_of_ble_eq_true rfl⟩ rfl ⟨Nat.le_of_ble_eq_true rfl, Nat.le_of_ble_eq_true rfl⟩ dX8_invoice_109 ?_
        rintro _ h12 ⟨rfl, I12⟩
        obtain ⟨r8, e8⟩ : ∃ z, z = FZ r7 (r7 36 0).toNat := ⟨_, rfl⟩
        rw [← e8] at I12
        have e16 : r8 16 0 = b9 16 0 := by rw [e8]; exact congrFun g16 0
        have e39 : r8 39 0 = b9 16 0 + 1 := by rw [e8]; exact congrFun J7.1.2.1 0
        have e42 : aI r8 (r8 16 0) = ad2 := by rw [e16, e8]; exact J7.2.2.1
        show Z _ _ _ _ _ _ _ _ _ _ _ _ _ _ _ _ _ _ _ _ []
        refine z_aload_n F dX8_invoice_112 rfl 2 rfl ?_
        refine z_get (v := vR (g 9)) F (ci_0 I12) fX8_44 rfl dX8_invoice_113 ?_
        refine z_aload_n F dX8_invoice_116 rfl 0 rfl ?_
        refine z_callV (As := [vR ad2]) (st := []) F (cAddI l G N0 h12 g r8 ad2 I12 (by rw [← e42]; exact ci_i I12 (by omega)) e42.symm (by omega) (by omega)) cvX8_101 (ci_9 I12) (fun r9 h9 => by cases h9; rfl) rfl rfl ⟨Nat.le_of_ble_eq_true rfl, Nat.le_of_ble_eq_true rfl⟩ rfl ⟨Nat.le_of_ble_eq_true rfl, Nat.le_of_ble_eq_true rfl⟩ dX8_invoice_117 ?_
        rintro _ h13 ⟨rfl, r13, S13, I13⟩
        have T13 := inv_SA (ρ := ρ) S5 O5 J7.1 e8 S13
        rw [show ivE b9 c9 ++ cLn (b9 27) (b9 9) (b9 25) (b9 26) c9 (b9 24 0).toNat = ivL ρ c9 from ivL_r S5.c c9] at T13
        have e13 : r13 16 0 = ρ 16 0 + 1 := by rw [T13 16 rfl]; rfl
        show Z _ _ _ _ _ _ _ _ _ _ _ _ _ _ _ _ _ _ _ _ [vI 1]
        refine z_pop F dX8_invoice_120 rfl ?_
        refine z_aload_n F dX8_invoice_121 rfl 2 rfl ?_
        refine z_get (v := vR (g 9)) F (ci_0 I13) fX8_44 rfl dX8_invoice_122 ?_
        refine z_callV (As := []) (st := []) F (mJx4a65c_size_8abf5 l G N0 h13 (g 9) ((r13 40 1).toNat) 0 (r13 32 1) (r13 16 0) (fun _ => none) (ci_9 I13)) cvX8_90 (ci_9 I13) (fun r9 h9 => by cases h9; rfl) rfl rfl ⟨Nat.le_of_ble_eq_true rfl, Nat.le_of_ble_eq_true rfl⟩ rfl ⟨Nat.le_of_ble_eq_true rfl, Nat.le_of_ble_eq_true rfl⟩ dX8_invoice_125 ?_
        rintro _ h9 ⟨rfl, hh9⟩
        rw [hh9]
        clear hh9 h9
        show Z _ _ _ _ _ _ _ _ _ _ _ _ _ _ _ _ _ _ _ _ [vI (r13 16 0)]
        refine z_iconst F dX8_invoice_128 ?_
        refine z_isub F dX8_invoice_129 ?_
        exact z_iretX (nf_i _) F hr (Nat.le_of_ble_eq_true rfl) (Nat.le_of_ble_eq_true rfl) dX8_invoice_130 (⟨by omega, by omega, r13, rI (by first | rfl | omega), T13, I13⟩)
    · refine z_aload_n F dX8_invoice_50 rfl 1 rfl ?_
      refine z_aload_n F dX8_invoice_51 rfl 0 rfl ?_
      refine z_callV (As := [vR (aC b9 c9)]) (st := []) F (mX8_hasWaitingCorrection l G N0 h5 g b9 c9 I5 V5 hc5) cvX8_258 (ci_0 I5) (fun r9 h9 => by cases h9; rfl) rfl rfl ⟨Nat.le_of_ble_eq_true rfl, Nat.le_of_ble_eq_true rfl⟩ rfl ⟨Nat.le_of_ble_eq_true rfl, Nat.le_of_ble_eq_true rfl⟩ dX8_invoice_52 ?_
      rintro _ h9 ⟨rfl, hh9⟩
      rw [hh9]
      clear hh9 h9
      show Z _ _ _ _ _ _ _ _ _ _ _ _ _ _ _ _ _ _ _ _ [vI (hcF b9 c9 (b9 24 0).toNat)]
      refine z_if_ne (tgt := 69) F dX8_invoice_55 (by decide) (by omega) (fun c55 => ?_) (fun c55 => ?_)
      · refine z_new (N := 4) F nwX8_264 (fun r9 h9 => by cases h9; rfl) (Nat.le_of_ble_eq_true rfl) (Nat.le_of_ble_eq_true rfl) dX8_invoice_69 (fun ad5 fad5 => ?_)
        obtain ⟨h6, eh6, Ih6⟩ : ∃ z : Hp, hu h5 ad5 (eO 8 [vN, vN, vI 0, vF 0]) = z ∧ CI G g b9 z := ⟨_, rfl, CI.fresh I5 fad5 _⟩
        rw [eh6]
        have g7 : h6 ad5 = some (eO 8 [vN, vN, vI 0, vF 0]) := by rw [← eh6]; exact hu_s _ _ _
        refine z_dup F dX8_invoice_72 rfl ?_
        refine z_aload_n F dX8_invoice_73 rfl 0 rfl ?_
        refine z_callI (rm := { frames := 4, cells := 1, slots := 3, locals := 220 }) (As := [vR (aC b9 c9)]) (st := [vR ad5]) F (mX3_init l G N0 h6 ad5 (aC b9 c9) (g7)) ciX8_266 rfl rfl ⟨Nat.le_of_ble_eq_true rfl, Nat.le_of_ble_eq_true rfl⟩ rfl ⟨Nat.le_of_ble_eq_true rfl, Nat.le_of_ble_eq_true rfl⟩ dX8_invoice_74 ?_
        rintro _ h9 ⟨rfl, q2, fq2, k9⟩
        have h165 : b9 16 0 < 8 := by rw [f16]; omega
        have H5 := V5.ih hc5 h165
        obtain ⟨r5, J5⟩ := IJ.new I5 V5 h165 fad5 eh6 fq2 k9
        have I7 := J5.ci H5
        show Z _ _ _ _ _ _ _ _ _ _ _ _ _ _ _ _ _ _ _ _ [vR ad5]
        refine z_astore_n (lv' := [(3, vR ad5), (2, vR (aC b9 c9)), (0, vR (g 0)), (1, vI c9)]) F dX8_invoice_77 rfl (by decide) rfl ?_
        refine z_aload_n F dX8_invoice_78 rfl 1 rfl ?_
        refine z_get (v := vI (b9 5 c9)) F (ci_c I7 (show 0 ≤ c9 ∧ c9 < b9 2 0 ∧ c9 < 100 from by omega)) fX8_115 rfl dX8_invoice_79 ?_
        refine z_bipush F dX8_invoice_82 (by decide) ?_
        refine z_icmp_ne (tgt := 95) F dX8_invoice_84 (by decide) (by omega) (by decide) (fun c84 => ?_) (fun c84 => ?_)
        · refine z_aload_n F dX8_invoice_95 rfl 2 rfl ?_
          refine z_aload_n F dX8_invoice_96 rfl 0 rfl ?_
          refine z_callV (As := [vR ad5]) (st := []) F (mX8_addEntryLines l G N0 h9 g b9 r5 c9 ad5 V5 hc5 h165 J5 O5 (by omega)) cvX8_273 (ci_0 I7) (fun r9 h9 => by cases h9; rfl) rfl rfl ⟨Nat.le_of_ble_eq_true rfl, Nat.le_of_ble_eq_true rfl⟩ rfl ⟨Nat.le_of_ble_eq_true rfl, Nat.le_of_ble_eq_true rfl⟩ dX8_invoice_97 ?_
          rintro _ h10 ⟨rfl, r6, J6⟩
          have I8 := J6.ci H5
          show Z _ _ _ _ _ _ _ _ _ _ _ _ _ _ _ _ _ _ _ _ []
          refine z_aload_n F dX8_invoice_100 rfl 2 rfl ?_
          refine z_aload_n F dX8_invoice_101 rfl 0 rfl ?_
          refine z_callV (As := [vR ad5]) (st := []) F (mX8_addCorrectionLines l G N0 h10 g b9 r6 c9 ad5 (ivE b9 c9) V5 hc5 h165 J6 (ivE_len V5 O5)) cvX8_276 (ci_0 I8) (fun r9 h9 => by cases h9; rfl) rfl rfl ⟨Nat.le_of_ble_eq_true rfl, Nat.le_of_ble_eq_true rfl⟩ rfl ⟨Nat.le_of_ble_eq_true rfl, Nat.le_of_ble_eq_true rfl⟩ dX8_invoice_102 ?_
          rintro _ h11 ⟨rfl, r7, J7⟩
          have I9 := J7.2.1
          have R7 := J7.1.1
          have g8 : r7 8 = b9 8 := R7 8 rfl
          have g12 : r7 12 = b9 12 := R7 12 rfl
          have g16 : r7 16 = b9 16 := R7 16 rfl
          have g35 : r7 35 = b9 35 := R7 35 rfl
          have g36 : r7 36 = b9 36 := R7 36 rfl
          show Z _ _ _ _ _ _ _ _ _ _ _ _ _ _ _ _ _ _ _ _ []
          refine z_aload_n F dX8_invoice_105 rfl 2 rfl ?_
          refine z_get (v := vR (g 6)) F (ci_0 I9) fX8_33 rfl dX8_invoice_106 ?_
          refine z_callV (As := []) (st := []) F (mX5_freezePicked l G N0 h11 g r7 I9 (by rw [g8, f8]; omega) (by rw [g36]; omega) (fun q q0 q1 => by rw [g36] at q1; have w := O5.ow q0 q1; rw [g35, g8, g12]; exact ⟨w.1, by omega⟩) (fun a b a0 ab bm => by rw [g36] at bm; rw [g35]; exact P5.inj a0 ab bm)) cvX8_279 (ci_6 I9) (fun r9 h9 => by cases h9; rfl) rfl rfl ⟨Nat.le_of_ble_eq_true rfl, Nat.le_of_ble_eq_true rfl⟩ rfl ⟨Nat.le_of_ble_eq_true rfl, Nat.le_of_ble_eq_true rfl⟩ dX8_invoice_109 ?_
          rintro _ h12 ⟨rfl, I12⟩
          obtain ⟨r8, e8⟩ : ∃ z, z = FZ r7 (r7 36 0).toNat := ⟨_, rfl⟩
          rw [← e8] at I12
          have e16 : r8 16 0 = b9 16 0 := by rw [e8]; exact congrFun g16 0
          have e39 : r8 39 0 = b9 16 0 + 1 := by rw [e8]; exact congrFun J7.1.2.1 0
          have e42 : aI r8 (r8 16 0) = ad5 := by rw [e16, e8]; exact J7.2.2.1
          show Z _ _ _ _ _ _ _ _ _ _ _ _ _ _ _ _ _ _ _ _ []
          refine z_aload_n F dX8_invoice_112 rfl 2 rfl ?_
          refine z_get (v := vR (g 9)) F (ci_0 I12) fX8_44 rfl dX8_invoice_113 ?_
          refine z_aload_n F dX8_invoice_116 rfl 0 rfl ?_
          refine z_callV (As := [vR ad5]) (st := []) F (cAddI l G N0 h12 g r8 ad5 I12 (by rw [← e42]; exact ci_i I12 (by omega)) e42.symm (by omega) (by omega)) cvX8_101 (ci_9 I12) (fun r9 h9 => by cases h9; rfl) rfl rfl ⟨Nat.le_of_ble_eq_true rfl, Nat.le_of_ble_eq_true rfl⟩ rfl ⟨Nat.le_of_ble_eq_true rfl, Nat.le_of_ble_eq_true rfl⟩ dX8_invoice_117 ?_
          rintro _ h13 ⟨rfl, r13, S13, I13⟩
          have T13 := inv_SA (ρ := ρ) S5 O5 J7.1 e8 S13
          rw [show ivE b9 c9 ++ cLn (b9 27) (b9 9) (b9 25) (b9 26) c9 (b9 24 0).toNat = ivL ρ c9 from ivL_r S5.c c9] at T13
          have e13 : r13 16 0 = ρ 16 0 + 1 := by rw [T13 16 rfl]; rfl
          show Z _ _ _ _ _ _ _ _ _ _ _ _ _ _ _ _ _ _ _ _ [vI 1]
          refine z_pop F dX8_invoice_120 rfl ?_
          refine z_aload_n F dX8_invoice_121 rfl 2 rfl ?_
          refine z_get (v := vR (g 9)) F (ci_0 I13) fX8_44 rfl dX8_invoice_122 ?_
          refine z_callV (As := []) (st := []) F (mJx4a65c_size_8abf5 l G N0 h13 (g 9) ((r13 40 1).toNat) 0 (r13 32 1) (r13 16 0) (fun _ => none) (ci_9 I13)) cvX8_90 (ci_9 I13) (fun r9 h9 => by cases h9; rfl) rfl rfl ⟨Nat.le_of_ble_eq_true rfl, Nat.le_of_ble_eq_true rfl⟩ rfl ⟨Nat.le_of_ble_eq_true rfl, Nat.le_of_ble_eq_true rfl⟩ dX8_invoice_125 ?_
          rintro _ h9 ⟨rfl, hh9⟩
          rw [hh9]
          clear hh9 h9
          show Z _ _ _ _ _ _ _ _ _ _ _ _ _ _ _ _ _ _ _ _ [vI (r13 16 0)]
          refine z_iconst F dX8_invoice_128 ?_
          refine z_isub F dX8_invoice_129 ?_
          exact z_iretX (nf_i _) F hr (Nat.le_of_ble_eq_true rfl) (Nat.le_of_ble_eq_true rfl) dX8_invoice_130 (⟨by omega, by omega, r13, rI (by first | rfl | omega), T13, I13⟩)
        · refine z_aload_n F dX8_invoice_87 rfl 2 rfl ?_
          refine z_aload_n F dX8_invoice_88 rfl 0 rfl ?_
          refine z_callV (As := [vR ad5]) (st := []) F (mX8_addDayLines l G N0 h9 g b9 r5 c9 ad5 V5 hc5 h165 J5 O5 (by omega)) cvX8_269 (ci_0 I7) (fun r9 h9 => by cases h9; rfl) rfl rfl ⟨Nat.le_of_ble_eq_true rfl, Nat.le_of_ble_eq_true rfl⟩ rfl ⟨Nat.le_of_ble_eq_true rfl, Nat.le_of_ble_eq_true rfl⟩ dX8_invoice_89 ?_
          rintro _ h10 ⟨rfl, r6, J6⟩
          have I8 := J6.ci H5
          show Z _ _ _ _ _ _ _ _ _ _ _ _ _ _ _ _ _ _ _ _ []
          refine z_goto (tgt := 100) F dX8_invoice_92 (by decide) ?_
          refine z_aload_n F dX8_invoice_100 rfl 2 rfl ?_
          refine z_aload_n F dX8_invoice_101 rfl 0 rfl ?_
          refine z_callV (As := [vR ad5]) (st := []) F (mX8_addCorrectionLines l G N0 h10 g b9 r6 c9 ad5 (ivE b9 c9) V5 hc5 h165 J6 (ivE_len V5 O5)) cvX8_276 (ci_0 I8) (fun r9 h9 => by cases h9; rfl) rfl rfl ⟨Nat.le_of_ble_eq_true rfl, Nat.le_of_ble_eq_true rfl⟩ rfl ⟨Nat.le_of_ble_eq_true rfl, Nat.le_of_ble_eq_true rfl⟩ dX8_invoice_102 ?_
          rintro _ h11 ⟨rfl, r7, J7⟩
          have I9 := J7.2.1
          have R7 := J7.1.1
          have g8 : r7 8 = b9 8 := R7 8 rfl
          have g12 : r7 12 = b9 12 := R7 12 rfl
          have g16 : r7 16 = b9 16 := R7 16 rfl
          have g35 : r7 35 = b9 35 := R7 35 rfl
          have g36 : r7 36 = b9 36 := R7 36 rfl
          show Z _ _ _ _ _ _ _ _ _ _ _ _ _ _ _ _ _ _ _ _ []
          refine z_aload_n F dX8_invoice_105 rfl 2 rfl ?_
          refine z_get (v := vR (g 6)) F (ci_0 I9) fX8_33 rfl dX8_invoice_106 ?_
          refine z_callV (As := []) (st := []) F (mX5_freezePicked l G N0 h11 g r7 I9 (by rw [g8, f8]; omega) (by rw [g36]; omega) (fun q q0 q1 => by rw [g36] at q1; have w := O5.ow q0 q1; rw [g35, g8, g12]; exact ⟨w.1, by omega⟩) (fun a b a0 ab bm => by rw [g36] at bm; rw [g35]; exact P5.inj a0 ab bm)) cvX8_279 (ci_6 I9) (fun r9 h9 => by cases h9; rfl) rfl rfl ⟨Nat.le_of_ble_eq_true rfl, Nat.le_of_ble_eq_true rfl⟩ rfl ⟨Nat.le_of_ble_eq_true rfl, Nat.le_of_ble_eq_true rfl⟩ dX8_invoice_109 ?_
          rintro _ h12 ⟨rfl, I12⟩
          obtain ⟨r8, e8⟩ : ∃ z, z = FZ r7 (r7 36 0).toNat := ⟨_, rfl⟩
          rw [← e8] at I12
          have e16 : r8 16 0 = b9 16 0 := by rw [e8]; exact congrFun g16 0
          have e39 : r8 39 0 = b9 16 0 + 1 := by rw [e8]; exact congrFun J7.1.2.1 0
          have e42 : aI r8 (r8 16 0) = ad5 := by rw [e16, e8]; exact J7.2.2.1
          show Z _ _ _ _ _ _ _ _ _ _ _ _ _ _ _ _ _ _ _ _ []
          refine z_aload_n F dX8_invoice_112 rfl 2 rfl ?_
          refine z_get (v := vR (g 9)) F (ci_0 I12) fX8_44 rfl dX8_invoice_113 ?_
          refine z_aload_n F dX8_invoice_116 rfl 0 rfl ?_
          refine z_callV (As := [vR ad5]) (st := []) F (cAddI l G N0 h12 g r8 ad5 I12 (by rw [← e42]; exact ci_i I12 (by omega)) e42.symm (by omega) (by omega)) cvX8_101 (ci_9 I12) (fun r9 h9 => by cases h9; rfl) rfl rfl ⟨Nat.le_of_ble_eq_true rfl, Nat.le_of_ble_eq_true rfl⟩ rfl ⟨Nat.le_of_ble_eq_true rfl, Nat.le_of_ble_eq_true rfl⟩ dX8_invoice_117 ?_
          rintro _ h13 ⟨rfl, r13, S13, I13⟩
          have T13 := inv_SA (ρ := ρ) S5 O5 J7.1 e8 S13
          rw [show ivE b9 c9 ++ cLn (b9 27) (b9 9) (b9 25) (b9 26) c9 (b9 24 0).toNat = ivL ρ c9 from ivL_r S5.c c9] at T13
          have e13 : r13 16 0 = ρ 16 0 + 1 := by rw [T13 16 rfl]; rfl
          show Z _ _ _ _ _ _ _ _ _ _ _ _ _ _ _ _ _ _ _ _ [vI 1]
          refine z_pop F dX8_invoice_120 rfl ?_
          refine z_aload_n F dX8_invoice_121 rfl 2 rfl ?_
          refine z_get (v := vR (g 9)) F (ci_0 I13) fX8_44 rfl dX8_invoice_122 ?_
          refine z_callV (As := []) (st := []) F (mJx4a65c_size_8abf5 l G N0 h13 (g 9) ((r13 40 1).toNat) 0 (r13 32 1) (r13 16 0) (fun _ => none) (ci_9 I13)) cvX8_90 (ci_9 I13) (fun r9 h9 => by cases h9; rfl) rfl rfl ⟨Nat.le_of_ble_eq_true rfl, Nat.le_of_ble_eq_true rfl⟩ rfl ⟨Nat.le_of_ble_eq_true rfl, Nat.le_of_ble_eq_true rfl⟩ dX8_invoice_125 ?_
          rintro _ h9 ⟨rfl, hh9⟩
          rw [hh9]
          clear hh9 h9
          show Z _ _ _ _ _ _ _ _ _ _ _ _ _ _ _ _ _ _ _ _ [vI (r13 16 0)]
          refine z_iconst F dX8_invoice_128 ?_
          refine z_isub F dX8_invoice_129 ?_
          exact z_iretX (nf_i _) F hr (Nat.le_of_ble_eq_true rfl) (Nat.le_of_ble_eq_true rfl) dX8_invoice_130 (⟨by omega, by omega, r13, rI (by first | rfl | omega), T13, I13⟩)
      · exact z_throwCW (names := ["java/lang/RuntimeException", "java/lang/Exception"]) F htab hl9 ⟨by decide +kernel, fitN⟩ q737 q17 hatS (List.mem_of_getElem? (i := 23) rfl) dX8_invoice_58 dX8_invoice_61 dX8_invoice_62 dX8_invoice_65 dX8_invoice_68 ⟨Nat.le_of_ble_eq_true rfl, Nat.le_of_ble_eq_true rfl, Nat.le_of_ble_eq_true rfl, Nat.le_of_ble_eq_true rfl⟩ (Nat.le_of_ble_eq_true rfl) (Nat.le_of_ble_eq_true rfl) (⟨b9, S5, I5, by first | exact Or.inl ⟨rfl, by omega⟩ | exact Or.inr (⟨rfl, by omega, by omega⟩)⟩)
  · exact z_throwC (names := ["java/lang/RuntimeException", "java/lang/Exception"]) F htab hl9 ⟨by decide +kernel, fitN⟩ q737 q17 hatS (List.mem_of_getElem? (i := 22) rfl) dX8_invoice_18 dX8_invoice_21 dX8_invoice_22 dX8_invoice_24 dX8_invoice_27 ⟨Nat.le_of_ble_eq_true rfl, Nat.le_of_ble_eq_true rfl, Nat.le_of_ble_eq_true rfl, Nat.le_of_ble_eq_true rfl⟩ (Nat.le_of_ble_eq_true rfl) (Nat.le_of_ble_eq_true rfl) (⟨ρ, SA.refl _, hI, by first | exact Or.inl ⟨rfl, by omega⟩ | exact Or.inr (⟨rfl, by omega, by omega⟩)⟩)
