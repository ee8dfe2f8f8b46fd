theorem CQ.rem {σ ρ : Sg} (q : CQ σ ρ) {e : Int} (h : enA ρ e = ρ 11 e) : CQ (su (su σ 11 e (enA σ e)) 12 e 120) (su ρ 12 e 120) := by
  refine ⟨fun k hk => ?_, ?_⟩
  · funext j
    by_cases z : k = 12
    · subst z
      show (if j = e then 120 else σ 12 j) = (if j = e then 120 else ρ 12 j)
      rw [q.e 12]
    · rw [su_n z, su_n z, su_n hk.2.1, q.1 k hk]
  · funext x
    have t := congrFun q.2 x
    unfold enA at t
    show (if su σ 12 e 120 12 x = 114 then σ 0 0 else su σ 11 e (enA σ e) 11 x) = (if su ρ 12 e 120 12 x = 114 then ρ 0 0 else ρ 11 x)
    by_cases z : x = e
    · rw [z, su_e, su_e, su_e, if_neg (by decide), if_neg (by decide), q.2, h]
    · rw [su_i z, su_i z, su_i z]; exact t
theorem enA_rg {σ : Sg} (h : RG σ) (e : Int) : -2147483648 ≤ enA σ e ∧ enA σ e < 2147483648 := by
  unfold enA
  split
  · exact h 0 0
  · exact h 11 e
theorem RT.out {G : GG} {gm : Nat → Nat} {gc : Int → Nat} {σ ρ ρp : Sg} {hm hc hm' hc' : Hp} {s d f : Int → Int} {n e : Int} (T : RT G gm gc σ ρ hm hc) (he : 0 ≤ e ∧ e < ρ 8 0) (mi : MI gm (su (sw (sw (sw (su σ 30 0 0) 14 s) 15 d) 28 f) 29 0 n) hm') (tx : TX f n (weL σ e)) (ch : CH f) (rf : RF f) (rs : RF s) (rd : RF d) (S1 : ∀ k, (scrB k || oB k) = false → ρp k = ρ k) (O1 : OU ρp (weL ρ e)) (I1 : CI G gc ρp hc') : RT G gm gc (su (sw (sw (sw (su σ 30 0 0) 14 s) 15 d) 28 f) 29 0 n) ρp hm' hc' ∧ n = ((weL ρ e).length : Int) := by
  obtain ⟨t1, t2, t3, t4, t5, ⟨x1, x2, x3⟩, t7, t8⟩ := T
  have en : n = ((weL ρ e).length : Int) := by rw [← weL_r t5]; exact tx.1
  obtain ⟨o1, o2, o3, o4, o5⟩ := O1
  have rp : CQ ρ ρp := ⟨fun k h => (S1 k (by unfold scrB oB; simp; omega)).symm, by funext x; unfold enA; rw [S1 12 rfl, S1 0 rfl, S1 11 rfl]⟩
  refine ⟨⟨mi, rg_su (rg_sw (rg_sw (rg_sw (rg_su t2 (by decide)) rs) rd) rf) (by omega), I1, MC_out t4 S1 ⟨o1, o2, o3, o4, o5⟩ (fun x hx => weL_0 t4 he.1 he.2 hx), ((((((t5.lu (k := 30) rfl 0 0).lw (k := 14) rfl s).lw (k := 15) rfl d).lw (k := 28) rfl f).lu (k := 29) rfl 0 n)).trans rp, ⟨?_, ch, x3⟩, ?_, fun j j0 j1 => ?_⟩, en⟩
  · show 0 ≤ n ∧ n ≤ 60
    omega
  · show n = ρp 29 0
    omega
  · show f j = ρp 28 j
    have l : j.toNat < (weL ρ e).length := by omega
    have a := tx.2 j.toNat (by rw [weL_r t5]; exact l)
    have b := o1 j.toNat l
    rw [show ((j.toNat : Nat) : Int) = j by omega, weL_r t5] at a
    rw [show (0 : Int) + ((j.toNat : Nat) : Int) = j by omega] at b
    rw [a, b]
/-- only the class has it -/
theorem CQ.ru {σ ρ : Sg} (q : CQ σ ρ) {k : Nat} (hk : 28 ≤ k) (i v : Int) : CQ σ (su ρ k i v) := by
  have e : ∀ k', k' ≤ 27 → su ρ k i v k' = ρ k' := fun k' h => by funext j; exact su_n (by omega)
  exact ⟨fun k' h => (q.1 k' h).trans (e k' h.1).symm, by rw [q.2]; funext x; unfold enA; rw [e 12 (by decide), e 0 (by decide), e 11 (by decide)]⟩
theorem CQ.bothw {σ ρ : Sg} (q : CQ σ ρ) {k : Nat} (hk : k ≠ 0 ∧ k ≠ 11 ∧ k ≠ 12) (f : Int → Int) : CQ (sw σ k f) (sw ρ k f) := by
  refine ⟨fun k' h => ?_, ?_⟩
  · funext j
    show (if k' = k then f j else σ k' j) = (if k' = k then f j else ρ k' j)
    rw [q.1 k' h]
  · have e : ∀ (τ : Sg) k', (k' = 0 ∨ k' = 11 ∨ k' = 12) → sw τ k f k' = τ k' := fun τ k' h => sw_n (by omega)
    have h2 := q.2
    unfold enA at *
    rw [e σ 12 (by omega), e σ 0 (by omega), e σ 11 (by omega), e ρ 12 (by omega), e ρ 0 (by omega), e ρ 11 (by omega)]
    exact h2
theorem CQ.w12 {σ ρ : Sg} (q : CQ σ ρ) {f : Int → Int} (h : ∀ x, f x = ρ 12 x ∨ (f x ≠ 114 ∧ ρ 12 x ≠ 114)) : CQ (sw σ 12 f) (sw ρ 12 f) := by
  refine ⟨fun k hk => ?_, ?_⟩
  · funext j
    show (if k = 12 then f j else σ k j) = (if k = 12 then f j else ρ k j)
    rw [q.1 k hk]
  · funext x
    have t := congrFun q.2 x
    unfold enA at t
    show (if f x = 114 then σ 0 0 else σ 11 x) = (if f x = 114 then ρ 0 0 else ρ 11 x)
    rcases h x with z | ⟨z1, z2⟩
    · rw [z]
      rw [q.e 12] at t
      exact t
    · rw [if_neg z1, if_neg z1]
      exact q.e11 z2
theorem bl27_r {σ ρ : Sg} (q : CQ σ ρ) (c n : Int) : bl27 σ c n = bl27 ρ c n := by unfold bl27; rw [q.e 27, q.e 9, q.e 25]
theorem fx13_r {σ ρ : Sg} (q : CQ σ ρ) (c n : Int) : fx13 σ c n = fx13 ρ c n := by unfold fx13; rw [q.e 9, q.e 12, secS_r q, q.e 13]
theorem st12_r {σ ρ : Sg} (q : CQ σ ρ) (c n : Int) : st12 σ c n = st12 ρ c n := by unfold st12; rw [q.e 9, q.e 12]
theorem u17_r {σ ρ : Sg} (q : CQ σ ρ) (L : List Ln) : u17 σ L = u17 ρ L := by unfold u17; rw [q.e 16, q.e 17]
theorem u19_r {σ ρ : Sg} (q : CQ σ ρ) (L : List Ln) : u19 σ L = u19 ρ L := by unfold u19; rw [q.e 16, q.e 19]
theorem u21_r {σ ρ : Sg} (q : CQ σ ρ) (L : List Ln) : u21 σ L = u21 ρ L := by unfold u21; rw [q.e 16, q.e 21]
theorem u20_r {σ ρ : Sg} (q : CQ σ ρ) (L : List Ln) : u20 σ L = u20 ρ L := by unfold u20; rw [q.e 16, q.e 20]
theorem u22_r {σ ρ : Sg} (q : CQ σ ρ) (r : Int) (L : List Ln) : u22 σ r L = u22 ρ r L := by unfold u22; rw [q.e 16, q.e 22]
theorem u23_r {σ ρ : Sg} (q : CQ σ ρ) (r : Int) (L : List Ln) : u23 σ r L = u23 ρ r L := by unfold u23; rw [q.e 16, q.e 23]
theorem CQ.iv {σ ρ : Sg} (q : CQ σ ρ) (s d : Int → Int) (c : Int) : CQ (ivS σ s d c) (ivR ρ c) := by
  have b : ∀ {k : Nat}, (k ≠ 0 ∧ k ≠ 11 ∧ k ≠ 12) → k ≠ 0 ∧ k ≠ 11 ∧ k ≠ 12 := fun h => h
  show CQ (su (sw (sw (sw (sw (sw (sw (sw (sw (sw (su (sw (sw (su σ 30 0 0) 14 s) 15 d) 18 (σ 16 0) c) 27 (bl27 σ c (σ 24 0))) 19 (u19 σ (ivL σ c))) 21 (u21 σ (ivL σ c))) 20 (u20 σ (ivL σ c))) 22 (u22 σ (σ 6 c) (ivL σ c))) 23 (u23 σ (σ 6 c) (ivL σ c))) 17 (u17 σ (ivL σ c))) 13 (fx13 σ c (σ 8 0))) 12 (st12 σ c (σ 8 0))) 16 0 (σ 16 0 + 1)) (ivRL ρ c (ivL ρ c))
  rw [bl27_r q, fx13_r q, st12_r q, u19_r q, u21_r q, u20_r q, u22_r q, u23_r q, u17_r q, ivL_r q, q.e 24, q.e 6, q.e 8, q.e 16]
  generalize ivL ρ c = L
  have h := ((((q.lu (k := 30) rfl 0 0).lw (k := 14) rfl s).lw (k := 15) rfl d).both (k := 18) ⟨by decide, by decide, by decide⟩ (ρ 16 0) c)
  have h1 := h.bothw (k := 27) ⟨by decide, by decide, by decide⟩ (bl27 ρ c (ρ 24 0))
  have h2 := h1.bothw (k := 19) ⟨by decide, by decide, by decide⟩ (u19 ρ L)
  have h3 := h2.bothw (k := 21) ⟨by decide, by decide, by decide⟩ (u21 ρ L)
  have h4 := h3.bothw (k := 20) ⟨by decide, by decide, by decide⟩ (u20 ρ L)
  have h5 := h4.bothw (k := 22) ⟨by decide, by decide, by decide⟩ (u22 ρ (ρ 6 c) L)
  have h6 := h5.bothw (k := 23) ⟨by decide, by decide, by decide⟩ (u23 ρ (ρ 6 c) L)
  have h7 := h6.bothw (k := 17) ⟨by decide, by decide, by decide⟩ (u17 ρ L)
  have h8 := h7.bothw (k := 13) ⟨by decide, by decide, by decide⟩ (fx13 ρ c (ρ 8 0))
  have h9 := h8.w12 (f := st12 ρ c (ρ 8 0)) (fun x => by
    show st12 ρ c (ρ 8 0) x = ρ 12 x ∨ (st12 ρ c (ρ 8 0) x ≠ 114 ∧ ρ 12 x ≠ 114)
    unfold st12 blI
    by_cases z : 0 ≤ x ∧ x < ρ 8 0 ∧ (if ρ 9 x = c ∧ (ρ 12 x = 101 ∨ ((0 : Int) ≠ 0 ∧ ρ 12 x = 114)) then (1 : Int) else 0) = 1
    · rw [if_pos z]
      right
      obtain ⟨_, _, z⟩ := z
      split at z
      · omega
      · omega
    · rw [if_neg z]; exact Or.inl rfl)
  have h10 := h9.both (k := 16) ⟨by decide, by decide, by decide⟩ 0 (ρ 16 0 + 1)
  exact (h10.ru (k := 31) (by decide) (ρ 16 0) (lSum L)).ru (k := 39) (by decide) 0 (ρ 16 0 + 1)
theorem RT.iv {G : GG} {gm : Nat → Nat} {gc : Int → Nat} {σ ρ ρp : Sg} {hm hc hm' hc' : Hp} {s d : Int → Int} {c : Int} (T : RT G gm gc σ ρ hm hc) (hc0 : 0 ≤ c ∧ c < ρ 2 0) (h16 : ρ 16 0 < 8) (mi : MI gm (ivS σ s d c) hm') (rs : RF s) (rd : RF d) (hn : ((ivL σ c).length : Int) ≤ 40) (hB : LB (ivL σ c)) (S1 : SA (ivR ρ c) ρp) (I1 : CI G gc ρp hc') : RT G gm gc (ivS σ s d c) ρp hm' hc' := by
  have hv := T.mv
  have T0 := T
  obtain ⟨t1, t2, t3, t4, t5, ⟨x1, x2, x3⟩, t7, t8⟩ := T
  have C := t4.2.2.2.2.2.2.2.1 c hc0.1 hc0.2
  have r24 := t2 24 0
  have cc : -2147483648 ≤ c ∧ c < 2147483648 := by have := t4.2.2.1; omega
  have i16 : -2147483648 ≤ σ 16 0 + 1 ∧ σ 16 0 + 1 < 2147483648 := by rw [t5.e 16]; have := t4.2.2.2.2.1; omega
  have hB' : LB (ivL ρ c) := by rw [← ivL_r t5]; exact hB
  have hn' : (ivL ρ c).length ≤ 40 := by rw [← ivL_r t5]; omega
  refine T0.of mi ?_ I1 (MC.sa S1 (MC_inv t4 hc0 h16 hn' hB' (NB_tot C.2.2.2.1 hB' hn'))) ((t5.iv s d c).sa S1) x3 rfl rfl (S1 28 rfl) (S1 29 rfl)
  exact rg_su (rg_sw (rg_sw (rLX (rg_sw (rg_su (rg_sw (rg_sw (rg_su t2 (by decide)) rs) rd) cc) (fun j => by
    unfold bl27
    split
    · decide
    · exact t2 27 j)) t2 hB (by omega)) (r13 t2 hv c (by omega))) (fun j => by
    unfold st12
    split
    · decide
    · exact t2 12 j)) i16
theorem turn_remove {G : GG} {gm : Nat → Nat} {gc : Int → Nat} {σ ρ : Sg} {h H1 h2 hm hc : Hp} {ao ad : Nat} {r1 r2 : Option AV} {f0 : Int → Int} {e9 : Int} (H : HM h hm hc ao ad) (T : RT G gm gc σ ρ hm hc) (p1 : (¬ (¬ (0 ≤ e9 ∧ e9 < ρ 8 0)) ∧ ¬ (¬ (ρ 12 e9 = 114 ∨ ρ 12 e9 = 101)) ∧ r1 = some (vI 0) ∧ ∃ (ρp : Sg) (h1p : Hp), SA (su ρ 12 e9 120) ρp ∧ CI G gc ρp h1p ∧ (∀ a, h1p a ≠ none → hc a ≠ none ∨ h a = none) ∧ H1 = hu (mgH h hc h1p) ao (eA 6 1 (fun j => vL (if j = 0 then (iI (keptS (su ρ 12 e9 120))).toInt else f0 j)))) ∨ (((¬ (0 ≤ e9 ∧ e9 < ρ 8 0))) ∧ r1 = some (vI 1) ∧ ∃ (ρp : Sg) (h1p : Hp), SA ρ ρp ∧ CI G gc ρp h1p ∧ (∀ a, h1p a ≠ none → hc a ≠ none ∨ h a = none) ∧ H1 = mgH h hc h1p) ∨ ((¬ (¬ (0 ≤ e9 ∧ e9 < ρ 8 0)) ∧ (¬ (ρ 12 e9 = 114 ∨ ρ 12 e9 = 101))) ∧ r1 = some (vI 2) ∧ ∃ (ρp : Sg) (h1p : Hp), SA ρ ρp ∧ CI G gc ρp h1p ∧ (∀ a, h1p a ≠ none → hc a ≠ none ∨ h a = none) ∧ H1 = mgH h hc h1p)) (p2 : ∃ hm' : Hp, (((¬ (0 ≤ e9 ∧ e9 < σ 8 0)) ∧ r2 = some (vI 0) ∧ MI gm (su σ 30 0 1) hm') ∨ (¬ (¬ (0 ≤ e9 ∧ e9 < σ 8 0)) ∧ (¬ (σ 12 e9 = 114 ∨ σ 12 e9 = 101)) ∧ r2 = some (vI 0) ∧ MI gm (su σ 30 0 2) hm') ∨ (¬ (¬ (0 ≤ e9 ∧ e9 < σ 8 0)) ∧ ¬ (¬ (σ 12 e9 = 114 ∨ σ 12 e9 = 101)) ∧ r2 = some (vI (σ 8 0 - cst (su (su (su σ 30 0 0) 11 e9 (enA σ e9)) 12 e9 120) 120 (σ 8 0).toNat)) ∧ MI gm (su (su (su σ 30 0 0) 11 e9 (enA σ e9)) 12 e9 120) hm')) ∧ (∀ a, hm' a ≠ none → hm a ≠ none ∨ H1 a = none) ∧ h2 = mgH H1 hm hm') : TN G gm gc h2 ao ad r1 r2 := by
  obtain ⟨hm', p2, D2, e2⟩ := p2
  have q := T.2.2.2.2.1
  have tx := T.2.2.2.2.2.2
  have b0 := T.2.2.2.1.1
  have en9 : (0 ≤ e9 ∧ e9 < ρ 8 0) → enA ρ e9 = ρ 11 e9 := fun z => T.2.2.2.1.en z.1 z.2
  have bE9 : (0 ≤ e9 ∧ e9 < ρ 8 0) → ρ 11 e9 ≤ ρ 0 0 := fun z => (T.2.2.2.1.2.2.2.2.2.2.2.2.1 e9 z.1 z.2).2.1.2.2
  have b2 := T.2.2.2.1.2.2.1
  have b8 := T.2.2.2.1.2.2.2.1
  have b16 := T.2.2.2.1.2.2.2.2.1
  have b24 := T.2.2.2.1.2.2.2.2.2.1
  obtain ⟨V, hV⟩ : ∃ z, z = σ := ⟨_, rfl⟩
  rcases p1 with ⟨n0, n1, q1, ρp, h1p, S1, I1, D1, e1⟩ | ⟨cc, q1, ρp, h1p, S1, I1, D1, e1⟩ | ⟨cc, q1, ρp, h1p, S1, I1, D1, e1⟩
  · rcases p2 with ⟨m0, q2, mi⟩ | ⟨m0, m1, q2, mi⟩ | ⟨m0, m1, q2, mi⟩
    · exfalso; (try simp only [q.e 0, q.e 1, q.e 2, q.e 3, q.e 4, q.e 5, q.e 6, q.e 7, q.e 8, q.e 9, q.e 10, q.e 12, q.e 13, q.e 16, q.e 17, q.e 18, q.e 19, q.e 20, q.e 21, q.e 22, q.e 23, q.e 24, q.e 25, q.e 26, q.e 27, q.2, secS_r q, dyF_r q, opS_r q, usS_r q, shF_r q, ivM_r q, cst_r q, keptS_r q, hcF_r q] at m0); (try rw [tx.1] at m0); omega
    · exfalso; (try simp only [q.e 0, q.e 1, q.e 2, q.e 3, q.e 4, q.e 5, q.e 6, q.e 7, q.e 8, q.e 9, q.e 10, q.e 12, q.e 13, q.e 16, q.e 17, q.e 18, q.e 19, q.e 20, q.e 21, q.e 22, q.e 23, q.e 24, q.e 25, q.e 26, q.e 27, q.2, secS_r q, dyF_r q, opS_r q, usS_r q, shF_r q, ivM_r q, cst_r q, keptS_r q, hcF_r q] at m0 m1); (try rw [tx.1] at m0); omega
    · exact TN.ok H D1 e1 D2 e2 (T.of mi (rg_su (rg_su (rg_su T.2.1 (by decide)) (enA_rg T.2.1 e9)) (by decide)) I1 (MC.sa S1 (MC_state T.2.2.2.1 (by omega) (by omega))) (((q.lu (k := 30) rfl 0 0).rem (T.2.2.2.1.en (by omega) (by omega))).sa S1) T.2.2.2.2.2.1.2.2 rfl rfl (S1 28 rfl) (S1 29 rfl)) rfl q1 q2 (congrArg (fun y => (iI y).toInt) (keptS_r ((q.lu (k := 30) rfl 0 0).rem (T.2.2.2.1.en (by omega) (by omega)))).symm)
  · rcases p2 with ⟨m0, q2, mi⟩ | ⟨m0, m1, q2, mi⟩ | ⟨m0, m1, q2, mi⟩
    · exact TN.err H T (by decide) I1 S1 D1 e1 mi D2 e2 q1 q2
    · exfalso; (try simp only [q.e 0, q.e 1, q.e 2, q.e 3, q.e 4, q.e 5, q.e 6, q.e 7, q.e 8, q.e 9, q.e 10, q.e 12, q.e 13, q.e 16, q.e 17, q.e 18, q.e 19, q.e 20, q.e 21, q.e 22, q.e 23, q.e 24, q.e 25, q.e 26, q.e 27, q.2, secS_r q, dyF_r q, opS_r q, usS_r q, shF_r q, ivM_r q, cst_r q, keptS_r q, hcF_r q] at m0 m1); (try rw [tx.1] at m0); omega
    · exfalso; (try simp only [q.e 0, q.e 1, q.e 2, q.e 3, q.e 4, q.e 5, q.e 6, q.e 7, q.e 8, q.e 9, q.e 10, q.e 12, q.e 13, q.e 16, q.e 17, q.e 18, q.e 19, q.e 20, q.e 21, q.e 22, q.e 23, q.e 24, q.e 25, q.e 26, q.e 27, q.2, secS_r q, dyF_r q, opS_r q, usS_r q, shF_r q, ivM_r q, cst_r q, keptS_r q, hcF_r q] at m0 m1); (try rw [tx.1] at m0); omega
  · rcases p2 with ⟨m0, q2, mi⟩ | ⟨m0, m1, q2, mi⟩ | ⟨m0, m1, q2, mi⟩
    · exfalso; (try simp only [q.e 0, q.e 1, q.e 2, q.e 3, q.e 4, q.e 5, q.e 6, q.e 7, q.e 8, q.e 9, q.e 10, q.e 12, q.e 13, q.e 16, q.e 17, q.e 18, q.e 19, q.e 20, q.e 21, q.e 22, q.e 23, q.e 24, q.e 25, q.e 26, q.e 27, q.2, secS_r q, dyF_r q, opS_r q, usS_r q, shF_r q, ivM_r q, cst_r q, keptS_r q, hcF_r q] at m0); (try rw [tx.1] at m0); omega
    · exact TN.err H T (by decide) I1 S1 D1 e1 mi D2 e2 q1 q2
    · exfalso; (try simp only [q.e 0, q.e 1, q.e 2, q.e 3, q.e 4, q.e 5, q.e 6, q.e 7, q.e 8, q.e 9, q.e 10, q.e 12, q.e 13, q.e 16, q.e 17, q.e 18, q.e 19, q.e 20, q.e 21, q.e 22, q.e 23, q.e 24, q.e 25, q.e 26, q.e 27, q.2, secS_r q, dyF_r q, opS_r q, usS_r q, shF_r q, ivM_r q, cst_r q, keptS_r q, hcF_r q] at m0 m1); (try rw [tx.1] at m0); omega
theorem turn_writeEntry {G : GG} {gm : Nat → Nat} {gc : Int → Nat} {σ ρ : Sg} {h H1 h2 hm hc : Hp} {ao ad : Nat} {r1 r2 : Option AV} {f0 : Int → Int} {e9 : Int} (H : HM h hm hc ao ad) (T : RT G gm gc σ ρ hm hc) (p1 : (¬ (¬ (0 ≤ e9 ∧ e9 < ρ 8 0)) ∧ r1 = some (vI 0) ∧ ∃ (ρp : Sg) (h1p : Hp), ((∀ k, (scrB k || oB k) = false → ρp k = ρ k) ∧ OU ρp (weL ρ e9)) ∧ CI G gc ρp h1p ∧ (∀ a, h1p a ≠ none → hc a ≠ none ∨ h a = none) ∧ H1 = hu (mgH h hc h1p) ao (eA 6 1 (fun j => vL (if j = 0 then (iI ((weL ρ e9).length : Int)).toInt else f0 j)))) ∨ (((¬ (0 ≤ e9 ∧ e9 < ρ 8 0))) ∧ r1 = some (vI 1) ∧ ∃ (ρp : Sg) (h1p : Hp), SA ρ ρp ∧ CI G gc ρp h1p ∧ (∀ a, h1p a ≠ none → hc a ≠ none ∨ h a = none) ∧ H1 = mgH h hc h1p)) (p2 : ∃ hm' : Hp, ((¬ (0 ≤ e9 ∧ e9 < σ 8 0) ∧ r2 = some (vI 0) ∧ MI gm (su σ 30 0 1) hm') ∨ (¬ ¬ (0 ≤ e9 ∧ e9 < σ 8 0) ∧ ∃ (s d f : Int → Int) (n : Int), r2 = some (vI n) ∧ MI gm (su (sw (sw (sw (su σ 30 0 0) 14 s) 15 d) 28 f) 29 0 n) hm' ∧ TX f n (weL σ e9) ∧ CH f ∧ RF f ∧ RF s ∧ RF d)) ∧ (∀ a, hm' a ≠ none → hm a ≠ none ∨ H1 a = none) ∧ h2 = mgH H1 hm hm') : TN G gm gc h2 ao ad r1 r2 := by
  obtain ⟨hm', p2, D2, e2⟩ := p2
  have q := T.2.2.2.2.1
  have tx := T.2.2.2.2.2.2
  have b0 := T.2.2.2.1.1
  have en9 : (0 ≤ e9 ∧ e9 < ρ 8 0) → enA ρ e9 = ρ 11 e9 := fun z => T.2.2.2.1.en z.1 z.2
  have bE9 : (0 ≤ e9 ∧ e9 < ρ 8 0) → ρ 11 e9 ≤ ρ 0 0 := fun z => (T.2.2.2.1.2.2.2.2.2.2.2.2.1 e9 z.1 z.2).2.1.2.2
  have b2 := T.2.2.2.1.2.2.1
  have b8 := T.2.2.2.1.2.2.2.1
  have b16 := T.2.2.2.1.2.2.2.2.1
  have b24 := T.2.2.2.1.2.2.2.2.2.1
  obtain ⟨V, hV⟩ : ∃ z, z = σ := ⟨_, rfl⟩
  rcases p1 with ⟨n0, q1, ρp, h1p, ⟨S1, O1⟩, I1, D1, e1⟩ | ⟨cc, q1, ρp, h1p, S1, I1, D1, e1⟩
  · rcases p2 with ⟨m0, q2, mi⟩ | ⟨m0, s, d, f, n, q2, mi, tx1, ch, rf, rs, rd⟩
    · exfalso; (try simp only [q.e 0, q.e 1, q.e 2, q.e 3, q.e 4, q.e 5, q.e 6, q.e 7, q.e 8, q.e 9, q.e 10, q.e 12, q.e 13, q.e 16, q.e 17, q.e 18, q.e 19, q.e 20, q.e 21, q.e 22, q.e 23, q.e 24, q.e 25, q.e 26, q.e 27, q.2, secS_r q, dyF_r q, opS_r q, usS_r q, shF_r q, ivM_r q, cst_r q, keptS_r q, hcF_r q] at m0); (try rw [tx.1] at m0); omega
    · obtain ⟨T2, en⟩ := T.out (by omega) mi tx1 ch rf rs rd S1 O1 I1
      exact TN.ok H D1 e1 D2 e2 T2 rfl q1 q2 (by rw [en])
  · rcases p2 with ⟨m0, q2, mi⟩ | ⟨m0, s, d, f, n, q2, mi, tx1, ch, rf, rs, rd⟩
    · exact TN.err H T (by decide) I1 S1 D1 e1 mi D2 e2 q1 q2
    · exfalso; (try simp only [q.e 0, q.e 1, q.e 2, q.e 3, q.e 4, q.e 5, q.e 6, q.e 7, q.e 8, q.e 9, q.e 10, q.e 12, q.e 13, q.e 16, q.e 17, q.e 18, q.e 19, q.e 20, q.e 21, q.e 22, q.e 23, q.e 24, q.e 25, q.e 26, q.e 27, q.2, secS_r q, dyF_r q, opS_r q, usS_r q, shF_r q, ivM_r q, cst_r q, keptS_r q, hcF_r q] at m0); (try rw [tx.1] at m0); omega
theorem turn_invoice {G : GG} {gm : Nat → Nat} {gc : Int → Nat} {σ ρ : Sg} {h H1 h2 hm hc : Hp} {ao ad : Nat} {r1 r2 : Option AV} {f0 : Int → Int} {c9 : Int} (H : HM h hm hc ao ad) (T : RT G gm gc σ ρ hm hc) (p1 : (¬ (¬ (0 ≤ c9 ∧ c9 < ρ 2 0)) ∧ ¬ (ρ 16 0 = 8 ∨ (bhF (ρ 9) (ρ 12) (ρ 10) c9 (-1) 0 (ρ 8 0).toNat < 0 ∧ hcF ρ c9 (ρ 24 0).toNat = 0)) ∧ r1 = some (vI 0) ∧ ∃ (ρp : Sg) (h1p : Hp), SA (ivR ρ c9) ρp ∧ CI G gc ρp h1p ∧ (∀ a, h1p a ≠ none → hc a ≠ none ∨ h a = none) ∧ H1 = hu (mgH h hc h1p) ao (eA 6 1 (fun j => vL (if j = 0 then (iI (ρ 16 0)).toInt else f0 j)))) ∨ (((¬ (0 ≤ c9 ∧ c9 < ρ 2 0))) ∧ r1 = some (vI 1) ∧ ∃ (ρp : Sg) (h1p : Hp), SA ρ ρp ∧ CI G gc ρp h1p ∧ (∀ a, h1p a ≠ none → hc a ≠ none ∨ h a = none) ∧ H1 = mgH h hc h1p) ∨ ((¬ (¬ (0 ≤ c9 ∧ c9 < ρ 2 0)) ∧ (ρ 16 0 = 8 ∨ (bhF (ρ 9) (ρ 12) (ρ 10) c9 (-1) 0 (ρ 8 0).toNat < 0 ∧ hcF ρ c9 (ρ 24 0).toNat = 0))) ∧ r1 = some (vI 2) ∧ ∃ (ρp : Sg) (h1p : Hp), SA ρ ρp ∧ CI G gc ρp h1p ∧ (∀ a, h1p a ≠ none → hc a ≠ none ∨ h a = none) ∧ H1 = mgH h hc h1p)) (p2 : ∃ hm' : Hp, ((¬ (0 ≤ c9 ∧ c9 < σ 2 0) ∧ r2 = some (vI 0) ∧ MI gm (su σ 30 0 1) hm') ∨ (¬ (¬ (0 ≤ c9 ∧ c9 < σ 2 0)) ∧ (σ 16 0 = 8 ∨ (bhF (σ 9) (σ 12) (σ 10) c9 (-1) 0 (σ 8 0).toNat < 0 ∧ hcF σ c9 (σ 24 0).toNat = 0)) ∧ r2 = some (vI 0) ∧ MI gm (su σ 30 0 2) hm') ∨ (¬ (¬ (0 ≤ c9 ∧ c9 < σ 2 0)) ∧ ¬ (σ 16 0 = 8 ∨ (bhF (σ 9) (σ 12) (σ 10) c9 (-1) 0 (σ 8 0).toNat < 0 ∧ hcF σ c9 (σ 24 0).toNat = 0)) ∧ ∃ s d : Int → Int, r2 = some (vI (σ 16 0)) ∧ MI gm (ivS σ s d c9) hm' ∧ RF s ∧ RF d ∧ ((ivL σ c9).length : Int) ≤ 40 ∧ LB (ivL σ c9))) ∧ (∀ a, hm' a ≠ none → hm a ≠ none ∨ H1 a = none) ∧ h2 = mgH H1 hm hm') : TN G gm gc h2 ao ad r1 r2 := by
  obtain ⟨hm', p2, D2, e2⟩ := p2
  have q := T.2.2.2.2.1
  have tx := T.2.2.2.2.2.2
  have b0 := T.2.2.2.1.1
  have b2 := T.2.2.2.1.2.2.1
  have b8 := T.2.2.2.1.2.2.2.1
  have b16 := T.2.2.2.1.2.2.2.2.1
  have b24 := T.2.2.2.1.2.2.2.2.2.1
  obtain ⟨V, hV⟩ : ∃ z, z = σ := ⟨_, rfl⟩
  rcases p1 with ⟨n0, n1, q1, ρp, h1p, S1, I1, D1, e1⟩ | ⟨cc, q1, ρp, h1p, S1, I1, D1, e1⟩ | ⟨cc, q1, ρp, h1p, S1, I1, D1, e1⟩
  · rcases p2 with ⟨m0, q2, mi⟩ | ⟨m0, m1, q2, mi⟩ | ⟨m0, m1, s, d, q2, mi, rs, rd, hn, hB⟩
    · exfalso; (try simp only [q.e 0, q.e 1, q.e 2, q.e 3, q.e 4, q.e 5, q.e 6, q.e 7, q.e 8, q.e 9, q.e 10, q.e 12, q.e 13, q.e 16, q.e 17, q.e 18, q.e 19, q.e 20, q.e 21, q.e 22, q.e 23, q.e 24, q.e 25, q.e 26, q.e 27, q.2, secS_r q, dyF_r q, opS_r q, usS_r q, shF_r q, ivM_r q, cst_r q, keptS_r q, hcF_r q] at m0); (try rw [tx.1] at m0); omega
    · exfalso; (try simp only [q.e 0, q.e 1, q.e 2, q.e 3, q.e 4, q.e 5, q.e 6, q.e 7, q.e 8, q.e 9, q.e 10, q.e 12, q.e 13, q.e 16, q.e 17, q.e 18, q.e 19, q.e 20, q.e 21, q.e 22, q.e 23, q.e 24, q.e 25, q.e 26, q.e 27, q.2, secS_r q, dyF_r q, opS_r q, usS_r q, shF_r q, ivM_r q, cst_r q, keptS_r q, hcF_r q] at m0 m1); (try rw [tx.1] at m0); omega
    · exact TN.ok H D1 e1 D2 e2 (T.iv (by omega) (by have := T.2.2.2.1.2.2.2.2.1; omega) mi rs rd hn hB S1 I1) rfl q1 q2 (by first | rfl | (simp only [q.e 0, q.e 1, q.e 2, q.e 3, q.e 4, q.e 5, q.e 6, q.e 7, q.e 8, q.e 9, q.e 10, q.e 12, q.e 13, q.e 16, q.e 17, q.e 18, q.e 19, q.e 20, q.e 21, q.e 22, q.e 23, q.e 24, q.e 25, q.e 26, q.e 27, q.2, secS_r q, dyF_r q, opS_r q, usS_r q, shF_r q, ivM_r q, cst_r q, keptS_r q, hcF_r q]; done) | (simp only [q.e 0, q.e 1, q.e 2, q.e 3, q.e 4, q.e 5, q.e 6, q.e 7, q.e 8, q.e 9, q.e 10, q.e 12, q.e 13, q.e 16, q.e 17, q.e 18, q.e 19, q.e 20, q.e 21, q.e 22, q.e 23, q.e 24, q.e 25, q.e 26, q.e 27, q.2, secS_r q, dyF_r q, opS_r q, usS_r q, shF_r q, ivM_r q, cst_r q, keptS_r q, hcF_r q]; rfl))
  · rcases p2 with ⟨m0, q2, mi⟩ | ⟨m0, m1, q2, mi⟩ | ⟨m0, m1, s, d, q2, mi, rs, rd, hn, hB⟩
    · exact TN.err H T (by decide) I1 S1 D1 e1 mi D2 e2 q1 q2
    · exfalso; (try simp only [q.e 0, q.e 1, q.e 2, q.e 3, q.e 4, q.e 5, q.e 6, q.e 7, q.e 8, q.e 9, q.e 10, q.e 12, q.e 13, q.e 16, q.e 17, q.e 18, q.e 19, q.e 20, q.e 21, q.e 22, q.e 23, q.e 24, q.e 25, q.e 26, q.e 27, q.2, secS_r q, dyF_r q, opS_r q, usS_r q, shF_r q, ivM_r q, cst_r q, keptS_r q, hcF_r q] at m0 m1); (try rw [tx.1] at m0); omega
    · exfalso; (try simp only [q.e 0, q.e 1, q.e 2, q.e 3, q.e 4, q.e 5, q.e 6, q.e 7, q.e 8, q.e 9, q.e 10, q.e 12, q.e 13, q.e 16, q.e 17, q.e 18, q.e 19, q.e 20, q.e 21, q.e 22, q.e 23, q.e 24, q.e 25, q.e 26, q.e 27, q.2, secS_r q, dyF_r q, opS_r q, usS_r q, shF_r q, ivM_r q, cst_r q, keptS_r q, hcF_r q] at m0 m1); (try rw [tx.1] at m0); omega
  · rcases p2 with ⟨m0, q2, mi⟩ | ⟨m0, m1, q2, mi⟩ | ⟨m0, m1, s, d, q2, mi, rs, rd, hn, hB⟩
    · exfalso; (try simp only [q.e 0, q.e 1, q.e 2, q.e 3, q.e 4, q.e 5, q.e 6, q.e 7, q.e 8, q.e 9, q.e 10, q.e 12, q.e 13, q.e 16, q.e 17, q.e 18, q.e 19, q.e 20, q.e 21, q.e 22, q.e 23, q.e 24, q.e 25, q.e 26, q.e 27, q.2, secS_r q, dyF_r q, opS_r q, usS_r q, shF_r q, ivM_r q, cst_r q, keptS_r q, hcF_r q] at m0); (try rw [tx.1] at m0); omega
    · exact TN.err H T (by decide) I1 S1 D1 e1 mi D2 e2 q1 q2
    · exfalso; (try simp only [q.e 0, q.e 1, q.e 2, q.e 3, q.e 4, q.e 5, q.e 6, q.e 7, q.e 8, q.e 9, q.e 10, q.e 12, q.e 13, q.e 16, q.e 17, q.e 18, q.e 19, q.e 20, q.e 21, q.e 22, q.e 23, q.e 24, q.e 25, q.e 26, q.e 27, q.2, secS_r q, dyF_r q, opS_r q, usS_r q, shF_r q, ivM_r q, cst_r q, keptS_r q, hcF_r q] at m0 m1); (try rw [tx.1] at m0); omega
