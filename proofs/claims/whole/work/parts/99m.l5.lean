theorem CQ.ends {σ ρ : Sg} (q : CQ σ ρ) {e v : Int} (h : ρ 12 e ≠ 114) : CQ (su σ 11 e v) (su ρ 11 e v) := by
  refine ⟨fun k hk => ?_, ?_⟩
  · funext j
    rw [su_n hk.2.1, su_n hk.2.1, q.1 k hk]
  · funext x
    have t := congrFun q.2 x
    unfold enA at t ⊢
    show (if σ 12 x = 114 then σ 0 0 else su σ 11 e v 11 x) = (if ρ 12 x = 114 then ρ 0 0 else su ρ 11 e v 11 x)
    by_cases z : x = e
    · rw [z, su_e, su_e, if_neg (by rw [q.e 12]; exact h), if_neg h]
    · rw [su_i z, su_i z]; exact t
theorem CQ.e11 {σ ρ : Sg} (q : CQ σ ρ) {e : Int} (h : ρ 12 e ≠ 114) : σ 11 e = ρ 11 e := by
  have t := congrFun q.2 e
  unfold enA at t
  rw [q.e 12, if_neg h, if_neg h] at t
  exact t
theorem CQ.stop {σ ρ : Sg} (q : CQ σ ρ) {e : Int} (h : ρ 11 e = ρ 0 0) : CQ (su (su σ 12 e 101) 11 e (σ 0 0)) (su ρ 12 e 101) := by
  refine ⟨fun k hk => ?_, ?_⟩
  · funext j
    rw [su_n hk.2.1]
    by_cases z : k = 12
    · subst z
      show (if j = e then 101 else σ 12 j) = (if j = e then 101 else ρ 12 j)
      rw [q.e 12]
    · rw [su_n z, su_n z, q.1 k hk]
  · funext x
    have t := congrFun q.2 x
    unfold enA at t ⊢
    show (if su σ 12 e 101 12 x = 114 then σ 0 0 else su σ 11 e (σ 0 0) 11 x) = (if su ρ 12 e 101 12 x = 114 then ρ 0 0 else ρ 11 x)
    by_cases z : x = e
    · rw [z, su_e, su_e, su_e, if_neg (by decide), if_neg (by decide), h, q.e 0]
    · rw [su_i z, su_i z, su_i z]; exact t
theorem CQ.newE {σ ρ : Sg} (q : CQ σ ρ) {n c s t a : Int} : CQ (su (su (su (su (su σ 9 n c) 10 n s) 11 n t) 12 n a) 8 0 (n + 1)) (su (su (su (su (su ρ 9 n c) 10 n s) 11 n t) 12 n a) 8 0 (n + 1)) := by
  refine ⟨fun k hk => ?_, ?_⟩
  · funext j
    unfold su
    rw [q.1 k hk]
  · funext x
    have u := congrFun q.2 x
    unfold enA at u ⊢
    show (if su σ 12 n a 12 x = 114 then σ 0 0 else su σ 11 n t 11 x) = (if su ρ 12 n a 12 x = 114 then ρ 0 0 else su ρ 11 n t 11 x)
    by_cases z : x = n
    · rw [z, su_e, su_e, su_e, su_e, q.e 0]
    · rw [su_i z, su_i z, su_i z, su_i z]; exact u
theorem CQ.pass {σ ρ : Sg} (q : CQ σ ρ) {m : Int} : CQ (su σ 0 0 m) (sw (su ρ 0 0 m) 11 (fun e => if ρ 12 e = 114 then m else ρ 11 e)) := by
  refine ⟨fun k hk => ?_, ?_⟩
  · funext j
    rw [sw_n hk.2.1]
    by_cases z : k = 0
    · subst z
      show (if j = 0 then m else σ 0 j) = (if j = 0 then m else ρ 0 j)
      rw [q.e 0]
    · rw [su_n z, su_n z, q.1 k hk]
  · funext x
    have t := congrFun q.2 x
    unfold enA at t ⊢
    show (if σ 12 x = 114 then m else σ 11 x) = (if ρ 12 x = 114 then m else if ρ 12 x = 114 then m else ρ 11 x)
    rw [q.e 12] at t ⊢
    by_cases z : ρ 12 x = 114
    · rw [if_pos z, if_pos z]
    · rw [if_neg z, if_neg z, if_neg z]
      rw [if_neg z, if_neg z] at t
      exact t
theorem turn_pass {G : GG} {gm : Nat → Nat} {gc : Int → Nat} {σ ρ : Sg} {h H1 h2 hm hc : Hp} {ao ad : Nat} {r1 r2 : Option AV} {f0 : Int → Int} {m9 : Int} (H : HM h hm hc ao ad) (T : RT G gm gc σ ρ hm hc) (p1 : (¬ (¬ (1 ≤ m9 ∧ m9 ≤ 600)) ∧ ¬ (2999 < ρ 0 0 + m9) ∧ r1 = some (vI 0) ∧ ∃ (ρp : Sg) (h1p : Hp), SA (sw (su ρ 0 0 (ρ 0 0 + m9)) 11 (fun e => if ρ 12 e = 114 then (ρ 0 0 + m9) else ρ 11 e)) ρp ∧ CI G gc ρp h1p ∧ (∀ a, h1p a ≠ none → hc a ≠ none ∨ h a = none) ∧ H1 = hu (mgH h hc h1p) ao (eA 6 1 (fun j => vL (if j = 0 then (iI (ρ 0 0 + m9)).toInt else f0 j)))) ∨ (((¬ (1 ≤ m9 ∧ m9 ≤ 600))) ∧ r1 = some (vI 1) ∧ ∃ (ρp : Sg) (h1p : Hp), SA ρ ρp ∧ CI G gc ρp h1p ∧ (∀ a, h1p a ≠ none → hc a ≠ none ∨ h a = none) ∧ H1 = mgH h hc h1p) ∨ ((¬ (¬ (1 ≤ m9 ∧ m9 ≤ 600)) ∧ (2999 < ρ 0 0 + m9)) ∧ r1 = some (vI 2) ∧ ∃ (ρp : Sg) (h1p : Hp), SA ρ ρp ∧ CI G gc ρp h1p ∧ (∀ a, h1p a ≠ none → hc a ≠ none ∨ h a = none) ∧ H1 = mgH h hc h1p)) (p2 : ∃ hm' : Hp, (((¬ (1 ≤ m9 ∧ m9 ≤ 600)) ∧ r2 = some (vI 0) ∧ MI gm (su σ 30 0 1) hm') ∨ (¬ (¬ (1 ≤ m9 ∧ m9 ≤ 600)) ∧ (2999 < σ 0 0 + m9) ∧ r2 = some (vI 0) ∧ MI gm (su σ 30 0 2) hm') ∨ (¬ (¬ (1 ≤ m9 ∧ m9 ≤ 600)) ∧ ¬ (2999 < σ 0 0 + m9) ∧ r2 = some (vI (σ 0 0 + m9)) ∧ MI gm (su (su σ 30 0 0) 0 0 (σ 0 0 + m9)) hm')) ∧ (∀ a, hm' a ≠ none → hm a ≠ none ∨ H1 a = none) ∧ h2 = mgH H1 hm hm') : TN G gm gc h2 ao ad r1 r2 := by
  obtain ⟨hm', p2, D2, e2⟩ := p2
  have q := T.2.2.2.2.1
  have tx := T.2.2.2.2.2.2
  have b0 := T.2.2.2.1.1
  have b2 := T.2.2.2.1.2.2.1
  have b8 := T.2.2.2.1.2.2.2.1
  have b16 := T.2.2.2.1.2.2.2.2.1
  have b24 := T.2.2.2.1.2.2.2.2.2.1
  obtain ⟨V, hV⟩ : ∃ z, z = σ := ⟨_, rfl⟩
  rcases p1 with ⟨n0, n1, q1, ρp, h1p, S1, I1, D1, e1⟩ | ⟨cc, q1, ρp, h1p, S1, I1, D1, e1⟩ | ⟨cc, q1, ρp, h1p, S1, I1, D1, e1⟩
  · rcases p2 with ⟨m0, q2, mi⟩ | ⟨m0, m1, q2, mi⟩ | ⟨m0, m1, q2, mi⟩
    · exfalso; (try simp only [q.e 0, q.e 1, q.e 2, q.e 3, q.e 4, q.e 5, q.e 6, q.e 7, q.e 8, q.e 9, q.e 10, q.e 12, q.e 13, q.e 16, q.e 17, q.e 18, q.e 19, q.e 20, q.e 21, q.e 22, q.e 23, q.e 24, q.e 25, q.e 26, q.e 27, q.2, secS_r q, dyF_r q, opS_r q, usS_r q, shF_r q, ivM_r q, cst_r q, keptS_r q] at m0); (try rw [tx.1] at m0); omega
    · exfalso; (try simp only [q.e 0, q.e 1, q.e 2, q.e 3, q.e 4, q.e 5, q.e 6, q.e 7, q.e 8, q.e 9, q.e 10, q.e 12, q.e 13, q.e 16, q.e 17, q.e 18, q.e 19, q.e 20, q.e 21, q.e 22, q.e 23, q.e 24, q.e 25, q.e 26, q.e 27, q.2, secS_r q, dyF_r q, opS_r q, usS_r q, shF_r q, ivM_r q, cst_r q, keptS_r q] at m0 m1); (try rw [tx.1] at m0); omega
    · exact TN.ok H D1 e1 D2 e2 (T.of mi (rg_su (rg_su T.2.1 (by decide)) (by simp only [q.e 0]; omega)) I1 (MC.sa S1 (MC_pass T.2.2.2.1 (by omega) (by omega))) (by have z := ((q.lu (k := 30) rfl 0 0).pass (m := ρ 0 0 + m9)).sa S1; rw [← q.e 0] at z; exact z) T.2.2.2.2.2.1.2.2 rfl rfl (S1 28 rfl) (S1 29 rfl)) rfl q1 q2 (by first | rfl | (rw [q.e11 (by omega)]) | (rw [(T.2.2.2.1.2.2.2.2.2.2.2.2.1 e9 (by omega) (by omega)).2.2.2.1 (by omega), q.e 0, q.e 10]) | (simp only [q.e 0, q.e 1, q.e 2, q.e 3, q.e 4, q.e 5, q.e 6, q.e 7, q.e 8, q.e 9, q.e 10, q.e 12, q.e 13, q.e 16, q.e 17, q.e 18, q.e 19, q.e 20, q.e 21, q.e 22, q.e 23, q.e 24, q.e 25, q.e 26, q.e 27, q.2, secS_r q, dyF_r q, opS_r q, usS_r q, shF_r q, ivM_r q, cst_r q, keptS_r q]; done) | (simp only [q.e 0, q.e 1, q.e 2, q.e 3, q.e 4, q.e 5, q.e 6, q.e 7, q.e 8, q.e 9, q.e 10, q.e 12, q.e 13, q.e 16, q.e 17, q.e 18, q.e 19, q.e 20, q.e 21, q.e 22, q.e 23, q.e 24, q.e 25, q.e 26, q.e 27, q.2, secS_r q, dyF_r q, opS_r q, usS_r q, shF_r q, ivM_r q, cst_r q, keptS_r q]; rfl))
  · rcases p2 with ⟨m0, q2, mi⟩ | ⟨m0, m1, q2, mi⟩ | ⟨m0, m1, q2, mi⟩
    · exact TN.err H T (by decide) I1 S1 D1 e1 mi D2 e2 q1 q2
    · exfalso; (try simp only [q.e 0, q.e 1, q.e 2, q.e 3, q.e 4, q.e 5, q.e 6, q.e 7, q.e 8, q.e 9, q.e 10, q.e 12, q.e 13, q.e 16, q.e 17, q.e 18, q.e 19, q.e 20, q.e 21, q.e 22, q.e 23, q.e 24, q.e 25, q.e 26, q.e 27, q.2, secS_r q, dyF_r q, opS_r q, usS_r q, shF_r q, ivM_r q, cst_r q, keptS_r q] at m0 m1); (try rw [tx.1] at m0); omega
    · exfalso; (try simp only [q.e 0, q.e 1, q.e 2, q.e 3, q.e 4, q.e 5, q.e 6, q.e 7, q.e 8, q.e 9, q.e 10, q.e 12, q.e 13, q.e 16, q.e 17, q.e 18, q.e 19, q.e 20, q.e 21, q.e 22, q.e 23, q.e 24, q.e 25, q.e 26, q.e 27, q.2, secS_r q, dyF_r q, opS_r q, usS_r q, shF_r q, ivM_r q, cst_r q, keptS_r q] at m0 m1); (try rw [tx.1] at m0); omega
  · rcases p2 with ⟨m0, q2, mi⟩ | ⟨m0, m1, q2, mi⟩ | ⟨m0, m1, q2, mi⟩
    · exfalso; (try simp only [q.e 0, q.e 1, q.e 2, q.e 3, q.e 4, q.e 5, q.e 6, q.e 7, q.e 8, q.e 9, q.e 10, q.e 12, q.e 13, q.e 16, q.e 17, q.e 18, q.e 19, q.e 20, q.e 21, q.e 22, q.e 23, q.e 24, q.e 25, q.e 26, q.e 27, q.2, secS_r q, dyF_r q, opS_r q, usS_r q, shF_r q, ivM_r q, cst_r q, keptS_r q] at m0); (try rw [tx.1] at m0); omega
    · exact TN.err H T (by decide) I1 S1 D1 e1 mi D2 e2 q1 q2
    · exfalso; (try simp only [q.e 0, q.e 1, q.e 2, q.e 3, q.e 4, q.e 5, q.e 6, q.e 7, q.e 8, q.e 9, q.e 10, q.e 12, q.e 13, q.e 16, q.e 17, q.e 18, q.e 19, q.e 20, q.e 21, q.e 22, q.e 23, q.e 24, q.e 25, q.e 26, q.e 27, q.2, secS_r q, dyF_r q, opS_r q, usS_r q, shF_r q, ivM_r q, cst_r q, keptS_r q] at m0 m1); (try rw [tx.1] at m0); omega
theorem turn_stop {G : GG} {gm : Nat → Nat} {gc : Int → Nat} {σ ρ : Sg} {h H1 h2 hm hc : Hp} {ao ad : Nat} {r1 r2 : Option AV} {f0 : Int → Int} {e9 : Int} (H : HM h hm hc ao ad) (T : RT G gm gc σ ρ hm hc) (p1 : (¬ (¬ (0 ≤ e9 ∧ e9 < ρ 8 0)) ∧ ¬ (ρ 12 e9 ≠ 114) ∧ r1 = some (vI 0) ∧ ∃ (ρp : Sg) (h1p : Hp), SA (su ρ 12 e9 101) ρp ∧ CI G gc ρp h1p ∧ (∀ a, h1p a ≠ none → hc a ≠ none ∨ h a = none) ∧ H1 = hu (mgH h hc h1p) ao (eA 6 1 (fun j => vL (if j = 0 then (iI (ρ 11 e9 - ρ 10 e9)).toInt else f0 j)))) ∨ (((¬ (0 ≤ e9 ∧ e9 < ρ 8 0))) ∧ r1 = some (vI 1) ∧ ∃ (ρp : Sg) (h1p : Hp), SA ρ ρp ∧ CI G gc ρp h1p ∧ (∀ a, h1p a ≠ none → hc a ≠ none ∨ h a = none) ∧ H1 = mgH h hc h1p) ∨ ((¬ (¬ (0 ≤ e9 ∧ e9 < ρ 8 0)) ∧ (ρ 12 e9 ≠ 114)) ∧ r1 = some (vI 2) ∧ ∃ (ρp : Sg) (h1p : Hp), SA ρ ρp ∧ CI G gc ρp h1p ∧ (∀ a, h1p a ≠ none → hc a ≠ none ∨ h a = none) ∧ H1 = mgH h hc h1p)) (p2 : ∃ hm' : Hp, (((¬ (0 ≤ e9 ∧ e9 < σ 8 0)) ∧ r2 = some (vI 0) ∧ MI gm (su σ 30 0 1) hm') ∨ (¬ (¬ (0 ≤ e9 ∧ e9 < σ 8 0)) ∧ (σ 12 e9 ≠ 114) ∧ r2 = some (vI 0) ∧ MI gm (su σ 30 0 2) hm') ∨ (¬ (¬ (0 ≤ e9 ∧ e9 < σ 8 0)) ∧ ¬ (σ 12 e9 ≠ 114) ∧ r2 = some (vI (σ 0 0 - σ 10 e9)) ∧ MI gm (su (su (su σ 30 0 0) 12 e9 101) 11 e9 (σ 0 0)) hm')) ∧ (∀ a, hm' a ≠ none → hm a ≠ none ∨ H1 a = none) ∧ h2 = mgH H1 hm hm') : TN G gm gc h2 ao ad r1 r2 := by
  obtain ⟨hm', p2, D2, e2⟩ := p2
  have q := T.2.2.2.2.1
  have tx := T.2.2.2.2.2.2
  have b0 := T.2.2.2.1.1
  have en9 : (0 ≤ e9 ∧ e9 < ρ 8 0) → enA ρ e9 = ρ 11 e9 := fun z => T.2.2.2.1.en z.1 z.2
  have bE9 : (0 ≤ e9 ∧ e9 < ρ 8 0) → ρ 11 e9 ≤ ρ 0 0 := fun z => (T.2.2.2.1.2.2.2.2.2.2.2.2.1 e9 z.1 z.2).2.1.2.2
  have b2 := T.2.2.2.1.2.2.1
  have b8 := T.2.2.2.1.2.2.2.1
  have b16 := T.2.2.2.1.2.2.2.2.1
  have b24 := T.2.2.2.1.2.2.2.2.2.1
  obtain ⟨V, hV⟩ : ∃ z, z = σ := ⟨_, rfl⟩
  rcases p1 with ⟨n0, n1, q1, ρp, h1p, S1, I1, D1, e1⟩ | ⟨cc, q1, ρp, h1p, S1, I1, D1, e1⟩ | ⟨cc, q1, ρp, h1p, S1, I1, D1, e1⟩
  · rcases p2 with ⟨m0, q2, mi⟩ | ⟨m0, m1, q2, mi⟩ | ⟨m0, m1, q2, mi⟩
    · exfalso; (try simp only [q.e 0, q.e 1, q.e 2, q.e 3, q.e 4, q.e 5, q.e 6, q.e 7, q.e 8, q.e 9, q.e 10, q.e 12, q.e 13, q.e 16, q.e 17, q.e 18, q.e 19, q.e 20, q.e 21, q.e 22, q.e 23, q.e 24, q.e 25, q.e 26, q.e 27, q.2, secS_r q, dyF_r q, opS_r q, usS_r q, shF_r q, ivM_r q, cst_r q, keptS_r q] at m0); (try rw [tx.1] at m0); omega
    · exfalso; (try simp only [q.e 0, q.e 1, q.e 2, q.e 3, q.e 4, q.e 5, q.e 6, q.e 7, q.e 8, q.e 9, q.e 10, q.e 12, q.e 13, q.e 16, q.e 17, q.e 18, q.e 19, q.e 20, q.e 21, q.e 22, q.e 23, q.e 24, q.e 25, q.e 26, q.e 27, q.2, secS_r q, dyF_r q, opS_r q, usS_r q, shF_r q, ivM_r q, cst_r q, keptS_r q] at m0 m1); (try rw [tx.1] at m0); omega
    · exact TN.ok H D1 e1 D2 e2 (T.of mi (rg_su (rg_su (rg_su T.2.1 (by decide)) (by decide)) (T.2.1 0 0)) I1 (MC.sa S1 (MC_state T.2.2.2.1 (by omega) (by omega))) (((q.lu (k := 30) rfl 0 0).stop ((T.2.2.2.1.2.2.2.2.2.2.2.2.1 e9 (by omega) (by omega)).2.2.2.1 (by omega))).sa S1) T.2.2.2.2.2.1.2.2 rfl rfl (S1 28 rfl) (S1 29 rfl)) rfl q1 q2 (by first | rfl | (rw [q.e11 (by omega)]) | (rw [(T.2.2.2.1.2.2.2.2.2.2.2.2.1 e9 (by omega) (by omega)).2.2.2.1 (by omega), q.e 0, q.e 10]) | (simp only [q.e 0, q.e 1, q.e 2, q.e 3, q.e 4, q.e 5, q.e 6, q.e 7, q.e 8, q.e 9, q.e 10, q.e 12, q.e 13, q.e 16, q.e 17, q.e 18, q.e 19, q.e 20, q.e 21, q.e 22, q.e 23, q.e 24, q.e 25, q.e 26, q.e 27, q.2, secS_r q, dyF_r q, opS_r q, usS_r q, shF_r q, ivM_r q, cst_r q, keptS_r q]; done) | (simp only [q.e 0, q.e 1, q.e 2, q.e 3, q.e 4, q.e 5, q.e 6, q.e 7, q.e 8, q.e 9, q.e 10, q.e 12, q.e 13, q.e 16, q.e 17, q.e 18, q.e 19, q.e 20, q.e 21, q.e 22, q.e 23, q.e 24, q.e 25, q.e 26, q.e 27, q.2, secS_r q, dyF_r q, opS_r q, usS_r q, shF_r q, ivM_r q, cst_r q, keptS_r q]; rfl))
  · rcases p2 with ⟨m0, q2, mi⟩ | ⟨m0, m1, q2, mi⟩ | ⟨m0, m1, q2, mi⟩
    · exact TN.err H T (by decide) I1 S1 D1 e1 mi D2 e2 q1 q2
    · exfalso; (try simp only [q.e 0, q.e 1, q.e 2, q.e 3, q.e 4, q.e 5, q.e 6, q.e 7, q.e 8, q.e 9, q.e 10, q.e 12, q.e 13, q.e 16, q.e 17, q.e 18, q.e 19, q.e 20, q.e 21, q.e 22, q.e 23, q.e 24, q.e 25, q.e 26, q.e 27, q.2, secS_r q, dyF_r q, opS_r q, usS_r q, shF_r q, ivM_r q, cst_r q, keptS_r q] at m0 m1); (try rw [tx.1] at m0); omega
    · exfalso; (try simp only [q.e 0, q.e 1, q.e 2, q.e 3, q.e 4, q.e 5, q.e 6, q.e 7, q.e 8, q.e 9, q.e 10, q.e 12, q.e 13, q.e 16, q.e 17, q.e 18, q.e 19, q.e 20, q.e 21, q.e 22, q.e 23, q.e 24, q.e 25, q.e 26, q.e 27, q.2, secS_r q, dyF_r q, opS_r q, usS_r q, shF_r q, ivM_r q, cst_r q, keptS_r q] at m0 m1); (try rw [tx.1] at m0); omega
  · rcases p2 with ⟨m0, q2, mi⟩ | ⟨m0, m1, q2, mi⟩ | ⟨m0, m1, q2, mi⟩
    · exfalso; (try simp only [q.e 0, q.e 1, q.e 2, q.e 3, q.e 4, q.e 5, q.e 6, q.e 7, q.e 8, q.e 9, q.e 10, q.e 12, q.e 13, q.e 16, q.e 17, q.e 18, q.e 19, q.e 20, q.e 21, q.e 22, q.e 23, q.e 24, q.e 25, q.e 26, q.e 27, q.2, secS_r q, dyF_r q, opS_r q, usS_r q, shF_r q, ivM_r q, cst_r q, keptS_r q] at m0); (try rw [tx.1] at m0); omega
    · exact TN.err H T (by decide) I1 S1 D1 e1 mi D2 e2 q1 q2
    · exfalso; (try simp only [q.e 0, q.e 1, q.e 2, q.e 3, q.e 4, q.e 5, q.e 6, q.e 7, q.e 8, q.e 9, q.e 10, q.e 12, q.e 13, q.e 16, q.e 17, q.e 18, q.e 19, q.e 20, q.e 21, q.e 22, q.e 23, q.e 24, q.e 25, q.e 26, q.e 27, q.2, secS_r q, dyF_r q, opS_r q, usS_r q, shF_r q, ivM_r q, cst_r q, keptS_r q] at m0 m1); (try rw [tx.1] at m0); omega
theorem turn_setEnd {G : GG} {gm : Nat → Nat} {gc : Int → Nat} {σ ρ : Sg} {h H1 h2 hm hc : Hp} {ao ad : Nat} {r1 r2 : Option AV} {f0 : Int → Int} {e9 m9 : Int} (H : HM h hm hc ao ad) (T : RT G gm gc σ ρ hm hc) (p1 : (¬ (¬ (0 ≤ e9 ∧ e9 < ρ 8 0)) ∧ ¬ (ρ 12 e9 ≠ 101) ∧ ¬ (¬ (ρ 10 e9 ≤ m9 ∧ m9 ≤ ρ 0 0)) ∧ r1 = some (vI 0) ∧ ∃ (ρp : Sg) (h1p : Hp), SA (su ρ 11 e9 m9) ρp ∧ CI G gc ρp h1p ∧ (∀ a, h1p a ≠ none → hc a ≠ none ∨ h a = none) ∧ H1 = hu (mgH h hc h1p) ao (eA 6 1 (fun j => vL (if j = 0 then (iI (ρ 11 e9)).toInt else f0 j)))) ∨ (((¬ (0 ≤ e9 ∧ e9 < ρ 8 0))) ∧ r1 = some (vI 1) ∧ ∃ (ρp : Sg) (h1p : Hp), SA ρ ρp ∧ CI G gc ρp h1p ∧ (∀ a, h1p a ≠ none → hc a ≠ none ∨ h a = none) ∧ H1 = mgH h hc h1p) ∨ ((¬ (¬ (0 ≤ e9 ∧ e9 < ρ 8 0)) ∧ (ρ 12 e9 ≠ 101)) ∧ r1 = some (vI 2) ∧ ∃ (ρp : Sg) (h1p : Hp), SA ρ ρp ∧ CI G gc ρp h1p ∧ (∀ a, h1p a ≠ none → hc a ≠ none ∨ h a = none) ∧ H1 = mgH h hc h1p) ∨ ((¬ (¬ (0 ≤ e9 ∧ e9 < ρ 8 0)) ∧ ¬ (ρ 12 e9 ≠ 101) ∧ (¬ (ρ 10 e9 ≤ m9 ∧ m9 ≤ ρ 0 0))) ∧ r1 = some (vI 3) ∧ ∃ (ρp : Sg) (h1p : Hp), SA ρ ρp ∧ CI G gc ρp h1p ∧ (∀ a, h1p a ≠ none → hc a ≠ none ∨ h a = none) ∧ H1 = mgH h hc h1p)) (p2 : ∃ hm' : Hp, (((¬ (0 ≤ e9 ∧ e9 < σ 8 0)) ∧ r2 = some (vI 0) ∧ MI gm (su σ 30 0 1) hm') ∨ (¬ (¬ (0 ≤ e9 ∧ e9 < σ 8 0)) ∧ (σ 12 e9 ≠ 101) ∧ r2 = some (vI 0) ∧ MI gm (su σ 30 0 2) hm') ∨ (¬ (¬ (0 ≤ e9 ∧ e9 < σ 8 0)) ∧ ¬ (σ 12 e9 ≠ 101) ∧ (¬ (σ 10 e9 ≤ m9 ∧ m9 ≤ σ 0 0)) ∧ r2 = some (vI 0) ∧ MI gm (su σ 30 0 3) hm') ∨ (¬ (¬ (0 ≤ e9 ∧ e9 < σ 8 0)) ∧ ¬ (σ 12 e9 ≠ 101) ∧ ¬ (¬ (σ 10 e9 ≤ m9 ∧ m9 ≤ σ 0 0)) ∧ r2 = some (vI (σ 11 e9)) ∧ MI gm (su (su σ 30 0 0) 11 e9 m9) hm')) ∧ (∀ a, hm' a ≠ none → hm a ≠ none ∨ H1 a = none) ∧ h2 = mgH H1 hm hm') : TN G gm gc h2 ao ad r1 r2 := by
  obtain ⟨hm', p2, D2, e2⟩ := p2
  have q := T.2.2.2.2.1
  have tx := T.2.2.2.2.2.2
  have b0 := T.2.2.2.1.1
  have en9 : (0 ≤ e9 ∧ e9 < ρ 8 0) → enA ρ e9 = ρ 11 e9 := fun z => T.2.2.2.1.en z.1 z.2
  have bE9 : (0 ≤ e9 ∧ e9 < ρ 8 0) → ρ 11 e9 ≤ ρ 0 0 := fun z => (T.2.2.2.1.2.2.2.2.2.2.2.2.1 e9 z.1 z.2).2.1.2.2
  have b2 := T.2.2.2.1.2.2.1
  have b8 := T.2.2.2.1.2.2.2.1
  have b16 := T.2.2.2.1.2.2.2.2.1
  have b24 := T.2.2.2.1.2.2.2.2.2.1
  obtain ⟨V, hV⟩ : ∃ z, z = σ := ⟨_, rfl⟩
  rcases p1 with ⟨n0, n1, n2, q1, ρp, h1p, S1, I1, D1, e1⟩ | ⟨cc, q1, ρp, h1p, S1, I1, D1, e1⟩ | ⟨cc, q1, ρp, h1p, S1, I1, D1, e1⟩ | ⟨cc, q1, ρp, h1p, S1, I1, D1, e1⟩
  · rcases p2 with ⟨m0, q2, mi⟩ | ⟨m0, m1, q2, mi⟩ | ⟨m0, m1, m2, q2, mi⟩ | ⟨m0, m1, m2, q2, mi⟩
    · exfalso; (try simp only [q.e 0, q.e 1, q.e 2, q.e 3, q.e 4, q.e 5, q.e 6, q.e 7, q.e 8, q.e 9, q.e 10, q.e 12, q.e 13, q.e 16, q.e 17, q.e 18, q.e 19, q.e 20, q.e 21, q.e 22, q.e 23, q.e 24, q.e 25, q.e 26, q.e 27, q.2, secS_r q, dyF_r q, opS_r q, usS_r q, shF_r q, ivM_r q, cst_r q, keptS_r q] at m0); (try rw [tx.1] at m0); omega
    · exfalso; (try simp only [q.e 0, q.e 1, q.e 2, q.e 3, q.e 4, q.e 5, q.e 6, q.e 7, q.e 8, q.e 9, q.e 10, q.e 12, q.e 13, q.e 16, q.e 17, q.e 18, q.e 19, q.e 20, q.e 21, q.e 22, q.e 23, q.e 24, q.e 25, q.e 26, q.e 27, q.2, secS_r q, dyF_r q, opS_r q, usS_r q, shF_r q, ivM_r q, cst_r q, keptS_r q] at m0 m1); (try rw [tx.1] at m0); omega
    · exfalso; (try simp only [q.e 0, q.e 1, q.e 2, q.e 3, q.e 4, q.e 5, q.e 6, q.e 7, q.e 8, q.e 9, q.e 10, q.e 12, q.e 13, q.e 16, q.e 17, q.e 18, q.e 19, q.e 20, q.e 21, q.e 22, q.e 23, q.e 24, q.e 25, q.e 26, q.e 27, q.2, secS_r q, dyF_r q, opS_r q, usS_r q, shF_r q, ivM_r q, cst_r q, keptS_r q] at m0 m1 m2); (try rw [tx.1] at m0); omega
    · exact TN.ok H D1 e1 D2 e2 (T.of mi (rg_su (rg_su T.2.1 (by decide)) (by have x := (T.2.2.2.1.2.2.2.2.2.2.2.2.1 e9 (by omega) (by omega)).2.1.1; omega)) I1 (MC.sa S1 (MC_to T.2.2.2.1 (by omega) (by omega))) (((q.lu (k := 30) rfl 0 0).ends (by omega)).sa S1) T.2.2.2.2.2.1.2.2 rfl rfl (S1 28 rfl) (S1 29 rfl)) rfl q1 q2 (by first | rfl | (rw [q.e11 (by omega)]) | (rw [(T.2.2.2.1.2.2.2.2.2.2.2.2.1 e9 (by omega) (by omega)).2.2.2.1 (by omega), q.e 0, q.e 10]) | (simp only [q.e 0, q.e 1, q.e 2, q.e 3, q.e 4, q.e 5, q.e 6, q.e 7, q.e 8, q.e 9, q.e 10, q.e 12, q.e 13, q.e 16, q.e 17, q.e 18, q.e 19, q.e 20, q.e 21, q.e 22, q.e 23, q.e 24, q.e 25, q.e 26, q.e 27, q.2, secS_r q, dyF_r q, opS_r q, usS_r q, shF_r q, ivM_r q, cst_r q, keptS_r q]; done) | (simp only [q.e 0, q.e 1, q.e 2, q.e 3, q.e 4, q.e 5, q.e 6, q.e 7, q.e 8, q.e 9, q.e 10, q.e 12, q.e 13, q.e 16, q.e 17, q.e 18, q.e 19, q.e 20, q.e 21, q.e 22, q.e 23, q.e 24, q.e 25, q.e 26, q.e 27, q.2, secS_r q, dyF_r q, opS_r q, usS_r q, shF_r q, ivM_r q, cst_r q, keptS_r q]; rfl))
  · rcases p2 with ⟨m0, q2, mi⟩ | ⟨m0, m1, q2, mi⟩ | ⟨m0, m1, m2, q2, mi⟩ | ⟨m0, m1, m2, q2, mi⟩
    · exact TN.err H T (by decide) I1 S1 D1 e1 mi D2 e2 q1 q2
    · exfalso; (try simp only [q.e 0, q.e 1, q.e 2, q.e 3, q.e 4, q.e 5, q.e 6, q.e 7, q.e 8, q.e 9, q.e 10, q.e 12, q.e 13, q.e 16, q.e 17, q.e 18, q.e 19, q.e 20, q.e 21, q.e 22, q.e 23, q.e 24, q.e 25, q.e 26, q.e 27, q.2, secS_r q, dyF_r q, opS_r q, usS_r q, shF_r q, ivM_r q, cst_r q, keptS_r q] at m0 m1); (try rw [tx.1] at m0); omega
    · exfalso; (try simp only [q.e 0, q.e 1, q.e 2, q.e 3, q.e 4, q.e 5, q.e 6, q.e 7, q.e 8, q.e 9, q.e 10, q.e 12, q.e 13, q.e 16, q.e 17, q.e 18, q.e 19, q.e 20, q.e 21, q.e 22, q.e 23, q.e 24, q.e 25, q.e 26, q.e 27, q.2, secS_r q, dyF_r q, opS_r q, usS_r q, shF_r q, ivM_r q, cst_r q, keptS_r q] at m0 m1 m2); (try rw [tx.1] at m0); omega
    · exfalso; (try simp only [q.e 0, q.e 1, q.e 2, q.e 3, q.e 4, q.e 5, q.e 6, q.e 7, q.e 8, q.e 9, q.e 10, q.e 12, q.e 13, q.e 16, q.e 17, q.e 18, q.e 19, q.e 20, q.e 21, q.e 22, q.e 23, q.e 24, q.e 25, q.e 26, q.e 27, q.2, secS_r q, dyF_r q, opS_r q, usS_r q, shF_r q, ivM_r q, cst_r q, keptS_r q] at m0 m1 m2); (try rw [tx.1] at m0); omega
  · rcases p2 with ⟨m0, q2, mi⟩ | ⟨m0, m1, q2, mi⟩ | ⟨m0, m1, m2, q2, mi⟩ | ⟨m0, m1, m2, q2, mi⟩
    · exfalso; (try simp only [q.e 0, q.e 1, q.e 2, q.e 3, q.e 4, q.e 5, q.e 6, q.e 7, q.e 8, q.e 9, q.e 10, q.e 12, q.e 13, q.e 16, q.e 17, q.e 18, q.e 19, q.e 20, q.e 21, q.e 22, q.e 23, q.e 24, q.e 25, q.e 26, q.e 27, q.2, secS_r q, dyF_r q, opS_r q, usS_r q, shF_r q, ivM_r q, cst_r q, keptS_r q] at m0); (try rw [tx.1] at m0); omega
    · exact TN.err H T (by decide) I1 S1 D1 e1 mi D2 e2 q1 q2
    · exfalso; (try simp only [q.e 0, q.e 1, q.e 2, q.e 3, q.e 4, q.e 5, q.e 6, q.e 7, q.e 8, q.e 9, q.e 10, q.e 12, q.e 13, q.e 16, q.e 17, q.e 18, q.e 19, q.e 20, q.e 21, q.e 22, q.e 23, q.e 24, q.e 25, q.e 26, q.e 27, q.2, secS_r q, dyF_r q, opS_r q, usS_r q, shF_r q, ivM_r q, cst_r q, keptS_r q] at m0 m1 m2); (try rw [tx.1] at m0); omega
    · exfalso; (try simp only [q.e 0, q.e 1, q.e 2, q.e 3, q.e 4, q.e 5, q.e 6, q.e 7, q.e 8, q.e 9, q.e 10, q.e 12, q.e 13, q.e 16, q.e 17, q.e 18, q.e 19, q.e 20, q.e 21, q.e 22, q.e 23, q.e 24, q.e 25, q.e 26, q.e 27, q.2, secS_r q, dyF_r q, opS_r q, usS_r q, shF_r q, ivM_r q, cst_r q, keptS_r q] at m0 m1 m2); (try rw [tx.1] at m0); omega
  · rcases p2 with ⟨m0, q2, mi⟩ | ⟨m0, m1, q2, mi⟩ | ⟨m0, m1, m2, q2, mi⟩ | ⟨m0, m1, m2, q2, mi⟩
    · exfalso; (try simp only [q.e 0, q.e 1, q.e 2, q.e 3, q.e 4, q.e 5, q.e 6, q.e 7, q.e 8, q.e 9, q.e 10, q.e 12, q.e 13, q.e 16, q.e 17, q.e 18, q.e 19, q.e 20, q.e 21, q.e 22, q.e 23, q.e 24, q.e 25, q.e 26, q.e 27, q.2, secS_r q, dyF_r q, opS_r q, usS_r q, shF_r q, ivM_r q, cst_r q, keptS_r q] at m0); (try rw [tx.1] at m0); omega
    · exfalso; (try simp only [q.e 0, q.e 1, q.e 2, q.e 3, q.e 4, q.e 5, q.e 6, q.e 7, q.e 8, q.e 9, q.e 10, q.e 12, q.e 13, q.e 16, q.e 17, q.e 18, q.e 19, q.e 20, q.e 21, q.e 22, q.e 23, q.e 24, q.e 25, q.e 26, q.e 27, q.2, secS_r q, dyF_r q, opS_r q, usS_r q, shF_r q, ivM_r q, cst_r q, keptS_r q] at m0 m1); (try rw [tx.1] at m0); omega
    · exact TN.err H T (by decide) I1 S1 D1 e1 mi D2 e2 q1 q2
    · exfalso; (try simp only [q.e 0, q.e 1, q.e 2, q.e 3, q.e 4, q.e 5, q.e 6, q.e 7, q.e 8, q.e 9, q.e 10, q.e 12, q.e 13, q.e 16, q.e 17, q.e 18, q.e 19, q.e 20, q.e 21, q.e 22, q.e 23, q.e 24, q.e 25, q.e 26, q.e 27, q.2, secS_r q, dyF_r q, opS_r q, usS_r q, shF_r q, ivM_r q, cst_r q, keptS_r q] at m0 m1 m2); (try rw [tx.1] at m0); omega
theorem turn_start {G : GG} {gm : Nat → Nat} {gc : Int → Nat} {σ ρ : Sg} {h H1 h2 hm hc : Hp} {ao ad : Nat} {r1 r2 : Option AV} {f0 : Int → Int} {c9 : Int} (H : HM h hm hc ao ad) (T : RT G gm gc σ ρ hm hc) (p1 : (¬ (¬ (0 ≤ c9 ∧ c9 < ρ 2 0)) ∧ ¬ (ρ 8 0 = 24 ∨ cst ρ 114 (ρ 8 0).toNat = 4) ∧ r1 = some (vI 0) ∧ ∃ (ρp : Sg) (h1p : Hp), SA (mkE ρ c9 (ρ 0 0) (ρ 0 0) 114) ρp ∧ CI G gc ρp h1p ∧ (∀ a, h1p a ≠ none → hc a ≠ none ∨ h a = none) ∧ H1 = hu (mgH h hc h1p) ao (eA 6 1 (fun j => vL (if j = 0 then (iI (ρ 8 0)).toInt else f0 j)))) ∨ (((¬ (0 ≤ c9 ∧ c9 < ρ 2 0))) ∧ r1 = some (vI 1) ∧ ∃ (ρp : Sg) (h1p : Hp), SA ρ ρp ∧ CI G gc ρp h1p ∧ (∀ a, h1p a ≠ none → hc a ≠ none ∨ h a = none) ∧ H1 = mgH h hc h1p) ∨ ((¬ (¬ (0 ≤ c9 ∧ c9 < ρ 2 0)) ∧ (ρ 8 0 = 24 ∨ cst ρ 114 (ρ 8 0).toNat = 4)) ∧ r1 = some (vI 2) ∧ ∃ (ρp : Sg) (h1p : Hp), SA ρ ρp ∧ CI G gc ρp h1p ∧ (∀ a, h1p a ≠ none → hc a ≠ none ∨ h a = none) ∧ H1 = mgH h hc h1p)) (p2 : ∃ hm' : Hp, (((¬ (0 ≤ c9 ∧ c9 < σ 2 0)) ∧ r2 = some (vI 0) ∧ MI gm (su σ 30 0 1) hm') ∨ (¬ (¬ (0 ≤ c9 ∧ c9 < σ 2 0)) ∧ (σ 8 0 = 24 ∨ cst σ 114 (σ 8 0).toNat = 4) ∧ r2 = some (vI 0) ∧ MI gm (su σ 30 0 2) hm') ∨ (¬ (¬ (0 ≤ c9 ∧ c9 < σ 2 0)) ∧ ¬ (σ 8 0 = 24 ∨ cst σ 114 (σ 8 0).toNat = 4) ∧ r2 = some (vI (σ 8 0)) ∧ MI gm (su (su (su (su (su (su σ 30 0 0) 9 (σ 8 0) c9) 10 (σ 8 0) (σ 0 0)) 11 (σ 8 0) (σ 0 0)) 12 (σ 8 0) 114) 8 0 (σ 8 0 + 1)) hm')) ∧ (∀ a, hm' a ≠ none → hm a ≠ none ∨ H1 a = none) ∧ h2 = mgH H1 hm hm') : TN G gm gc h2 ao ad r1 r2 := by
  obtain ⟨hm', p2, D2, e2⟩ := p2
  have q := T.2.2.2.2.1
  have tx := T.2.2.2.2.2.2
  have b0 := T.2.2.2.1.1
  have b2 := T.2.2.2.1.2.2.1
  have b8 := T.2.2.2.1.2.2.2.1
  have b16 := T.2.2.2.1.2.2.2.2.1
  have b24 := T.2.2.2.1.2.2.2.2.2.1
  obtain ⟨V, hV⟩ : ∃ z, z = σ := ⟨_, rfl⟩
  rcases p1 with ⟨n0, n1, q1, ρp, h1p, S1, I1, D1, e1⟩ | ⟨cc, q1, ρp, h1p, S1, I1, D1, e1⟩ | ⟨cc, q1, ρp, h1p, S1, I1, D1, e1⟩
  · rcases p2 with ⟨m0, q2, mi⟩ | ⟨m0, m1, q2, mi⟩ | ⟨m0, m1, q2, mi⟩
    · exfalso; (try simp only [q.e 0, q.e 1, q.e 2, q.e 3, q.e 4, q.e 5, q.e 6, q.e 7, q.e 8, q.e 9, q.e 10, q.e 12, q.e 13, q.e 16, q.e 17, q.e 18, q.e 19, q.e 20, q.e 21, q.e 22, q.e 23, q.e 24, q.e 25, q.e 26, q.e 27, q.2, secS_r q, dyF_r q, opS_r q, usS_r q, shF_r q, ivM_r q, cst_r q, keptS_r q] at m0); (try rw [tx.1] at m0); omega
    · exfalso; (try simp only [q.e 0, q.e 1, q.e 2, q.e 3, q.e 4, q.e 5, q.e 6, q.e 7, q.e 8, q.e 9, q.e 10, q.e 12, q.e 13, q.e 16, q.e 17, q.e 18, q.e 19, q.e 20, q.e 21, q.e 22, q.e 23, q.e 24, q.e 25, q.e 26, q.e 27, q.2, secS_r q, dyF_r q, opS_r q, usS_r q, shF_r q, ivM_r q, cst_r q, keptS_r q] at m0 m1); (try rw [tx.1] at m0); omega
    · exact TN.ok H D1 e1 D2 e2 (T.of mi (rg_su (rg_su (rg_su (rg_su (rg_su (rg_su T.2.1 (by decide)) (by omega)) (T.2.1 0 0)) (T.2.1 0 0)) (by decide)) (by simp only [q.e 8]; omega)) I1 (MC.sa S1 (MC_E T.2.2.2.1 (by omega) (by omega) (Or.inr ⟨rfl, rfl, by have := T.2.2.2.1.2.2.2.2.2.2.1.2; omega⟩) (by omega))) (by have z := ((q.lu (k := 30) rfl 0 0).newE (n := ρ 8 0) (c := c9) (s := ρ 0 0) (t := ρ 0 0) (a := 114)).sa S1; rw [← q.e 8, ← q.e 0] at z; exact z) T.2.2.2.2.2.1.2.2 rfl rfl (S1 28 rfl) (S1 29 rfl)) rfl q1 q2 (by first | rfl | (rw [q.e11 (by omega)]) | (rw [(T.2.2.2.1.2.2.2.2.2.2.2.2.1 e9 (by omega) (by omega)).2.2.2.1 (by omega), q.e 0, q.e 10]) | (simp only [q.e 0, q.e 1, q.e 2, q.e 3, q.e 4, q.e 5, q.e 6, q.e 7, q.e 8, q.e 9, q.e 10, q.e 12, q.e 13, q.e 16, q.e 17, q.e 18, q.e 19, q.e 20, q.e 21, q.e 22, q.e 23, q.e 24, q.e 25, q.e 26, q.e 27, q.2, secS_r q, dyF_r q, opS_r q, usS_r q, shF_r q, ivM_r q, cst_r q, keptS_r q]; done) | (simp only [q.e 0, q.e 1, q.e 2, q.e 3, q.e 4, q.e 5, q.e 6, q.e 7, q.e 8, q.e 9, q.e 10, q.e 12, q.e 13, q.e 16, q.e 17, q.e 18, q.e 19, q.e 20, q.e 21, q.e 22, q.e 23, q.e 24, q.e 25, q.e 26, q.e 27, q.2, secS_r q, dyF_r q, opS_r q, usS_r q, shF_r q, ivM_r q, cst_r q, keptS_r q]; rfl))
  · rcases p2 with ⟨m0, q2, mi⟩ | ⟨m0, m1, q2, mi⟩ | ⟨m0, m1, q2, mi⟩
    · exact TN.err H T (by decide) I1 S1 D1 e1 mi D2 e2 q1 q2
    · exfalso; (try simp only [q.e 0, q.e 1, q.e 2, q.e 3, q.e 4, q.e 5, q.e 6, q.e 7, q.e 8, q.e 9, q.e 10, q.e 12, q.e 13, q.e 16, q.e 17, q.e 18, q.e 19, q.e 20, q.e 21, q.e 22, q.e 23, q.e 24, q.e 25, q.e 26, q.e 27, q.2, secS_r q, dyF_r q, opS_r q, usS_r q, shF_r q, ivM_r q, cst_r q, keptS_r q] at m0 m1); (try rw [tx.1] at m0); omega
    · exfalso; (try simp only [q.e 0, q.e 1, q.e 2, q.e 3, q.e 4, q.e 5, q.e 6, q.e 7, q.e 8, q.e 9, q.e 10, q.e 12, q.e 13, q.e 16, q.e 17, q.e 18, q.e 19, q.e 20, q.e 21, q.e 22, q.e 23, q.e 24, q.e 25, q.e 26, q.e 27, q.2, secS_r q, dyF_r q, opS_r q, usS_r q, shF_r q, ivM_r q, cst_r q, keptS_r q] at m0 m1); (try rw [tx.1] at m0); omega
  · rcases p2 with ⟨m0, q2, mi⟩ | ⟨m0, m1, q2, mi⟩ | ⟨m0, m1, q2, mi⟩
    · exfalso; (try simp only [q.e 0, q.e 1, q.e 2, q.e 3, q.e 4, q.e 5, q.e 6, q.e 7, q.e 8, q.e 9, q.e 10, q.e 12, q.e 13, q.e 16, q.e 17, q.e 18, q.e 19, q.e 20, q.e 21, q.e 22, q.e 23, q.e 24, q.e 25, q.e 26, q.e 27, q.2, secS_r q, dyF_r q, opS_r q, usS_r q, shF_r q, ivM_r q, cst_r q, keptS_r q] at m0); (try rw [tx.1] at m0); omega
    · exact TN.err H T (by decide) I1 S1 D1 e1 mi D2 e2 q1 q2
    · exfalso; (try simp only [q.e 0, q.e 1, q.e 2, q.e 3, q.e 4, q.e 5, q.e 6, q.e 7, q.e 8, q.e 9, q.e 10, q.e 12, q.e 13, q.e 16, q.e 17, q.e 18, q.e 19, q.e 20, q.e 21, q.e 22, q.e 23, q.e 24, q.e 25, q.e 26, q.e 27, q.2, secS_r q, dyF_r q, opS_r q, usS_r q, shF_r q, ivM_r q, cst_r q, keptS_r q] at m0 m1); (try rw [tx.1] at m0); omega
theorem turn_addEntry {G : GG} {gm : Nat → Nat} {gc : Int → Nat} {σ ρ : Sg} {h H1 h2 hm hc : Hp} {ao ad : Nat} {r1 r2 : Option AV} {f0 : Int → Int} {c9 s9 t9 : Int} (H : HM h hm hc ao ad) (T : RT G gm gc σ ρ hm hc) (p1 : (¬ (¬ (0 ≤ c9 ∧ c9 < ρ 2 0)) ∧ ¬ (s9 < 0 ∨ t9 < s9 ∨ ρ 0 0 < t9) ∧ ¬ (ρ 8 0 = 24) ∧ r1 = some (vI 0) ∧ ∃ (ρp : Sg) (h1p : Hp), SA (mkE ρ c9 s9 t9 101) ρp ∧ CI G gc ρp h1p ∧ (∀ a, h1p a ≠ none → hc a ≠ none ∨ h a = none) ∧ H1 = hu (mgH h hc h1p) ao (eA 6 1 (fun j => vL (if j = 0 then (iI (ρ 8 0)).toInt else f0 j)))) ∨ (((¬ (0 ≤ c9 ∧ c9 < ρ 2 0))) ∧ r1 = some (vI 1) ∧ ∃ (ρp : Sg) (h1p : Hp), SA ρ ρp ∧ CI G gc ρp h1p ∧ (∀ a, h1p a ≠ none → hc a ≠ none ∨ h a = none) ∧ H1 = mgH h hc h1p) ∨ ((¬ (¬ (0 ≤ c9 ∧ c9 < ρ 2 0)) ∧ (s9 < 0 ∨ t9 < s9 ∨ ρ 0 0 < t9)) ∧ r1 = some (vI 2) ∧ ∃ (ρp : Sg) (h1p : Hp), SA ρ ρp ∧ CI G gc ρp h1p ∧ (∀ a, h1p a ≠ none → hc a ≠ none ∨ h a = none) ∧ H1 = mgH h hc h1p) ∨ ((¬ (¬ (0 ≤ c9 ∧ c9 < ρ 2 0)) ∧ ¬ (s9 < 0 ∨ t9 < s9 ∨ ρ 0 0 < t9) ∧ (ρ 8 0 = 24)) ∧ r1 = some (vI 3) ∧ ∃ (ρp : Sg) (h1p : Hp), SA ρ ρp ∧ CI G gc ρp h1p ∧ (∀ a, h1p a ≠ none → hc a ≠ none ∨ h a = none) ∧ H1 = mgH h hc h1p)) (p2 : ∃ hm' : Hp, (((¬ (0 ≤ c9 ∧ c9 < σ 2 0)) ∧ r2 = some (vI 0) ∧ MI gm (su σ 30 0 1) hm') ∨ (¬ (¬ (0 ≤ c9 ∧ c9 < σ 2 0)) ∧ (s9 < 0 ∨ t9 < s9 ∨ σ 0 0 < t9) ∧ r2 = some (vI 0) ∧ MI gm (su σ 30 0 2) hm') ∨ (¬ (¬ (0 ≤ c9 ∧ c9 < σ 2 0)) ∧ ¬ (s9 < 0 ∨ t9 < s9 ∨ σ 0 0 < t9) ∧ (σ 8 0 = 24) ∧ r2 = some (vI 0) ∧ MI gm (su σ 30 0 3) hm') ∨ (¬ (¬ (0 ≤ c9 ∧ c9 < σ 2 0)) ∧ ¬ (s9 < 0 ∨ t9 < s9 ∨ σ 0 0 < t9) ∧ ¬ (σ 8 0 = 24) ∧ r2 = some (vI (σ 8 0)) ∧ MI gm (su (su (su (su (su (su σ 30 0 0) 9 (σ 8 0) c9) 10 (σ 8 0) s9) 11 (σ 8 0) t9) 12 (σ 8 0) 101) 8 0 (σ 8 0 + 1)) hm')) ∧ (∀ a, hm' a ≠ none → hm a ≠ none ∨ H1 a = none) ∧ h2 = mgH H1 hm hm') : TN G gm gc h2 ao ad r1 r2 := by
  obtain ⟨hm', p2, D2, e2⟩ := p2
  have q := T.2.2.2.2.1
  have tx := T.2.2.2.2.2.2
  have b0 := T.2.2.2.1.1
  have b2 := T.2.2.2.1.2.2.1
  have b8 := T.2.2.2.1.2.2.2.1
  have b16 := T.2.2.2.1.2.2.2.2.1
  have b24 := T.2.2.2.1.2.2.2.2.2.1
  obtain ⟨V, hV⟩ : ∃ z, z = σ := ⟨_, rfl⟩
  rcases p1 with ⟨n0, n1, n2, q1, ρp, h1p, S1, I1, D1, e1⟩ | ⟨cc, q1, ρp, h1p, S1, I1, D1, e1⟩ | ⟨cc, q1, ρp, h1p, S1, I1, D1, e1⟩ | ⟨cc, q1, ρp, h1p, S1, I1, D1, e1⟩
  · rcases p2 with ⟨m0, q2, mi⟩ | ⟨m0, m1, q2, mi⟩ | ⟨m0, m1, m2, q2, mi⟩ | ⟨m0, m1, m2, q2, mi⟩
    · exfalso; (try simp only [q.e 0, q.e 1, q.e 2, q.e 3, q.e 4, q.e 5, q.e 6, q.e 7, q.e 8, q.e 9, q.e 10, q.e 12, q.e 13, q.e 16, q.e 17, q.e 18, q.e 19, q.e 20, q.e 21, q.e 22, q.e 23, q.e 24, q.e 25, q.e 26, q.e 27, q.2, secS_r q, dyF_r q, opS_r q, usS_r q, shF_r q, ivM_r q, cst_r q, keptS_r q] at m0); (try rw [tx.1] at m0); omega
    · exfalso; (try simp only [q.e 0, q.e 1, q.e 2, q.e 3, q.e 4, q.e 5, q.e 6, q.e 7, q.e 8, q.e 9, q.e 10, q.e 12, q.e 13, q.e 16, q.e 17, q.e 18, q.e 19, q.e 20, q.e 21, q.e 22, q.e 23, q.e 24, q.e 25, q.e 26, q.e 27, q.2, secS_r q, dyF_r q, opS_r q, usS_r q, shF_r q, ivM_r q, cst_r q, keptS_r q] at m0 m1); (try rw [tx.1] at m0); omega
    · exfalso; (try simp only [q.e 0, q.e 1, q.e 2, q.e 3, q.e 4, q.e 5, q.e 6, q.e 7, q.e 8, q.e 9, q.e 10, q.e 12, q.e 13, q.e 16, q.e 17, q.e 18, q.e 19, q.e 20, q.e 21, q.e 22, q.e 23, q.e 24, q.e 25, q.e 26, q.e 27, q.2, secS_r q, dyF_r q, opS_r q, usS_r q, shF_r q, ivM_r q, cst_r q, keptS_r q] at m0 m1 m2); (try rw [tx.1] at m0); omega
    · exact TN.ok H D1 e1 D2 e2 (T.of mi (rg_su (rg_su (rg_su (rg_su (rg_su (rg_su T.2.1 (by decide)) (by omega)) (by omega)) (by omega)) (by decide)) (by simp only [q.e 8]; omega)) I1 (MC.sa S1 (MC_E T.2.2.2.1 (by omega) (by omega) (Or.inl rfl) (by omega))) (by have z := ((q.lu (k := 30) rfl 0 0).newE (n := ρ 8 0) (c := c9) (s := s9) (t := t9) (a := 101)).sa S1; rw [← q.e 8] at z; exact z) T.2.2.2.2.2.1.2.2 rfl rfl (S1 28 rfl) (S1 29 rfl)) rfl q1 q2 (by first | rfl | (rw [q.e11 (by omega)]) | (rw [(T.2.2.2.1.2.2.2.2.2.2.2.2.1 e9 (by omega) (by omega)).2.2.2.1 (by omega), q.e 0, q.e 10]) | (simp only [q.e 0, q.e 1, q.e 2, q.e 3, q.e 4, q.e 5, q.e 6, q.e 7, q.e 8, q.e 9, q.e 10, q.e 12, q.e 13, q.e 16, q.e 17, q.e 18, q.e 19, q.e 20, q.e 21, q.e 22, q.e 23, q.e 24, q.e 25, q.e 26, q.e 27, q.2, secS_r q, dyF_r q, opS_r q, usS_r q, shF_r q, ivM_r q, cst_r q, keptS_r q]; done) | (simp only [q.e 0, q.e 1, q.e 2, q.e 3, q.e 4, q.e 5, q.e 6, q.e 7, q.e 8, q.e 9, q.e 10, q.e 12, q.e 13, q.e 16, q.e 17, q.e 18, q.e 19, q.e 20, q.e 21, q.e 22, q.e 23, q.e 24, q.e 25, q.e 26, q.e 27, q.2, secS_r q, dyF_r q, opS_r q, usS_r q, shF_r q, ivM_r q, cst_r q, keptS_r q]; rfl))
  · rcases p2 with ⟨m0, q2, mi⟩ | ⟨m0, m1, q2, mi⟩ | ⟨m0, m1, m2, q2, mi⟩ | ⟨m0, m1, m2, q2, mi⟩
    · exact TN.err H T (by decide) I1 S1 D1 e1 mi D2 e2 q1 q2
    · exfalso; (try simp only [q.e 0, q.e 1, q.e 2, q.e 3, q.e 4, q.e 5, q.e 6, q.e 7, q.e 8, q.e 9, q.e 10, q.e 12, q.e 13, q.e 16, q.e 17, q.e 18, q.e 19, q.e 20, q.e 21, q.e 22, q.e 23, q.e 24, q.e 25, q.e 26, q.e 27, q.2, secS_r q, dyF_r q, opS_r q, usS_r q, shF_r q, ivM_r q, cst_r q, keptS_r q] at m0 m1); (try rw [tx.1] at m0); omega
    · exfalso; (try simp only [q.e 0, q.e 1, q.e 2, q.e 3, q.e 4, q.e 5, q.e 6, q.e 7, q.e 8, q.e 9, q.e 10, q.e 12, q.e 13, q.e 16, q.e 17, q.e 18, q.e 19, q.e 20, q.e 21, q.e 22, q.e 23, q.e 24, q.e 25, q.e 26, q.e 27, q.2, secS_r q, dyF_r q, opS_r q, usS_r q, shF_r q, ivM_r q, cst_r q, keptS_r q] at m0 m1 m2); (try rw [tx.1] at m0); omega
    · exfalso; (try simp only [q.e 0, q.e 1, q.e 2, q.e 3, q.e 4, q.e 5, q.e 6, q.e 7, q.e 8, q.e 9, q.e 10, q.e 12, q.e 13, q.e 16, q.e 17, q.e 18, q.e 19, q.e 20, q.e 21, q.e 22, q.e 23, q.e 24, q.e 25, q.e 26, q.e 27, q.2, secS_r q, dyF_r q, opS_r q, usS_r q, shF_r q, ivM_r q, cst_r q, keptS_r q] at m0 m1 m2); (try rw [tx.1] at m0); omega
  · rcases p2 with ⟨m0, q2, mi⟩ | ⟨m0, m1, q2, mi⟩ | ⟨m0, m1, m2, q2, mi⟩ | ⟨m0, m1, m2, q2, mi⟩
    · exfalso; (try simp only [q.e 0, q.e 1, q.e 2, q.e 3, q.e 4, q.e 5, q.e 6, q.e 7, q.e 8, q.e 9, q.e 10, q.e 12, q.e 13, q.e 16, q.e 17, q.e 18, q.e 19, q.e 20, q.e 21, q.e 22, q.e 23, q.e 24, q.e 25, q.e 26, q.e 27, q.2, secS_r q, dyF_r q, opS_r q, usS_r q, shF_r q, ivM_r q, cst_r q, keptS_r q] at m0); (try rw [tx.1] at m0); omega
    · exact TN.err H T (by decide) I1 S1 D1 e1 mi D2 e2 q1 q2
    · exfalso; (try simp only [q.e 0, q.e 1, q.e 2, q.e 3, q.e 4, q.e 5, q.e 6, q.e 7, q.e 8, q.e 9, q.e 10, q.e 12, q.e 13, q.e 16, q.e 17, q.e 18, q.e 19, q.e 20, q.e 21, q.e 22, q.e 23, q.e 24, q.e 25, q.e 26, q.e 27, q.2, secS_r q, dyF_r q, opS_r q, usS_r q, shF_r q, ivM_r q, cst_r q, keptS_r q] at m0 m1 m2); (try rw [tx.1] at m0); omega
    · exfalso; (try simp only [q.e 0, q.e 1, q.e 2, q.e 3, q.e 4, q.e 5, q.e 6, q.e 7, q.e 8, q.e 9, q.e 10, q.e 12, q.e 13, q.e 16, q.e 17, q.e 18, q.e 19, q.e 20, q.e 21, q.e 22, q.e 23, q.e 24, q.e 25, q.e 26, q.e 27, q.2, secS_r q, dyF_r q, opS_r q, usS_r q, shF_r q, ivM_r q, cst_r q, keptS_r q] at m0 m1 m2); (try rw [tx.1] at m0); omega
  · rcases p2 with ⟨m0, q2, mi⟩ | ⟨m0, m1, q2, mi⟩ | ⟨m0, m1, m2, q2, mi⟩ | ⟨m0, m1, m2, q2, mi⟩
    · exfalso; (try simp only [q.e 0, q.e 1, q.e 2, q.e 3, q.e 4, q.e 5, q.e 6, q.e 7, q.e 8, q.e 9, q.e 10, q.e 12, q.e 13, q.e 16, q.e 17, q.e 18, q.e 19, q.e 20, q.e 21, q.e 22, q.e 23, q.e 24, q.e 25, q.e 26, q.e 27, q.2, secS_r q, dyF_r q, opS_r q, usS_r q, shF_r q, ivM_r q, cst_r q, keptS_r q] at m0); (try rw [tx.1] at m0); omega
    · exfalso; (try simp only [q.e 0, q.e 1, q.e 2, q.e 3, q.e 4, q.e 5, q.e 6, q.e 7, q.e 8, q.e 9, q.e 10, q.e 12, q.e 13, q.e 16, q.e 17, q.e 18, q.e 19, q.e 20, q.e 21, q.e 22, q.e 23, q.e 24, q.e 25, q.e 26, q.e 27, q.2, secS_r q, dyF_r q, opS_r q, usS_r q, shF_r q, ivM_r q, cst_r q, keptS_r q] at m0 m1); (try rw [tx.1] at m0); omega
    · exact TN.err H T (by decide) I1 S1 D1 e1 mi D2 e2 q1 q2
    · exfalso; (try simp only [q.e 0, q.e 1, q.e 2, q.e 3, q.e 4, q.e 5, q.e 6, q.e 7, q.e 8, q.e 9, q.e 10, q.e 12, q.e 13, q.e 16, q.e 17, q.e 18, q.e 19, q.e 20, q.e 21, q.e 22, q.e 23, q.e 24, q.e 25, q.e 26, q.e 27, q.2, secS_r q, dyF_r q, opS_r q, usS_r q, shF_r q, ivM_r q, cst_r q, keptS_r q] at m0 m1 m2); (try rw [tx.1] at m0); omega
