/-- not a NaN -/
def NN (x : UInt64) : Prop := FP.Core.val64 x ≠ .nan
theorem NN.v {x : UInt64} (h : NN x) : vf_n64 x := n64_v h
theorem NN.cmp {x : UInt64} (h : NN x) : (Op.cmpValue (FP.dcmp x x) .l).toInt = 0 := by
  have e : FP.dcmp x x = FP.Core.order (FP.Core.val64 x) (FP.Core.val64 x) := rfl
  rw [e]
  unfold NN at h
  generalize FP.Core.val64 x = d at h
  cases d with
  | nan => exact absurd rfl h
  | inf s =>
    have z : FP.Core.order (.inf s) (.inf s) = some .eq := congrArg some (Std.compare_self)
    rw [z]; rfl
  | fin s c q =>
    have z : FP.Core.order (.fin s c q) (.fin s c q) = some .eq := congrArg some (Std.compare_self)
    rw [z]; rfl
theorem f2d_nn {x : UInt32} (h : MG 255 x) : NN (FP.f2d x) := by
  have hf := FP.Core.fin_of_lt32 (a := x) h (Nat.le_refl _)
  have hc : FP.f2d x = FP.Core.f2d x := by
    obtain ⟨s, c, q, e⟩ := hf
    exact FP.f2d_core ((FP.Core.notNaN_iff32 x).mpr (by rw [e]; exact FP.Core.Datum.noConfusion))
  rw [hc]
  obtain ⟨s, c, q, e⟩ := FP.Core.f2d_fin hf
  show FP.Core.val64 _ ≠ .nan
  rw [e]; exact FP.Core.Datum.noConfusion
theorem mean_nn {ρ : Sg} (hV : MC ρ) (hk : ¬ keptS ρ = 0) : NN (meanS ρ) := by
  have h := mean_nb hV hk
  generalize meanS ρ = x at h
  rcases h with z | ⟨z1, z2⟩
  · rw [z]; exact (FP.Core.ne_nan 0).mpr (by decide)
  · exact (FP.Core.ne_nan x).mpr (by have : x.toNat % 2 ^ 63 ≤ x.toNat := Nat.mod_le _ _; omega)
def TNG (G : GG) (gm : Nat → Nat) (gc : Int → Nat) (h2 : Hp) (ao ad : Nat) (r1 : Option AV) (P : Prop) : Prop := ∃ (σ' ρ' : Sg) (hm' hc' : Hp), HM h2 hm' hc' ao ad ∧ RT G gm gc σ' ρ' hm' hc' ∧ r1 = some (vI (σ' 30 0)) ∧ (0 ≤ σ' 30 0 ∧ σ' 30 0 ≤ 3) ∧ (σ' 30 0 = 0 → P)
section TNGS
variable {G : GG} {gm : Nat → Nat} {gc : Int → Nat} {σ ρ σ' ρ' : Sg} {h h1 h2 hm hc hm' hc' : Hp} {ao ad : Nat} {r1 : Option AV} {P : Prop}
theorem TNG.err (H : HM h hm hc ao ad) (T : RT G gm gc σ ρ hm hc) {k : Int} (hk : 1 ≤ k ∧ k ≤ 3) (ci : CI G gc ρ' hc') (sa : SA ρ ρ') (D1 : ∀ a, hc' a ≠ none → hc a ≠ none ∨ h a = none) (e1 : h1 = mgH h hc hc') (mi : MI gm (su σ 30 0 k) hm') (D2 : ∀ a, hm' a ≠ none → hm a ≠ none ∨ h1 a = none) (e2 : h2 = mgH h1 hm hm') (q1 : r1 = some (vI k)) : TNG G gm gc h2 ao ad r1 P := by
  have e : su σ 30 0 k 30 0 = k := su_e
  have H1 : HM h1 hm hc' ao ad := by rw [e1]; exact H.stepC D1
  refine ⟨su σ 30 0 k, ρ', hm', hc', by rw [e2]; exact H1.stepM D2, T.same mi (rg_su T.2.1 (by omega)) ci sa (fun k' n1 n2 n3 => by funext j; exact su_n n3), by rw [e]; exact q1, by rw [e]; omega, fun z => ?_⟩
  rw [e] at z
  omega
theorem TNG.okL (H : HM h hm hc ao ad) {x y : Int} {f0 : Int → Int} (D1 : ∀ a, hc' a ≠ none → hc a ≠ none ∨ h a = none) (e1 : h1 = hu (mgH h hc hc') ao (eA 6 1 (fun j => vL (if j = 0 then x else f0 j)))) (D2 : ∀ a, hm' a ≠ none → hm a ≠ none ∨ h1 a = none) (e2 : h2 = mgH h1 hm hm') (T' : RT G gm gc σ' ρ' hm' hc') (z : σ' 30 0 = 0) (q1 : r1 = some (vI 0)) (hx : x = y) : TNG G gm gc h2 ao ad r1 (∃ f : Int → Int, h2 ao = some (eA 6 1 (fun j => vL (f j))) ∧ f 0 = y) := by
  have H1 : HM h1 hm hc' ao ad := by rw [e1]; exact (H.stepC D1).outL (fun j => if j = 0 then x else f0 j)
  have o1 : h1 ao = some (eA 6 1 (fun j => vL (if j = 0 then x else f0 j))) := by rw [e1]; exact hu_s _ _ _
  refine ⟨σ', ρ', hm', hc', by rw [e2]; exact H1.stepM D2, T', by rw [z]; exact q1, by rw [z]; omega, fun _ => ⟨fun j => if j = 0 then x else f0 j, ?_, ?_⟩⟩
  · rw [e2]; exact mgH_out H1.mo o1
  · show (if (0 : Int) = 0 then x else f0 0) = _
    rw [if_pos rfl]; exact hx
theorem TNG.okD (H : HM h hm hc ao ad) {x y : UInt64} {f0 : Int → UInt64} (D1 : ∀ a, hc' a ≠ none → hc a ≠ none ∨ h a = none) (e1 : h1 = hu (mgH h hc hc') ad (eA 7 1 (fun j => vD (if j = 0 then x else f0 j)))) (D2 : ∀ a, hm' a ≠ none → hm a ≠ none ∨ h1 a = none) (e2 : h2 = mgH h1 hm hm') (T' : RT G gm gc σ' ρ' hm' hc') (z : σ' 30 0 = 0) (q1 : r1 = some (vI 0)) (hx : x = y) (hn : NN x) : TNG G gm gc h2 ao ad r1 (NN y ∧ ∃ f : Int → UInt64, h2 ad = some (eA 7 1 (fun j => vD (f j))) ∧ f 0 = y) := by
  have H1 : HM h1 hm hc' ao ad := by rw [e1]; exact (H.stepC D1).outD (fun j => if j = 0 then x else f0 j)
  have o1 : h1 ad = some (eA 7 1 (fun j => vD (if j = 0 then x else f0 j))) := by rw [e1]; exact hu_s _ _ _
  refine ⟨σ', ρ', hm', hc', by rw [e2]; exact H1.stepM D2, T', by rw [z]; exact q1, by rw [z]; omega, fun _ => ⟨by rw [← hx]; exact hn, fun j => if j = 0 then x else f0 j, ?_, ?_⟩⟩
  · rw [e2]; exact mgH_out H1.md o1
  · show (if (0 : Int) = 0 then x else f0 0) = _
    rw [if_pos rfl]; exact hx
end TNGS
theorem turn_total {G : GG} {gm : Nat → Nat} {gc : Int → Nat} {σ ρ : Sg} {h H1 h2 hm hc : Hp} {ao ad : Nat} {r1 r2 : Option AV} {f0 : Int → UInt64} {i9 : Int} (H : HM h hm hc ao ad) (T : RT G gm gc σ ρ hm hc) (p1 : (¬ (¬ (0 ≤ i9 ∧ i9 < ρ 16 0)) ∧ r1 = some (vI 0) ∧ ∃ (ρp : Sg) (h1p : Hp), SA (ρ) ρp ∧ CI G gc ρp h1p ∧ (∀ a, h1p a ≠ none → hc a ≠ none ∨ h a = none) ∧ H1 = hu (mgH h hc h1p) ad (eA 7 1 (fun j => vD (if j = 0 then FP.f2d (fb (ρ 23 i9)) else f0 j)))) ∨ (((¬ (0 ≤ i9 ∧ i9 < ρ 16 0))) ∧ r1 = some (vI 1) ∧ ∃ (ρp : Sg) (h1p : Hp), SA ρ ρp ∧ CI G gc ρp h1p ∧ (∀ a, h1p a ≠ none → hc a ≠ none ∨ h a = none) ∧ H1 = mgH h hc h1p)) (p2 : ∃ hm' : Hp, (((¬ (0 ≤ i9 ∧ i9 < σ 16 0)) ∧ r2 = some (vF 0) ∧ MI gm (su σ 30 0 1) hm') ∨ (¬ (¬ (0 ≤ i9 ∧ i9 < σ 16 0)) ∧ r2 = some (vF (fb (σ 23 i9))) ∧ MI gm (su σ 30 0 0) hm')) ∧ (∀ a, hm' a ≠ none → hm a ≠ none ∨ H1 a = none) ∧ h2 = mgH H1 hm hm') : ∃ x : UInt32, r2 = some (vF x) ∧ TNG G gm gc h2 ao ad r1 (NN (FP.f2d x) ∧ ∃ f : Int → UInt64, h2 ad = some (eA 7 1 (fun j => vD (f j))) ∧ f 0 = FP.f2d x) := by
  obtain ⟨hm', p2, D2, e2⟩ := p2
  have q := T.2.2.2.2.1
  have tx := T.2.2.2.2.2.2
  have b0 := T.2.2.2.1.1
  have b2 := T.2.2.2.1.2.2.1
  have b8 := T.2.2.2.1.2.2.2.1
  have b16 := T.2.2.2.1.2.2.2.2.1
  have b24 := T.2.2.2.1.2.2.2.2.2.1
  obtain ⟨V, hV⟩ : ∃ z, z = σ := ⟨_, rfl⟩
  rcases p1 with ⟨n0, q1, ρp, h1p, S1, I1, D1, e1⟩ | ⟨cc, q1, ρp, h1p, S1, I1, D1, e1⟩
  · rcases p2 with ⟨m0, q2, mi⟩ | ⟨m0, q2, mi⟩
    · exfalso; (try simp only [q.e 0, q.e 1, q.e 2, q.e 3, q.e 4, q.e 5, q.e 6, q.e 7, q.e 8, q.e 9, q.e 10, q.e 12, q.e 13, q.e 16, q.e 17, q.e 18, q.e 19, q.e 20, q.e 21, q.e 22, q.e 23, q.e 24, q.e 25, q.e 26, q.e 27, q.2, secS_r q, dyF_r q, opS_r q, usS_r q, shF_r q, ivM_r q, cst_r q, keptS_r q, hcF_r q, meanS_r q] at m0); (try rw [tx.1] at m0); omega
    · exact ⟨_, q2, TNG.okD H D1 e1 D2 e2 (T.same mi (rg_su T.2.1 (by decide)) I1 S1 (fun k n1 n2 n3 => by first | (rw [sw_n n2, sw_n n1]; funext y; exact su_n n3) | (funext y; exact su_n n3))) rfl q1 (by rw [q.e 23]) (f2d_nn (T.2.2.2.1.tot (by omega)))⟩
  · rcases p2 with ⟨m0, q2, mi⟩ | ⟨m0, q2, mi⟩
    · exact ⟨_, q2, TNG.err H T (by decide) I1 S1 D1 e1 mi D2 e2 q1⟩
    · exfalso; (try simp only [q.e 0, q.e 1, q.e 2, q.e 3, q.e 4, q.e 5, q.e 6, q.e 7, q.e 8, q.e 9, q.e 10, q.e 12, q.e 13, q.e 16, q.e 17, q.e 18, q.e 19, q.e 20, q.e 21, q.e 22, q.e 23, q.e 24, q.e 25, q.e 26, q.e 27, q.2, secS_r q, dyF_r q, opS_r q, usS_r q, shF_r q, ivM_r q, cst_r q, keptS_r q, hcF_r q, meanS_r q] at m0); (try rw [tx.1] at m0); omega
theorem turn_lineAmount {G : GG} {gm : Nat → Nat} {gc : Int → Nat} {σ ρ : Sg} {h H1 h2 hm hc : Hp} {ao ad : Nat} {r1 r2 : Option AV} {f0 : Int → UInt64} {i9 q9 : Int} (H : HM h hm hc ao ad) (T : RT G gm gc σ ρ hm hc) (p1 : (¬ (¬ ((0 ≤ i9 ∧ i9 < ρ 16 0) ∧ (0 ≤ q9 ∧ q9 < ρ 17 i9))) ∧ r1 = some (vI 0) ∧ ∃ (ρp : Sg) (h1p : Hp), SA (ρ) ρp ∧ CI G gc ρp h1p ∧ (∀ a, h1p a ≠ none → hc a ≠ none ∨ h a = none) ∧ H1 = hu (mgH h hc h1p) ad (eA 7 1 (fun j => vD (if j = 0 then FP.f2d (fb (ρ 22 (40 * i9 + q9))) else f0 j)))) ∨ (((¬ ((0 ≤ i9 ∧ i9 < ρ 16 0) ∧ (0 ≤ q9 ∧ q9 < ρ 17 i9)))) ∧ r1 = some (vI 1) ∧ ∃ (ρp : Sg) (h1p : Hp), SA ρ ρp ∧ CI G gc ρp h1p ∧ (∀ a, h1p a ≠ none → hc a ≠ none ∨ h a = none) ∧ H1 = mgH h hc h1p)) (p2 : ∃ hm' : Hp, (((¬ ((0 ≤ i9 ∧ i9 < σ 16 0) ∧ (0 ≤ q9 ∧ q9 < σ 17 i9))) ∧ r2 = some (vF 0) ∧ MI gm (su σ 30 0 1) hm') ∨ (¬ (¬ ((0 ≤ i9 ∧ i9 < σ 16 0) ∧ (0 ≤ q9 ∧ q9 < σ 17 i9))) ∧ r2 = some (vF (fb (σ 22 (40 * i9 + q9)))) ∧ MI gm (su σ 30 0 0) hm')) ∧ (∀ a, hm' a ≠ none → hm a ≠ none ∨ H1 a = none) ∧ h2 = mgH H1 hm hm') : ∃ x : UInt32, r2 = some (vF x) ∧ TNG G gm gc h2 ao ad r1 (NN (FP.f2d x) ∧ ∃ f : Int → UInt64, h2 ad = some (eA 7 1 (fun j => vD (f j))) ∧ f 0 = FP.f2d x) := by
  obtain ⟨hm', p2, D2, e2⟩ := p2
  have q := T.2.2.2.2.1
  have tx := T.2.2.2.2.2.2
  have b0 := T.2.2.2.1.1
  have b2 := T.2.2.2.1.2.2.1
  have b8 := T.2.2.2.1.2.2.2.1
  have b16 := T.2.2.2.1.2.2.2.2.1
  have b24 := T.2.2.2.1.2.2.2.2.2.1
  obtain ⟨V, hV⟩ : ∃ z, z = σ := ⟨_, rfl⟩
  rcases p1 with ⟨n0, q1, ρp, h1p, S1, I1, D1, e1⟩ | ⟨cc, q1, ρp, h1p, S1, I1, D1, e1⟩
  · rcases p2 with ⟨m0, q2, mi⟩ | ⟨m0, q2, mi⟩
    · exfalso; (try simp only [q.e 0, q.e 1, q.e 2, q.e 3, q.e 4, q.e 5, q.e 6, q.e 7, q.e 8, q.e 9, q.e 10, q.e 12, q.e 13, q.e 16, q.e 17, q.e 18, q.e 19, q.e 20, q.e 21, q.e 22, q.e 23, q.e 24, q.e 25, q.e 26, q.e 27, q.2, secS_r q, dyF_r q, opS_r q, usS_r q, shF_r q, ivM_r q, cst_r q, keptS_r q, hcF_r q, meanS_r q] at m0); (try rw [tx.1] at m0); omega
    · exact ⟨_, q2, TNG.okD H D1 e1 D2 e2 (T.same mi (rg_su T.2.1 (by decide)) I1 S1 (fun k n1 n2 n3 => by first | (rw [sw_n n2, sw_n n1]; funext y; exact su_n n3) | (funext y; exact su_n n3))) rfl q1 (by rw [q.e 22]) (f2d_nn (T.2.2.2.1.am (by omega) (by omega)))⟩
  · rcases p2 with ⟨m0, q2, mi⟩ | ⟨m0, q2, mi⟩
    · exact ⟨_, q2, TNG.err H T (by decide) I1 S1 D1 e1 mi D2 e2 q1⟩
    · exfalso; (try simp only [q.e 0, q.e 1, q.e 2, q.e 3, q.e 4, q.e 5, q.e 6, q.e 7, q.e 8, q.e 9, q.e 10, q.e 12, q.e 13, q.e 16, q.e 17, q.e 18, q.e 19, q.e 20, q.e 21, q.e 22, q.e 23, q.e 24, q.e 25, q.e 26, q.e 27, q.2, secS_r q, dyF_r q, opS_r q, usS_r q, shF_r q, ivM_r q, cst_r q, keptS_r q, hcF_r q, meanS_r q] at m0); (try rw [tx.1] at m0); omega
theorem turn_budgetShare {G : GG} {gm : Nat → Nat} {gc : Int → Nat} {σ ρ : Sg} {h H1 h2 hm hc : Hp} {ao ad : Nat} {r1 r2 : Option AV} {f0 : Int → UInt64} {c9 : Int} (H : HM h hm hc ao ad) (T : RT G gm gc σ ρ hm hc) (p1 : (¬ (¬ (0 ≤ c9 ∧ c9 < ρ 2 0)) ∧ ¬ (ρ 7 c9 = 0) ∧ r1 = some (vI 0) ∧ ∃ (ρp : Sg) (h1p : Hp), SA (ρ) ρp ∧ CI G gc ρp h1p ∧ (∀ a, h1p a ≠ none → hc a ≠ none ∨ h a = none) ∧ H1 = hu (mgH h hc h1p) ad (eA 7 1 (fun j => vD (if j = 0 then FP.f2d (shF ρ c9) else f0 j)))) ∨ (((¬ (0 ≤ c9 ∧ c9 < ρ 2 0))) ∧ r1 = some (vI 1) ∧ ∃ (ρp : Sg) (h1p : Hp), SA ρ ρp ∧ CI G gc ρp h1p ∧ (∀ a, h1p a ≠ none → hc a ≠ none ∨ h a = none) ∧ H1 = mgH h hc h1p) ∨ ((¬ (¬ (0 ≤ c9 ∧ c9 < ρ 2 0)) ∧ (ρ 7 c9 = 0)) ∧ r1 = some (vI 2) ∧ ∃ (ρp : Sg) (h1p : Hp), SA ρ ρp ∧ CI G gc ρp h1p ∧ (∀ a, h1p a ≠ none → hc a ≠ none ∨ h a = none) ∧ H1 = mgH h hc h1p)) (p2 : ∃ hm' : Hp, (((¬ (0 ≤ c9 ∧ c9 < σ 2 0)) ∧ r2 = some (vF 0) ∧ MI gm (su σ 30 0 1) hm') ∨ (¬ (¬ (0 ≤ c9 ∧ c9 < σ 2 0)) ∧ (σ 7 c9 = 0) ∧ r2 = some (vF 0) ∧ MI gm (su σ 30 0 2) hm') ∨ (¬ (¬ (0 ≤ c9 ∧ c9 < σ 2 0)) ∧ ¬ (σ 7 c9 = 0) ∧ r2 = some (vF (shF σ c9)) ∧ ∃ s d : Int → Int, MI gm (sw (sw (su σ 30 0 0) 14 s) 15 d) hm' ∧ (∀ j, -2147483648 ≤ s j ∧ s j < 2147483648) ∧ (∀ j, -2147483648 ≤ d j ∧ d j < 2147483648))) ∧ (∀ a, hm' a ≠ none → hm a ≠ none ∨ H1 a = none) ∧ h2 = mgH H1 hm hm') : ∃ x : UInt32, r2 = some (vF x) ∧ TNG G gm gc h2 ao ad r1 (NN (FP.f2d x) ∧ ∃ f : Int → UInt64, h2 ad = some (eA 7 1 (fun j => vD (f j))) ∧ f 0 = FP.f2d x) := by
  obtain ⟨hm', p2, D2, e2⟩ := p2
  have q := T.2.2.2.2.1
  have tx := T.2.2.2.2.2.2
  have b0 := T.2.2.2.1.1
  have b2 := T.2.2.2.1.2.2.1
  have b8 := T.2.2.2.1.2.2.2.1
  have b16 := T.2.2.2.1.2.2.2.2.1
  have b24 := T.2.2.2.1.2.2.2.2.2.1
  obtain ⟨V, hV⟩ : ∃ z, z = σ := ⟨_, rfl⟩
  rcases p1 with ⟨n0, n1, q1, ρp, h1p, S1, I1, D1, e1⟩ | ⟨cc, q1, ρp, h1p, S1, I1, D1, e1⟩ | ⟨cc, q1, ρp, h1p, S1, I1, D1, e1⟩
  · rcases p2 with ⟨m0, q2, mi⟩ | ⟨m0, m1, q2, mi⟩ | ⟨m0, m1, q2, s, d, mi, rs, rd⟩
    · exfalso; (try simp only [q.e 0, q.e 1, q.e 2, q.e 3, q.e 4, q.e 5, q.e 6, q.e 7, q.e 8, q.e 9, q.e 10, q.e 12, q.e 13, q.e 16, q.e 17, q.e 18, q.e 19, q.e 20, q.e 21, q.e 22, q.e 23, q.e 24, q.e 25, q.e 26, q.e 27, q.2, secS_r q, dyF_r q, opS_r q, usS_r q, shF_r q, ivM_r q, cst_r q, keptS_r q, hcF_r q, meanS_r q] at m0); (try rw [tx.1] at m0); omega
    · exfalso; (try simp only [q.e 0, q.e 1, q.e 2, q.e 3, q.e 4, q.e 5, q.e 6, q.e 7, q.e 8, q.e 9, q.e 10, q.e 12, q.e 13, q.e 16, q.e 17, q.e 18, q.e 19, q.e 20, q.e 21, q.e 22, q.e 23, q.e 24, q.e 25, q.e 26, q.e 27, q.2, secS_r q, dyF_r q, opS_r q, usS_r q, shF_r q, ivM_r q, cst_r q, keptS_r q, hcF_r q, meanS_r q] at m0 m1); (try rw [tx.1] at m0); omega
    · exact ⟨_, q2, TNG.okD H D1 e1 D2 e2 (T.same mi (rg_sw (rg_sw (rg_su T.2.1 (by decide)) rs) rd) I1 S1 (fun k n1 n2 n3 => by first | (rw [sw_n n2, sw_n n1]; funext y; exact su_n n3) | (funext y; exact su_n n3))) rfl q1 (by rw [shF_r q]) (f2d_nn (T.2.2.2.1.sh (by omega) (by omega)))⟩
  · rcases p2 with ⟨m0, q2, mi⟩ | ⟨m0, m1, q2, mi⟩ | ⟨m0, m1, q2, s, d, mi, rs, rd⟩
    · exact ⟨_, q2, TNG.err H T (by decide) I1 S1 D1 e1 mi D2 e2 q1⟩
    · exfalso; (try simp only [q.e 0, q.e 1, q.e 2, q.e 3, q.e 4, q.e 5, q.e 6, q.e 7, q.e 8, q.e 9, q.e 10, q.e 12, q.e 13, q.e 16, q.e 17, q.e 18, q.e 19, q.e 20, q.e 21, q.e 22, q.e 23, q.e 24, q.e 25, q.e 26, q.e 27, q.2, secS_r q, dyF_r q, opS_r q, usS_r q, shF_r q, ivM_r q, cst_r q, keptS_r q, hcF_r q, meanS_r q] at m0 m1); (try rw [tx.1] at m0); omega
    · exfalso; (try simp only [q.e 0, q.e 1, q.e 2, q.e 3, q.e 4, q.e 5, q.e 6, q.e 7, q.e 8, q.e 9, q.e 10, q.e 12, q.e 13, q.e 16, q.e 17, q.e 18, q.e 19, q.e 20, q.e 21, q.e 22, q.e 23, q.e 24, q.e 25, q.e 26, q.e 27, q.2, secS_r q, dyF_r q, opS_r q, usS_r q, shF_r q, ivM_r q, cst_r q, keptS_r q, hcF_r q, meanS_r q] at m0 m1); (try rw [tx.1] at m0); omega
  · rcases p2 with ⟨m0, q2, mi⟩ | ⟨m0, m1, q2, mi⟩ | ⟨m0, m1, q2, s, d, mi, rs, rd⟩
    · exfalso; (try simp only [q.e 0, q.e 1, q.e 2, q.e 3, q.e 4, q.e 5, q.e 6, q.e 7, q.e 8, q.e 9, q.e 10, q.e 12, q.e 13, q.e 16, q.e 17, q.e 18, q.e 19, q.e 20, q.e 21, q.e 22, q.e 23, q.e 24, q.e 25, q.e 26, q.e 27, q.2, secS_r q, dyF_r q, opS_r q, usS_r q, shF_r q, ivM_r q, cst_r q, keptS_r q, hcF_r q, meanS_r q] at m0); (try rw [tx.1] at m0); omega
    · exact ⟨_, q2, TNG.err H T (by decide) I1 S1 D1 e1 mi D2 e2 q1⟩
    · exfalso; (try simp only [q.e 0, q.e 1, q.e 2, q.e 3, q.e 4, q.e 5, q.e 6, q.e 7, q.e 8, q.e 9, q.e 10, q.e 12, q.e 13, q.e 16, q.e 17, q.e 18, q.e 19, q.e 20, q.e 21, q.e 22, q.e 23, q.e 24, q.e 25, q.e 26, q.e 27, q.2, secS_r q, dyF_r q, opS_r q, usS_r q, shF_r q, ivM_r q, cst_r q, keptS_r q, hcF_r q, meanS_r q] at m0 m1); (try rw [tx.1] at m0); omega
theorem turn_meanMinutes {G : GG} {gm : Nat → Nat} {gc : Int → Nat} {σ ρ : Sg} {h H1 h2 hm hc : Hp} {ao ad : Nat} {r1 r2 : Option AV} {f0 : Int → UInt64}  (H : HM h hm hc ao ad) (T : RT G gm gc σ ρ hm hc) (p1 : (¬ (keptS ρ = 0) ∧ r1 = some (vI 0) ∧ ∃ (ρp : Sg) (h1p : Hp), SA (ρ) ρp ∧ CI G gc ρp h1p ∧ (∀ a, h1p a ≠ none → hc a ≠ none ∨ h a = none) ∧ H1 = hu (mgH h hc h1p) ad (eA 7 1 (fun j => vD (if j = 0 then (meanS ρ) else f0 j)))) ∨ (((keptS ρ = 0)) ∧ r1 = some (vI 1) ∧ ∃ (ρp : Sg) (h1p : Hp), SA ρ ρp ∧ CI G gc ρp h1p ∧ (∀ a, h1p a ≠ none → hc a ≠ none ∨ h a = none) ∧ H1 = mgH h hc h1p)) (p2 : ∃ hm' : Hp, ((keptS σ = 0 ∧ r2 = some (vD 0) ∧ MI gm (su σ 30 0 1) hm') ∨ (¬ keptS σ = 0 ∧ r2 = some (vD (meanS σ)) ∧ ∃ s d : Int → Int, MI gm (sw (sw (su σ 30 0 0) 14 s) 15 d) hm' ∧ RF s ∧ RF d)) ∧ (∀ a, hm' a ≠ none → hm a ≠ none ∨ H1 a = none) ∧ h2 = mgH H1 hm hm') : ∃ x : UInt64, r2 = some (vD x) ∧ TNG G gm gc h2 ao ad r1 (NN x ∧ ∃ f : Int → UInt64, h2 ad = some (eA 7 1 (fun j => vD (f j))) ∧ f 0 = x) := by
  obtain ⟨hm', p2, D2, e2⟩ := p2
  have q := T.2.2.2.2.1
  have tx := T.2.2.2.2.2.2
  have b0 := T.2.2.2.1.1
  have b2 := T.2.2.2.1.2.2.1
  have b8 := T.2.2.2.1.2.2.2.1
  have b16 := T.2.2.2.1.2.2.2.2.1
  have b24 := T.2.2.2.1.2.2.2.2.2.1
  obtain ⟨V, hV⟩ : ∃ z, z = σ := ⟨_, rfl⟩
  rcases p1 with ⟨n0, q1, ρp, h1p, S1, I1, D1, e1⟩ | ⟨cc, q1, ρp, h1p, S1, I1, D1, e1⟩
  · rcases p2 with ⟨m0, q2, mi⟩ | ⟨m0, q2, s, d, mi, rs, rd⟩
    · exfalso; (try simp only [q.e 0, q.e 1, q.e 2, q.e 3, q.e 4, q.e 5, q.e 6, q.e 7, q.e 8, q.e 9, q.e 10, q.e 12, q.e 13, q.e 16, q.e 17, q.e 18, q.e 19, q.e 20, q.e 21, q.e 22, q.e 23, q.e 24, q.e 25, q.e 26, q.e 27, q.2, secS_r q, dyF_r q, opS_r q, usS_r q, shF_r q, ivM_r q, cst_r q, keptS_r q, hcF_r q, meanS_r q] at m0); (try rw [tx.1] at m0); omega
    · exact ⟨_, q2, TNG.okD H D1 e1 D2 e2 (T.same mi (rg_sw (rg_sw (rg_su T.2.1 (by decide)) rs) rd) I1 S1 (fun k n1 n2 n3 => by first | (rw [sw_n n2, sw_n n1]; funext y; exact su_n n3) | (funext y; exact su_n n3))) rfl q1 (by rw [meanS_r q]) (mean_nn T.2.2.2.1 n0)⟩
  · rcases p2 with ⟨m0, q2, mi⟩ | ⟨m0, q2, s, d, mi, rs, rd⟩
    · exact ⟨_, q2, TNG.err H T (by decide) I1 S1 D1 e1 mi D2 e2 q1⟩
    · exfalso; (try simp only [q.e 0, q.e 1, q.e 2, q.e 3, q.e 4, q.e 5, q.e 6, q.e 7, q.e 8, q.e 9, q.e 10, q.e 12, q.e 13, q.e 16, q.e 17, q.e 18, q.e 19, q.e 20, q.e 21, q.e 22, q.e 23, q.e 24, q.e 25, q.e 26, q.e 27, q.2, secS_r q, dyF_r q, opS_r q, usS_r q, shF_r q, ivM_r q, cst_r q, keptS_r q, hcF_r q, meanS_r q] at m0); (try rw [tx.1] at m0); omega
theorem turn_meanBits {G : GG} {gm : Nat → Nat} {gc : Int → Nat} {σ ρ : Sg} {h H1 h2 hm hc : Hp} {ao ad : Nat} {r1 r2 : Option AV} {f0 : Int → Int}  (H : HM h hm hc ao ad) (T : RT G gm gc σ ρ hm hc) (p1 : (¬ (keptS ρ = 0) ∧ r1 = some (vI 0) ∧ ∃ (ρp : Sg) (h1p : Hp), SA (ρ) ρp ∧ CI G gc ρp h1p ∧ (∀ a, h1p a ≠ none → hc a ≠ none ∨ h a = none) ∧ H1 = hu (mgH h hc h1p) ao (eA 6 1 (fun j => vL (if j = 0 then (meanS ρ).toInt64.toInt else f0 j)))) ∨ (((keptS ρ = 0)) ∧ r1 = some (vI 1) ∧ ∃ (ρp : Sg) (h1p : Hp), SA ρ ρp ∧ CI G gc ρp h1p ∧ (∀ a, h1p a ≠ none → hc a ≠ none ∨ h a = none) ∧ H1 = mgH h hc h1p)) (p2 : ∃ hm' : Hp, ((keptS σ = 0 ∧ r2 = some (vL 0) ∧ MI gm (su σ 30 0 1) hm') ∨ (¬ keptS σ = 0 ∧ r2 = some (vL (meanS σ).toInt64.toInt) ∧ ∃ s d : Int → Int, MI gm (sw (sw (su σ 30 0 0) 14 s) 15 d) hm' ∧ RF s ∧ RF d)) ∧ (∀ a, hm' a ≠ none → hm a ≠ none ∨ H1 a = none) ∧ h2 = mgH H1 hm hm') : ∃ v : Int, r2 = some (vL v) ∧ TNG G gm gc h2 ao ad r1 (∃ f : Int → Int, h2 ao = some (eA 6 1 (fun j => vL (f j))) ∧ f 0 = v) := by
  obtain ⟨hm', p2, D2, e2⟩ := p2
  have q := T.2.2.2.2.1
  have tx := T.2.2.2.2.2.2
  have b0 := T.2.2.2.1.1
  have b2 := T.2.2.2.1.2.2.1
  have b8 := T.2.2.2.1.2.2.2.1
  have b16 := T.2.2.2.1.2.2.2.2.1
  have b24 := T.2.2.2.1.2.2.2.2.2.1
  obtain ⟨V, hV⟩ : ∃ z, z = σ := ⟨_, rfl⟩
  rcases p1 with ⟨n0, q1, ρp, h1p, S1, I1, D1, e1⟩ | ⟨cc, q1, ρp, h1p, S1, I1, D1, e1⟩
  · rcases p2 with ⟨m0, q2, mi⟩ | ⟨m0, q2, s, d, mi, rs, rd⟩
    · exfalso; (try simp only [q.e 0, q.e 1, q.e 2, q.e 3, q.e 4, q.e 5, q.e 6, q.e 7, q.e 8, q.e 9, q.e 10, q.e 12, q.e 13, q.e 16, q.e 17, q.e 18, q.e 19, q.e 20, q.e 21, q.e 22, q.e 23, q.e 24, q.e 25, q.e 26, q.e 27, q.2, secS_r q, dyF_r q, opS_r q, usS_r q, shF_r q, ivM_r q, cst_r q, keptS_r q, hcF_r q, meanS_r q] at m0); (try rw [tx.1] at m0); omega
    · exact ⟨_, q2, TNG.okL H D1 e1 D2 e2 (T.same mi (rg_sw (rg_sw (rg_su T.2.1 (by decide)) rs) rd) I1 S1 (fun k n1 n2 n3 => by first | (rw [sw_n n2, sw_n n1]; funext y; exact su_n n3) | (funext y; exact su_n n3))) rfl q1 (by rw [meanS_r q])⟩
  · rcases p2 with ⟨m0, q2, mi⟩ | ⟨m0, q2, s, d, mi, rs, rd⟩
    · exact ⟨_, q2, TNG.err H T (by decide) I1 S1 D1 e1 mi D2 e2 q1⟩
    · exfalso; (try simp only [q.e 0, q.e 1, q.e 2, q.e 3, q.e 4, q.e 5, q.e 6, q.e 7, q.e 8, q.e 9, q.e 10, q.e 12, q.e 13, q.e 16, q.e 17, q.e 18, q.e 19, q.e 20, q.e 21, q.e 22, q.e 23, q.e 24, q.e 25, q.e 26, q.e 27, q.2, secS_r q, dyF_r q, opS_r q, usS_r q, shF_r q, ivM_r q, cst_r q, keptS_r q, hcF_r q, meanS_r q] at m0); (try rw [tx.1] at m0); omega
