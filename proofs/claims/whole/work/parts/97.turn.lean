/-! THE LAW: a turn: the helper's end and the model's put together -/
def TN (G : GG) (gm : Nat → Nat) (gc : Int → Nat) (h2 : Hp) (ao ad : Nat) (r1 r2 : Option AV) : Prop := ∃ (σ' ρ' : Sg) (hm' hc' : Hp) (v : Int), HM h2 hm' hc' ao ad ∧ RT G gm gc σ' ρ' hm' hc' ∧ r1 = some (vI (σ' 30 0)) ∧ (0 ≤ σ' 30 0 ∧ σ' 30 0 ≤ 3) ∧ r2 = some (vI v) ∧ (σ' 30 0 = 0 → ∃ f : Int → Int, h2 ao = some (eA 6 1 (fun j => vL (f j))) ∧ f 0 = (iI v).toInt)
section TNS
variable {G : GG} {gm : Nat → Nat} {gc : Int → Nat} {σ ρ σ' ρ' : Sg} {h h1 h2 hm hc hm' hc' : Hp} {ao ad : Nat} {r1 r2 : Option AV} {v : Int}
theorem TN.err (H : HM h hm hc ao ad) (T : RT G gm gc σ ρ hm hc) {k : Int} (hk : 1 ≤ k ∧ k ≤ 3) (ci : CI G gc ρ' hc') (sa : SA ρ ρ') (D1 : ∀ a, hc' a ≠ none → hc a ≠ none ∨ h a = none) (e1 : h1 = mgH h hc hc') (mi : MI gm (su σ 30 0 k) hm') (D2 : ∀ a, hm' a ≠ none → hm a ≠ none ∨ h1 a = none) (e2 : h2 = mgH h1 hm hm') (q1 : r1 = some (vI k)) (q2 : r2 = some (vI v)) : TN G gm gc h2 ao ad r1 r2 := by
  have e : su σ 30 0 k 30 0 = k := su_e
  have H1 : HM h1 hm hc' ao ad := by rw [e1]; exact H.stepC D1
  refine ⟨su σ 30 0 k, ρ', hm', hc', v, by rw [e2]; exact H1.stepM D2, T.same mi (rg_su T.2.1 (by omega)) ci sa (fun k' n1 n2 n3 => by funext j; exact su_n n3), by rw [e]; exact q1, by rw [e]; omega, q2, fun z => ?_⟩
  rw [e] at z
  omega
theorem TN.ok (H : HM h hm hc ao ad) {x : Int} {f0 : Int → Int} (D1 : ∀ a, hc' a ≠ none → hc a ≠ none ∨ h a = none) (e1 : h1 = hu (mgH h hc hc') ao (eA 6 1 (fun j => vL (if j = 0 then x else f0 j)))) (D2 : ∀ a, hm' a ≠ none → hm a ≠ none ∨ h1 a = none) (e2 : h2 = mgH h1 hm hm') (T' : RT G gm gc σ' ρ' hm' hc') (z : σ' 30 0 = 0) (q1 : r1 = some (vI 0)) (q2 : r2 = some (vI v)) (hx : x = (iI v).toInt) : TN G gm gc h2 ao ad r1 r2 := by
  have H1 : HM h1 hm hc' ao ad := by rw [e1]; exact (H.stepC D1).outL (fun j => if j = 0 then x else f0 j)
  have o1 : h1 ao = some (eA 6 1 (fun j => vL (if j = 0 then x else f0 j))) := by rw [e1]; exact hu_s _ _ _
  refine ⟨σ', ρ', hm', hc', v, by rw [e2]; exact H1.stepM D2, T', by rw [z]; exact q1, by rw [z]; omega, q2, fun _ => ⟨fun j => if j = 0 then x else f0 j, ?_, ?_⟩⟩
  · rw [e2]; exact mgH_out H1.mo o1
  · show (if (0 : Int) = 0 then x else f0 0) = _
    rw [if_pos rfl]; exact hx
end TNS
