/-! THE LAW: what a turn leaves -/
section RTS
variable {G : GG} {gm : Nat → Nat} {gc : Int → Nat} {σ ρ σ' ρ' : Sg} {hm hc hm' hc' : Hp}
theorem RT.of (T : RT G gm gc σ ρ hm hc) (mi : MI gm σ' hm') (rg : RG σ') (ci : CI G gc ρ' hc') (mc : MC ρ') (cq : CQ σ' ρ') (x : ∀ i, 0 ≤ i → i < 5 → (0 ≤ σ' 4 i ∧ σ' 4 i < 65536) ∧ (0 ≤ σ' 5 i ∧ σ' 5 i < 65536)) (e28 : σ' 28 = σ 28) (e29 : σ' 29 = σ 29) (r28 : ρ' 28 = ρ 28) (r29 : ρ' 29 = ρ 29) : RT G gm gc σ' ρ' hm' hc' := by
  obtain ⟨t1, t2, t3, t4, t5, ⟨x1, x2, x3⟩, t7, t8⟩ := T
  refine ⟨mi, rg, ci, mc, cq, ⟨by rw [e29]; exact x1, by rw [e28]; exact x2, x⟩, by rw [e29, r29]; exact t7, by rw [e28, r28, r29]; exact t8⟩
/-- nothing but scratch -/
theorem RT.same (T : RT G gm gc σ ρ hm hc) (mi : MI gm σ' hm') (rg : RG σ') (ci : CI G gc ρ' hc') (sa : SA ρ ρ') (e : ∀ k, k ≠ 14 → k ≠ 15 → k ≠ 30 → σ' k = σ k) : RT G gm gc σ' ρ' hm' hc' := by
  have T0 := T
  obtain ⟨t1, t2, t3, t4, t5, ⟨x1, x2, x3⟩, t7, t8⟩ := T
  have q : CQ σ' σ := ⟨fun k h => e k (by omega) (by omega) (by omega), by funext y; unfold enA; rw [e 12 (by decide) (by decide) (by decide), e 0 (by decide) (by decide) (by decide), e 11 (by decide) (by decide) (by decide)]⟩
  exact T0.of mi rg ci (MC.sa sa t4) ((q.trans t5).sa sa) (by rw [e 4 (by decide) (by decide) (by decide), e 5 (by decide) (by decide) (by decide)]; exact x3) (e 28 (by decide) (by decide) (by decide)) (e 29 (by decide) (by decide) (by decide)) (sa 28 rfl) (sa 29 rfl)
end RTS
