/-! THE LAW: the model's numbers beside the class's -/
theorem CQ.symm {a b : Sg} (q : CQ a b) : CQ b a := ⟨fun k h => (q.1 k h).symm, q.2.symm⟩
theorem CQ.trans {a b c : Sg} (q : CQ a b) (r : CQ b c) : CQ a c := ⟨fun k h => (q.1 k h).trans (r.1 k h), q.2.trans r.2⟩
theorem CQ.sa {σ ρ ρ' : Sg} (q : CQ σ ρ) (s : SA ρ ρ') : CQ σ ρ' := q.trans s.c.symm
def lfB (k : Nat) : Bool := k == 14 || k == 15 || k == 28 || k == 29 || k == 30
/-- what only the model has -/
theorem CQ.lu {σ ρ : Sg} (q : CQ σ ρ) {k : Nat} (hk : lfB k = true) (i v : Int) : CQ (su σ k i v) ρ := by
  have ne : ∀ k', (k' ≤ 27 ∧ k' ≠ 14 ∧ k' ≠ 15) → k' ≠ k := fun k' h z => by rw [← z] at hk; unfold lfB at hk; simp at hk; omega
  have e : ∀ k', (k' ≤ 27 ∧ k' ≠ 14 ∧ k' ≠ 15) → su σ k i v k' = σ k' := fun k' h => by funext j; exact su_n (ne k' h)
  exact ⟨fun k' h => (e k' ⟨h.1, h.2.2⟩).trans (q.1 k' h), by rw [← q.2]; funext x; unfold enA; rw [e 12 (by decide), e 0 (by decide), e 11 (by decide)]⟩
theorem CQ.lw {σ ρ : Sg} (q : CQ σ ρ) {k : Nat} (hk : lfB k = true) (f : Int → Int) : CQ (sw σ k f) ρ := by
  have ne : ∀ k', (k' ≤ 27 ∧ k' ≠ 14 ∧ k' ≠ 15) → k' ≠ k := fun k' h z => by rw [← z] at hk; unfold lfB at hk; simp at hk; omega
  have e : ∀ k', (k' ≤ 27 ∧ k' ≠ 14 ∧ k' ≠ 15) → sw σ k f k' = σ k' := fun k' h => sw_n (ne k' h)
  exact ⟨fun k' h => (e k' ⟨h.1, h.2.2⟩).trans (q.1 k' h), by rw [← q.2]; funext x; unfold enA; rw [e 12 (by decide), e 0 (by decide), e 11 (by decide)]⟩
/-- both write -/
theorem CQ.both {σ ρ : Sg} (q : CQ σ ρ) {k : Nat} (hk : k ≠ 0 ∧ k ≠ 11 ∧ k ≠ 12) (i v : Int) : CQ (su σ k i v) (su ρ k i v) := by
  refine ⟨fun k' h => ?_, ?_⟩
  · funext j
    show (if k' = k then (if j = i then v else σ k' j) else σ k' j) = (if k' = k then (if j = i then v else ρ k' j) else ρ k' j)
    rw [q.1 k' h]
  · have e : ∀ (τ : Sg) k', (k' = 0 ∨ k' = 11 ∨ k' = 12) → su τ k i v k' = τ k' := fun τ k' h => by funext j; exact su_n (by omega)
    have h2 := q.2
    unfold enA at *
    rw [e σ 12 (by omega), e σ 0 (by omega), e σ 11 (by omega), e ρ 12 (by omega), e ρ 0 (by omega), e ρ 11 (by omega)]
    exact h2
/-- what the model alone keeps within bounds -/
def EX (σ : Sg) : Prop := (0 ≤ σ 29 0 ∧ σ 29 0 ≤ 60) ∧ (∀ j, 0 ≤ j → j < 60 → 0 ≤ σ 28 j ∧ σ 28 j < 65536) ∧ ∀ i, 0 ≤ i → i < 5 → (0 ≤ σ 4 i ∧ σ 4 i < 65536) ∧ (0 ≤ σ 5 i ∧ σ 5 i < 65536)
/-- the model's bounds, from the class's -/
theorem MV_of {σ ρ : Sg} (hV : MC ρ) (q : CQ σ ρ) (x : EX σ) : MV σ := by
  have hV0 := hV
  obtain ⟨v0, v1, v2, v8, v16, v24, v39, vC, vE, vJ, vK, vB, vO⟩ := hV
  obtain ⟨x1, x2, x3⟩ := x
  have ee := q.2
  refine ⟨by rw [q.e 0]; exact v0, by rw [q.e 1]; exact v1, by rw [q.e 2]; exact v2, by rw [q.e 8]; exact v8, by rw [q.e 16]; exact v16, by rw [q.e 24]; exact v24, x1, fun i i0 i1 => ?_, fun e e0 e1 => ?_, fun i i0 i1 => ?_, fun c c0 c1 => ?_, x2⟩
  · refine ⟨(x3 i i0 i1).1, (x3 i i0 i1).2, ?_, ?_⟩
    · rw [q.e 2, q.e 7]; exact vB.1 i
    · rw [q.e 2, q.e 3, q.e 4, q.e 5, q.e 6, q.e 7]; exact vC i i0
  · rw [q.e 8] at e1
    have E := vE e e0 e1
    have en := hV0.en e0 e1
    rw [← ee] at en
    rw [q.e 9, q.e 2, q.e 10, q.e 12, q.e 0, q.e 13]
    refine ⟨E.1, E.2.1.1, E.2.2.1, fun h => by omega, fun h => ?_, E.2.2.2.2⟩
    unfold enA at en
    rw [q.e 12, if_neg h] at en
    omega
  · rw [q.e 16, q.e 17, q.e 23, q.e 18, q.e 2, q.e 20, q.e 19]
    refine ⟨fun h => vB.2.2.2 i h, fun h => ?_⟩
    have J := vJ i i0 h
    exact ⟨J.1, J.2.1, fun k k0 k1 => ⟨(J.2.2.2.2.2 k k0 k1).1, (J.2.2.2.2.2 k k0 k1).2.1⟩⟩
  · rw [q.e 27, q.e 24, q.e 25, q.e 8, q.e 12, q.e 26]
    refine ⟨?_, fun h => vB.2.2.1 c h, fun h => ?_⟩
    · by_cases h : c < ρ 24 0
      · exact (vK c c0 h).1
      · exact Or.inl (vB.2.2.1 c (by omega))
    · exact (vK c c0 h).2
