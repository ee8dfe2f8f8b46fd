/-- the bounds that every reached state keeps -/
def MV (σ : Sg) : Prop :=
  (0 ≤ σ 0 0 ∧ σ 0 0 ≤ 2999) ∧ (σ 1 0 = 102 ∨ σ 1 0 = 108 ∨ σ 1 0 = 115) ∧ (0 ≤ σ 2 0 ∧ σ 2 0 ≤ 5) ∧ (0 ≤ σ 8 0 ∧ σ 8 0 ≤ 24) ∧ (0 ≤ σ 16 0 ∧ σ 16 0 ≤ 8) ∧ (0 ≤ σ 24 0 ∧ σ 24 0 ≤ 16) ∧ (0 ≤ σ 29 0 ∧ σ 29 0 ≤ 60) ∧
  (∀ i, 0 ≤ i → i < 5 → (0 ≤ σ 4 i ∧ σ 4 i < 65536) ∧ (0 ≤ σ 5 i ∧ σ 5 i < 65536) ∧ (σ 2 0 ≤ i → σ 7 i = 0) ∧ (i < σ 2 0 → (1 ≤ σ 3 i ∧ σ 3 i ≤ 60) ∧ (σ 4 i = 117 ∨ σ 4 i = 100 ∨ σ 4 i = 110) ∧ (σ 5 i = 101 ∨ σ 5 i = 100 ∨ σ 5 i = 99) ∧ (0 ≤ σ 6 i ∧ σ 6 i ≤ 50000) ∧ (0 ≤ σ 7 i ∧ σ 7 i ≤ 9999))) ∧
  (∀ e, 0 ≤ e → e < σ 8 0 → (0 ≤ σ 9 e ∧ σ 9 e < σ 2 0) ∧ 0 ≤ σ 10 e ∧ (σ 12 e = 114 ∨ σ 12 e = 101 ∨ σ 12 e = 102 ∨ σ 12 e = 120) ∧ (σ 12 e = 114 → σ 10 e ≤ σ 0 0) ∧ (σ 12 e ≠ 114 → σ 10 e ≤ σ 11 e ∧ σ 11 e ≤ σ 0 0) ∧ (0 ≤ σ 13 e ∧ σ 13 e ≤ 180000)) ∧
  (∀ i, 0 ≤ i → i < 8 → (σ 16 0 ≤ i → σ 17 i = 0 ∧ σ 23 i = 0) ∧ (i < σ 16 0 → (0 ≤ σ 17 i ∧ σ 17 i ≤ 40) ∧ (0 ≤ σ 18 i ∧ σ 18 i < σ 2 0) ∧ (∀ q, 0 ≤ q → q < σ 17 i → (-100000 ≤ σ 20 (40 * i + q) ∧ σ 20 (40 * i + q) ≤ 100000) ∧ (0 ≤ σ 19 (40 * i + q) ∧ σ 19 (40 * i + q) < 65536)))) ∧
  (∀ c, 0 ≤ c → c < 16 → (σ 27 c = 0 ∨ σ 27 c = 1) ∧ (σ 24 0 ≤ c → σ 27 c = 0) ∧ (c < σ 24 0 → (0 ≤ σ 25 c ∧ σ 25 c < σ 8 0) ∧ σ 12 (σ 25 c) = 102 ∧ (-600 ≤ σ 26 c ∧ σ 26 c ≤ 600))) ∧
  (∀ j, 0 ≤ j → j < 60 → 0 ≤ σ 28 j ∧ σ 28 j < 65536)
/-- an entry's end -/
def enA (σ : Sg) (e : Int) : Int := if σ 12 e = 114 then σ 0 0 else σ 11 e
/-- how many of the first n entries are in a state -/
def cst (σ : Sg) (v : Int) : Nat → Int
  | 0 => 0
  | n + 1 => cst σ v n + (if σ 12 (n : Int) = v then 1 else 0)
theorem cst_in (σ : Sg) (v : Int) : ∀ n : Nat, 0 ≤ cst σ v n ∧ cst σ v n ≤ n
  | 0 => ⟨Int.le_refl _, Int.le_refl _⟩
  | n + 1 => by
    have := cst_in σ v n
    unfold cst
    split <;> omega
theorem cst_s (σ : Sg) (v : Int) {i : Int} (h : 0 ≤ i) : cst σ v (i + 1).toNat = cst σ v i.toNat + (if σ 12 i = v then 1 else 0) := by
  have e1 : (i + 1).toNat = i.toNat + 1 := by omega
  have e2 : ((i.toNat : Nat) : Int) = i := by omega
  rw [e1, cst, e2]
