/-! THE STATE, as numbers: s k j is cell j of the model's field k (a scalar: j = 0); floats by fb -/
abbrev Sg : Type := Nat → Int → Int
def su (σ : Sg) (k : Nat) (i v : Int) : Sg := fun k' j => if k' = k then (if j = i then v else σ k' j) else σ k' j
/-- a whole field -/
def sw (σ : Sg) (k : Nat) (f : Int → Int) : Sg := fun k' j => if k' = k then f j else σ k' j
def fb (z : Int) : UInt32 := (iI z).toUInt32
def fi (x : UInt32) : Int := x.toInt32.toInt
theorem fb_fi (x : UInt32) : fb (fi x) = x := by
  unfold fb fi
  rw [iI_of]
  exact UInt32.toUInt32_toInt32 x
def RG (σ : Sg) : Prop := ∀ (k : Nat) (j : Int), -2147483648 ≤ σ k j ∧ σ k j < 2147483648
theorem rg_su {σ : Sg} (h : RG σ) {k : Nat} {i v : Int} (hv : -2147483648 ≤ v ∧ v < 2147483648) : RG (su σ k i v) := by
  intro k' j
  unfold su
  by_cases h1 : k' = k
  · rw [if_pos h1]
    by_cases h2 : j = i
    · rw [if_pos h2]; exact hv
    · rw [if_neg h2]; exact h k' j
  · rw [if_neg h1]; exact h k' j
theorem rg_sw {σ : Sg} (h : RG σ) {k : Nat} {f : Int → Int} (hv : ∀ j, -2147483648 ≤ f j ∧ f j < 2147483648) : RG (sw σ k f) := by
  intro k' j
  unfold sw
  by_cases h1 : k' = k
  · rw [if_pos h1]; exact hv j
  · rw [if_neg h1]; exact h k' j
/-- field k's array: its kind, its length -/
def mk (k : Nat) : Nat := if k = 4 ∨ k = 5 ∨ k = 12 ∨ k = 19 ∨ k = 28 then 1 else if k = 27 then 3 else if k = 22 ∨ k = 23 then 2 else 0
def mn (k : Nat) : Nat := if k < 8 then 5 else if k < 15 then 24 else if k = 15 then 120 else if k < 19 then 8 else if k < 23 then 320 else if k = 23 then 8 else if k < 28 then 16 else 60
def mKb (k : Nat) : Bool := k == 0 || (3 ≤ k && k ≤ 7) || (9 ≤ k && k ≤ 15) || (17 ≤ k && k ≤ 23) || (25 ≤ k && k ≤ 28)
def mSb (k : Nat) : Bool := k ≤ 2 || k == 8 || k == 16 || k == 24 || k == 29 || k == 30
abbrev mObj (g : Nat → Nat) (σ : Sg) : AE := eO 14 [vI (σ 0 0), vI (σ 1 0), vI (σ 2 0), vR (g 3), vR (g 4), vR (g 5), vR (g 6), vR (g 7), vI (σ 8 0), vR (g 9), vR (g 10), vR (g 11), vR (g 12), vR (g 13), vR (g 14), vR (g 15), vI (σ 16 0), vR (g 17), vR (g 18), vR (g 19), vR (g 20), vR (g 21), vR (g 22), vR (g 23), vI (σ 24 0), vR (g 25), vR (g 26), vR (g 27), vR (g 28), vI (σ 29 0), vI (σ 30 0)]
def mE (g : Nat → Nat) (σ : Sg) (k : Nat) : AE := if k = 0 then mObj g σ else if k = 22 ∨ k = 23 then eA 2 (mn k) (fun j => vF (fb (σ k j))) else eA (mk k) (mn k) (fun j => vI (σ k j))
/-- the model's world -/
def MI (g : Nat → Nat) (σ : Sg) (h : Hp) : Prop := (∀ i j, i < 31 → j < 31 → g i = g j → i = j) ∧ ∀ k, mKb k = true → h (g k) = some (mE g σ k)
theorem mI {g : Nat → Nat} {σ : Sg} {h : Hp} (H : MI g σ h) (k : Nat) (hk : mKb k = true) : h (g k) = some (mE g σ k) := H.2 k hk
theorem mKb_lt {k : Nat} (h : mKb k = true) : k < 31 := by
  simp [mKb] at h
  omega
theorem su_n {σ : Sg} {k k' : Nat} {i v j : Int} (h : k' ≠ k) : su σ k i v k' j = σ k' j := if_neg h
theorem mE_n {g : Nat → Nat} {σ : Sg} {k k' : Nat} {i v : Int} (hk : mKb k = true) (h0 : k ≠ 0) (hn : k' ≠ k) : mE g (su σ k i v) k' = mE g σ k' := by
  by_cases h1 : k' = 0
  · subst h1
    have e : ∀ q, mSb q = true → su σ k i v q 0 = σ q 0 := fun q hq => su_n (fun z => by
      subst z
      simp [mSb] at hq
      simp [mKb] at hk
      omega)
    show mObj _ _ = mObj _ _
    unfold mObj
    rw [e 0 rfl, e 1 rfl, e 2 rfl, e 8 rfl, e 16 rfl, e 24 rfl, e 29 rfl, e 30 rfl]
  · unfold mE
    rw [if_neg h1, if_neg h1]
    have e : ∀ j, su σ k i v k' j = σ k' j := fun j => su_n hn
    simp only [e]
/-- an array's cell is written -/
theorem mP {g : Nat → Nat} {σ : Sg} {h : Hp} (H : MI g σ h) (k : Nat) (hk : mKb k = true) (h0 : (k == 0) = false) (i v : Int) : MI g (su σ k i v) (hu h (g k) (mE g (su σ k i v) k)) := by
  refine ⟨H.1, fun k' hk' => ?_⟩
  by_cases hkk : k' = k
  · subst hkk
    exact hu_s _ _ _
  · rw [hu_n _ _ (fun z => hkk (H.1 k' k (mKb_lt hk') (mKb_lt hk) z)), H.2 k' hk', mE_n hk (by simpa using h0) hkk]
/-- a scalar is written -/
theorem mPs {g : Nat → Nat} {σ : Sg} {h : Hp} (H : MI g σ h) (k : Nat) (hk : mSb k = true) (v : Int) : MI g (su σ k 0 v) (hu h (g 0) (mE g (su σ k 0 v) 0)) := by
  refine ⟨H.1, fun k' hk' => ?_⟩
  by_cases hkk : k' = 0
  · subst hkk
    exact hu_s _ _ _
  · rw [hu_n _ _ (fun z => hkk (H.1 k' 0 (mKb_lt hk') (by decide) z)), H.2 k' hk']
    have hne : k' ≠ k := fun z => by
      subst z
      simp [mSb] at hk
      simp [mKb] at hk'
      omega
    have e : ∀ j, su σ k 0 v k' j = σ k' j := fun j => su_n hne
    unfold mE
    rw [if_neg hkk, if_neg hkk]
    simp only [e]
/-- the same world, its numbers written otherwise -/
theorem MI.to {g : Nat → Nat} {σ σ' : Sg} {h : Hp} (H : MI g σ h) (e : ∀ k j, σ k j = σ' k j) : MI g σ' h := by
  have : σ = σ' := by funext k j; exact e k j
  rw [← this]; exact H
