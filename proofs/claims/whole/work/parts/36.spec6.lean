/-! SPEC 6: the steps of an invoice's loops -/
theorem r27 {σ : Sg} (hR : RG σ) (c n : Int) : RF (bl27 σ c n) := fun j => by
  unfold bl27
  have := hR 27 j
  split <;> omega
theorem r13 {σ : Sg} (hR : RG σ) (hV : MV σ) (c : Int) {n : Int} (hn : n ≤ σ 8 0) : RF (fx13 σ c n) := fun j => by
  unfold fx13
  have := hR 13 j
  split
  · next h =>
    have := secS_in hV h.1 (by omega)
    omega
  · exact this
theorem r12 {σ : Sg} (hR : RG σ) (c n : Int) : RF (st12 σ c n) := fun j => by
  unfold st12
  have := hR 12 j
  split <;> omega
theorem bl_0 {g : Nat → Nat} {h : Hp} {X σ : Sg} {r c : Int} {L : List Ln} (H : MI g (LX X σ r L) h) (e : X 27 = σ 27) : MI g (LX (sw X 27 (bl27 σ c 0)) σ r L) h := H.to (fun k j => by
  have e1 : bl27 σ c 0 = X 27 := by rw [e]; funext j; unfold bl27; rw [if_neg (by omega)]
  unfold LX
  rw [e1]
  unfold sw
  by_cases a : k = 27
  · subst a; simp
  · simp [a])
theorem bl_skip {σ : Sg} {c n : Int} (h : ¬ (σ 27 n = 0 ∧ σ 9 (σ 25 n) = c)) : bl27 σ c (n + 1) = bl27 σ c n := by
  funext j
  unfold bl27
  by_cases q : j = n
  · subst q; rw [if_neg (fun z => h ⟨z.2.2.1, z.2.2.2⟩), if_neg (by omega)]
  · by_cases w : 0 ≤ j ∧ j < n ∧ σ 27 j = 0 ∧ σ 9 (σ 25 j) = c
    · rw [if_pos w, if_pos ⟨w.1, by omega, w.2.2⟩]
    · rw [if_neg w, if_neg (fun z => w ⟨z.1, by omega, z.2.2⟩)]
theorem bl_set {g : Nat → Nat} {h : Hp} {X σ : Sg} {r c n : Int} {L : List Ln} (H : MI g (su (LX (sw X 27 (bl27 σ c n)) σ r L) 27 n 1) h) (h0 : 0 ≤ n) (h1 : σ 27 n = 0) (h2 : σ 9 (σ 25 n) = c) : MI g (LX (sw X 27 (bl27 σ c (n + 1))) σ r L) h := H.to (fun k j => by
  have e1 : bl27 σ c (n + 1) = fun j => if j = n then 1 else bl27 σ c n j := by
    funext j
    unfold bl27
    by_cases q : j = n
    · subst q; rw [if_pos ⟨h0, by omega, h1, h2⟩, if_pos rfl]
    · rw [if_neg q]
      by_cases w : 0 ≤ j ∧ j < n ∧ σ 27 j = 0 ∧ σ 9 (σ 25 j) = c
      · rw [if_pos w, if_pos ⟨w.1, by omega, w.2.2⟩]
      · rw [if_neg w, if_neg (fun z => w ⟨z.1, by omega, z.2.2⟩)]
  unfold LX
  rw [e1]
  unfold su sw
  by_cases a : k = 27
  · subst a; simp
  · simp [a])
abbrev FX (Y σ : Sg) (c n : Int) : Sg := sw (sw Y 13 (fx13 σ c n)) 12 (st12 σ c n)
theorem fx_0 {g : Nat → Nat} {h : Hp} {Y σ : Sg} {c : Int} (H : MI g Y h) (e : Y 13 = σ 13) (e2 : Y 12 = σ 12) : MI g (FX Y σ c 0) h := H.to (fun k j => by
  have e1 : fx13 σ c 0 = Y 13 := by rw [e]; funext j; unfold fx13; rw [if_neg (by omega)]
  have e3 : st12 σ c 0 = Y 12 := by rw [e2]; funext j; unfold st12; rw [if_neg (by omega)]
  unfold FX
  rw [e1, e3]
  unfold sw
  by_cases a : k = 12
  · subst a; simp
  · by_cases b : k = 13
    · subst b; simp
    · simp [a, b])
theorem fx_skip {σ : Sg} {c n : Int} (h : ¬ blI (σ 9) (σ 12) n c 0 = 1) : fx13 σ c (n + 1) = fx13 σ c n ∧ st12 σ c (n + 1) = st12 σ c n := by
  constructor
  all_goals
    funext j
    first | unfold fx13 | unfold st12
    by_cases q : j = n
    · subst q; rw [if_neg (fun z => h z.2.2), if_neg (by omega)]
    · by_cases w : 0 ≤ j ∧ j < n ∧ blI (σ 9) (σ 12) j c 0 = 1
      · rw [if_pos w, if_pos ⟨w.1, by omega, w.2.2⟩]
      · rw [if_neg w, if_neg (fun z => w ⟨z.1, by omega, z.2.2⟩)]
theorem fx_set {g : Nat → Nat} {h : Hp} {Y σ : Sg} {c n v : Int} (H : MI g (su (su (FX Y σ c n) 13 n v) 12 n 102) h) (h0 : 0 ≤ n) (h1 : blI (σ 9) (σ 12) n c 0 = 1) (h2 : v = secS σ n) : MI g (FX Y σ c (n + 1)) h := H.to (fun k j => by
  subst h2
  have e1 : fx13 σ c (n + 1) = fun j => if j = n then secS σ n else fx13 σ c n j := by
    funext j
    unfold fx13
    by_cases q : j = n
    · subst q; rw [if_pos ⟨h0, by omega, h1⟩, if_pos rfl]
    · rw [if_neg q]
      by_cases w : 0 ≤ j ∧ j < n ∧ blI (σ 9) (σ 12) j c 0 = 1
      · rw [if_pos w, if_pos ⟨w.1, by omega, w.2.2⟩]
      · rw [if_neg w, if_neg (fun z => w ⟨z.1, by omega, z.2.2⟩)]
  have e2 : st12 σ c (n + 1) = fun j => if j = n then 102 else st12 σ c n j := by
    funext j
    unfold st12
    by_cases q : j = n
    · subst q; rw [if_pos ⟨h0, by omega, h1⟩, if_pos rfl]
    · rw [if_neg q]
      by_cases w : 0 ≤ j ∧ j < n ∧ blI (σ 9) (σ 12) j c 0 = 1
      · rw [if_pos w, if_pos ⟨w.1, by omega, w.2.2⟩]
      · rw [if_neg w, if_neg (fun z => w ⟨z.1, by omega, z.2.2⟩)]
  unfold FX
  rw [e1, e2]
  unfold su sw
  by_cases a : k = 12
  · subst a; simp
  · by_cases b : k = 13
    · subst b; simp
    · simp [a, b])
theorem bl_st {σ : Sg} (c n : Int) : blI (σ 9) (st12 σ c n) n c 0 = blI (σ 9) (σ 12) n c 0 := by
  unfold blI
  have : st12 σ c n n = σ 12 n := by unfold st12; exact if_neg (by omega)
  rw [this]
theorem LB.push3 {L : List Ln} (h : LB L) {k s m : Int} (hk : 0 ≤ k ∧ k < 65536) (hs : -2147483648 ≤ s ∧ s < 2147483648) (hm : -100000 ≤ m ∧ m ≤ 100000) : LB (L ++ [(k, s, m)]) := h.push ⟨hk, hs, hm⟩
