/-! SPEC 3: congruences of the sums; what an entry's text is -/
theorem rdO_c {ow sa st f f' : Int → Int} {lv u mo c e wr : Int} {n : Nat} (h : ∀ x : Int, 0 ≤ x → x < n → f x = f' x) (h0 : 0 ≤ e) (h1 : e < n) : rdO ow sa st f lv u mo c e wr n = rdO ow sa st f' lv u mo c e wr n := by
  unfold rdO
  rw [h e h0 h1, ahS_c n h]
theorem opE_c {ow sa st f f' : Int → Int} {lv u mo c : Int} {N : Nat} (h : ∀ x : Int, 0 ≤ x → x < N → f x = f' x) : ∀ n : Nat, n ≤ N → opE ow sa st f lv u mo c N n = opE ow sa st f' lv u mo c N n
  | 0, _ => rfl
  | n + 1, hn => by rw [opE, opE, opE_c h n (by omega), rdO_c h (by omega) (by omega)]
def dyF (σ : Sg) : Int → Int := fun j => dayS σ (j / 5) (j % 5)
theorem dyF_at (σ : Sg) {x d : Int} (h0 : 0 ≤ d) (h1 : d < 5) : dyF σ (5 * x + d) = dayS σ x d := by
  unfold dyF
  rw [show (5 * x + d) / 5 = x by omega, show (5 * x + d) % 5 = d by omega]
theorem opD_c {ow sa D D' : Int → Int} {u mo c : Int} {N : Nat} (h : ∀ x d : Int, 0 ≤ x → x < N → 0 ≤ d → d < 5 → D (5 * x + d) = D' (5 * x + d)) : ∀ n : Nat, n ≤ 5 → opD ow sa D u mo c N n = opD ow sa D' u mo c N n
  | 0, _ => rfl
  | n + 1, hn => by rw [opD, opD, opD_c h n (by omega), dyO_c N (fun x h1 h2 => h x n h1 h2 (by omega) (by omega))]
theorem opO_c {ow sa st f f' D D' : Int → Int} {lv u mo c : Int} {N : Nat} (h : ∀ x : Int, 0 ≤ x → x < N → f x = f' x) (hD : ∀ x d : Int, 0 ≤ x → x < N → 0 ≤ d → d < 5 → D (5 * x + d) = D' (5 * x + d)) : opO ow sa st f D lv u mo c N = opO ow sa st f' D' lv u mo c N := by
  unfold opO
  rw [opE_c h N (Nat.le_refl _), opD_c hD 5 (Nat.le_refl _)]
theorem secSf_c (σ : Sg) (v : Int) : secS (su σ 30 0 v) = secS σ := by funext e; exact secS_c σ v e
theorem dyF_c (σ : Sg) (v : Int) : dyF (su σ 30 0 v) = dyF σ := by funext j; exact dayS_c σ v _ _
def weL (σ : Sg) (e : Int) : List Int := [] ++ decL e ++ [σ 12 e] ++ decL (σ 9 e) ++ [58] ++ decL (σ 10 e) ++ [45] ++ decL (enA σ e) ++ [61] ++ decL (secS σ e)
abbrev opS (σ : Sg) (c : Int) : Int := opO (σ 9) (σ 12) (σ 10) (secS σ) (dyF σ) (σ 5 c) (σ 3 c) (σ 4 c) c (σ 8 0).toNat
theorem rdO_in {ow sa st f : Int → Int} {lv u mo c e wr : Int} {N : Nat} (hN : N ≤ 24) (hu : 1 ≤ u ∧ u ≤ 60) (hf : ∀ x : Int, 0 ≤ x → x < N → 0 ≤ f x ∧ f x ≤ 180000) (h0 : 0 ≤ e) (h1 : e < N) : -5000000 ≤ rdO ow sa st f lv u mo c e wr N ∧ rdO ow sa st f lv u mo c e wr N ≤ 5000000 := by
  have a := ahS_in (ow := ow) (sa := sa) (st := st) (c := c) (e := e) (wr := wr) (M := 180000) (by decide) hf N (Nat.le_refl _)
  have b := hf e h0 h1
  have d1 := rndS_in (u := u) (mo := mo) (s := f e) hu b.1
  have d2 := rndS_in (u := u) (mo := mo) (s := ahS ow sa st f c e wr N + f e) hu (by omega)
  have d3 := rndS_in (u := u) (mo := mo) (s := ahS ow sa st f c e wr N) hu (by omega)
  unfold rdO
  split <;> omega
theorem opE_in {ow sa st f : Int → Int} {lv u mo c : Int} {N : Nat} (hN : N ≤ 24) (hu : 1 ≤ u ∧ u ≤ 60) (hf : ∀ x : Int, 0 ≤ x → x < N → 0 ≤ f x ∧ f x ≤ 180000) : ∀ n : Nat, n ≤ N → -5000000 * n ≤ opE ow sa st f lv u mo c N n ∧ opE ow sa st f lv u mo c N n ≤ 5000000 * n
  | 0, _ => by simp [opE]
  | n + 1, h => by
    have h1 := opE_in (ow := ow) (sa := sa) (st := st) (lv := lv) (mo := mo) (c := c) hN hu hf n (by omega)
    have h2 := rdO_in (ow := ow) (sa := sa) (st := st) (lv := lv) (mo := mo) (c := c) (e := (n : Int)) (wr := 1) hN hu hf (by omega) (by omega)
    rw [opE]
    split <;> omega
theorem opD_in {ow sa D : Int → Int} {u mo c : Int} {N : Nat} (hN : N ≤ 24) (hu : 1 ≤ u ∧ u ≤ 60) (hf : ∀ x d : Int, 0 ≤ x → x < N → 0 ≤ d → d < 5 → 0 ≤ D (5 * x + d) ∧ D (5 * x + d) ≤ 180000) : ∀ n : Nat, n ≤ 5 → 0 ≤ opD ow sa D u mo c N n ∧ opD ow sa D u mo c N n ≤ 5000000 * n
  | 0, _ => by simp [opD]
  | n + 1, h => by
    have h1 := opD_in (ow := ow) (sa := sa) (mo := mo) (c := c) hN hu hf n (by omega)
    have h3 := dyO_in (ow := ow) (sa := sa) (c := c) (d := (n : Int)) (wr := 1) (M := 180000) (N := N) (by decide) (fun x q1 q2 => hf x n q1 q2 (by omega) (by omega)) N (Nat.le_refl _)
    have h2 := rndS_in (u := u) (mo := mo) hu h3.1
    rw [opD]
    omega
theorem opO_in {ow sa st f D : Int → Int} {lv u mo c : Int} {N : Nat} (hN : N ≤ 24) (hu : 1 ≤ u ∧ u ≤ 60) (hf : ∀ x : Int, 0 ≤ x → x < N → 0 ≤ f x ∧ f x ≤ 180000) (hD : ∀ x d : Int, 0 ≤ x → x < N → 0 ≤ d → d < 5 → 0 ≤ D (5 * x + d) ∧ D (5 * x + d) ≤ 180000) : -120000000 ≤ opO ow sa st f D lv u mo c N ∧ opO ow sa st f D lv u mo c N ≤ 120000000 := by
  have a := opE_in (ow := ow) (sa := sa) (st := st) (lv := lv) (mo := mo) (c := c) hN hu hf N (Nat.le_refl _)
  have b := opD_in (ow := ow) (sa := sa) (mo := mo) (c := c) hN hu hD 5 (Nat.le_refl _)
  unfold opO
  split <;> omega
