/-! SPEC 5: an invoice -/
abbrev Ln : Type := Int × Int × Int
/-- f with the list L from b on -/
def lnF (f : Int → Int) (b : Int) (L : List Int) : Int → Int := fun j => if b ≤ j ∧ j < b + L.length then L.getD (j - b).toNat 0 else f j
theorem lnF_nil (f : Int → Int) (b : Int) : lnF f b [] = f := by
  funext j
  unfold lnF
  rw [if_neg]
  intro z
  have : (([] : List Int).length : Int) = 0 := rfl
  omega
theorem lnF_push (f : Int → Int) (b : Int) (L : List Int) (x : Int) : lnF f b (L ++ [x]) = fun j => if j = b + L.length then x else lnF f b L j := by
  funext j
  unfold lnF
  have e : ((L ++ [x]).length : Int) = L.length + 1 := by simp
  rw [e]
  by_cases h : j = b + L.length
  · rw [if_pos (by omega), if_pos h]
    have : (j - b).toNat = L.length := by omega
    rw [this]
    simp [List.getD]
  · rw [if_neg h]
    by_cases h2 : b ≤ j ∧ j < b + L.length
    · rw [if_pos (by omega), if_pos h2]
      have : (j - b).toNat < L.length := by omega
      simp only [List.getD]
      rw [List.getElem?_append_left this]
    · rw [if_neg (by omega), if_neg h2]
theorem lnF_rf {f : Int → Int} {b : Int} {L : List Int} (hf : RF f) (hL : ∀ x ∈ L, -2147483648 ≤ x ∧ x < 2147483648) : RF (lnF f b L) := by
  intro j
  unfold lnF
  split
  · next h =>
    have : (j - b).toNat < L.length := by omega
    have e : L.getD (j - b).toNat 0 = L[(j - b).toNat] := by simp only [List.getD]; rw [List.getElem?_eq_getElem this]; rfl
    rw [e]
    exact hL _ (List.getElem_mem this)
  · exact hf j
def totL (r : Int) (L : List Ln) : UInt32 := L.foldl (fun t x => FP.fadd t (amt x.2.2 r)) 0
theorem totL_push (r : Int) (L : List Ln) (x : Ln) : totL r (L ++ [x]) = FP.fadd (totL r L) (amt x.2.2 r) := by
  unfold totL
  rw [List.foldl_append]
  rfl
/-- the lines' bounds -/
def LB (L : List Ln) : Prop := ∀ x ∈ L, (0 ≤ x.1 ∧ x.1 < 65536) ∧ (-2147483648 ≤ x.2.1 ∧ x.2.1 < 2147483648) ∧ (-100000 ≤ x.2.2 ∧ x.2.2 ≤ 100000)
theorem LB.nil : LB [] := fun x h => absurd h (List.not_mem_nil)
theorem LB.push {L : List Ln} (h : LB L) {x : Ln} (hx : (0 ≤ x.1 ∧ x.1 < 65536) ∧ (-2147483648 ≤ x.2.1 ∧ x.2.1 < 2147483648) ∧ (-100000 ≤ x.2.2 ∧ x.2.2 ≤ 100000)) : LB (L ++ [x]) := by
  intro y hy
  rcases List.mem_append.mp hy with z | z
  · exact h y z
  · rw [List.mem_singleton.mp z]; exact hx
theorem totL_mg {r : Int} (hr : 0 ≤ r ∧ r ≤ 50000) : ∀ (n : Nat) (L : List Ln), L.length = n → LB L → n ≤ 40 → MG (159 + 2 * n) (totL r L)
  | 0, L, h, _, _ => by
    rw [List.length_eq_zero_iff.mp h]
    exact (show MG 1 (totL r []) from (by unfold MG; decide : MG 1 0)).le (by omega)
  | n + 1, L, h, hB, hn => by
    have hne : L ≠ [] := fun z => by rw [z] at h; simp at h
    have e := List.dropLast_concat_getLast hne
    have hl : L.dropLast.length = n := by rw [List.length_dropLast]; omega
    have h1 := totL_mg hr n L.dropLast hl (fun x hx => hB x (List.dropLast_subset L hx)) (by omega)
    have h2 := (hB (L.getLast hne) (List.getLast_mem hne)).2.2
    rw [← e, totL_push]
    have h3 : MG 159 (amt (L.getLast hne).2.2 r) := mg_amt (by omega) (by omega)
    exact (mg_add h1 (h3.le (by omega)) (by omega)).le (by omega)
def u17 (σ : Sg) (L : List Ln) : Int → Int := fun j => if j = σ 16 0 then (L.length : Int) else σ 17 j
def u19 (σ : Sg) (L : List Ln) : Int → Int := lnF (σ 19) (40 * σ 16 0) (L.map (fun x => x.1))
def u21 (σ : Sg) (L : List Ln) : Int → Int := lnF (σ 21) (40 * σ 16 0) (L.map (fun x => x.2.1))
def u20 (σ : Sg) (L : List Ln) : Int → Int := lnF (σ 20) (40 * σ 16 0) (L.map (fun x => x.2.2))
def u22 (σ : Sg) (r : Int) (L : List Ln) : Int → Int := lnF (σ 22) (40 * σ 16 0) (L.map (fun x => fi (amt x.2.2 r)))
def u23 (σ : Sg) (r : Int) (L : List Ln) : Int → Int := fun j => if j = σ 16 0 then fi (totL r L) else σ 23 j
abbrev LX (X σ : Sg) (r : Int) (L : List Ln) : Sg := sw (sw (sw (sw (sw (sw X 19 (u19 σ L)) 21 (u21 σ L)) 20 (u20 σ L)) 22 (u22 σ r L)) 23 (u23 σ r L)) 17 (u17 σ L)
theorem rq17 {σ : Sg} (hR : RG σ) {L : List Ln} (hn : L.length ≤ 40) : RF (u17 σ L) := fun j => by
  unfold u17
  have := hR 17 j
  split <;> omega
theorem rq19 {σ : Sg} (hR : RG σ) {L : List Ln} (hB : LB L) : RF (u19 σ L) := lnF_rf (hR 19) (fun x hx => by
  obtain ⟨y, hy, rfl⟩ := List.mem_map.mp hx
  have := hB y hy
  show _ ≤ y.1 ∧ y.1 < _
  omega)
theorem rq21 {σ : Sg} (hR : RG σ) {L : List Ln} (hB : LB L) : RF (u21 σ L) := lnF_rf (hR 21) (fun x hx => by
  obtain ⟨y, hy, rfl⟩ := List.mem_map.mp hx
  exact (hB y hy).2.1)
theorem rq20 {σ : Sg} (hR : RG σ) {L : List Ln} (hB : LB L) : RF (u20 σ L) := lnF_rf (hR 20) (fun x hx => by
  obtain ⟨y, hy, rfl⟩ := List.mem_map.mp hx
  have := hB y hy
  show _ ≤ y.2.2 ∧ y.2.2 < _
  omega)
theorem rq22 {σ : Sg} (hR : RG σ) {r : Int} {L : List Ln} : RF (u22 σ r L) := lnF_rf (hR 22) (fun x hx => by
  obtain ⟨y, hy, rfl⟩ := List.mem_map.mp hx
  exact fi_r _)
theorem rq23 {σ : Sg} (hR : RG σ) {r : Int} {L : List Ln} : RF (u23 σ r L) := fun j => by
  unfold u23
  split
  · exact fi_r _
  · exact hR 23 j
theorem rLX {X σ : Sg} {r : Int} {L : List Ln} (hX : RG X) (hR : RG σ) (hB : LB L) (hn : L.length ≤ 40) : RG (LX X σ r L) := rg_sw (rg_sw (rg_sw (rg_sw (rg_sw (rg_sw hX (rq19 hR hB)) (rq21 hR hB)) (rq20 hR hB)) (rq22 hR)) (rq23 hR)) (rq17 hR hn)
theorem LX_nil {g : Nat → Nat} {h : Hp} {X σ : Sg} {r : Int} (H : MI g X h) (e : ∀ k, (k = 17 ∨ k = 19 ∨ k = 20 ∨ k = 21 ∨ k = 22 ∨ k = 23) → X k = σ k) (h1 : σ 17 (σ 16 0) = 0) (h2 : σ 23 (σ 16 0) = 0) : MI g (LX X σ r []) h := H.to (fun k j => by
  have h3 : u17 σ [] = σ 17 := by
    funext j
    unfold u17
    split
    · next q => rw [q, h1]; rfl
    · rfl
  have h4 : u23 σ r [] = σ 23 := by
    funext j
    unfold u23
    split
    · next q => rw [q, h2]; exact (by decide : fi (0 : UInt32) = 0)
    · rfl
  have h5 : u19 σ [] = σ 19 := lnF_nil _ _
  have h6 : u21 σ [] = σ 21 := lnF_nil _ _
  have h7 : u20 σ [] = σ 20 := lnF_nil _ _
  have h8 : u22 σ r [] = σ 22 := lnF_nil _ _
  unfold LX sw
  rw [h3, h4, h5, h6, h7, h8]
  split
  · next q => rw [q, e 17 (by omega)]
  · split
    · next q => rw [q, e 23 (by omega)]
    · split
      · next q => rw [q, e 22 (by omega)]
      · split
        · next q => rw [q, e 20 (by omega)]
        · split
          · next q => rw [q, e 21 (by omega)]
          · split
            · next q => rw [q, e 19 (by omega)]
            · rfl)
theorem fold_ad {g : Nat → Nat} {h : Hp} {X σ : Sg} {r : Int} {L : List Ln} {kd sb mi : Int} (H : MI g (adS (LX X σ r L) kd sb mi) h) (h16 : X 16 0 = σ 16 0) (h6 : X 6 (X 18 (σ 16 0)) = r) : MI g (LX X σ r (L ++ [(kd, sb, mi)])) h := H.to (fun k j => by
  have k16 : LX X σ r L 16 0 = σ 16 0 := h16
  have k17 : LX X σ r L 17 (σ 16 0) = L.length := (show u17 σ L (σ 16 0) = L.length from if_pos rfl)
  have k23 : LX X σ r L 23 (σ 16 0) = fi (totL r L) := (show u23 σ r L (σ 16 0) = _ from if_pos rfl)
  have k6 : LX X σ r L 6 (LX X σ r L 18 (σ 16 0)) = r := h6
  have kK : adK (LX X σ r L) = 40 * σ 16 0 + L.length := by unfold adK; rw [k16, k17]
  have kA : adA (LX X σ r L) mi = amt mi r := by unfold adA; rw [k16, k6]
  unfold adS
  rw [kK, kA, k16, k17, k23, fb_fi]
  have p19 : u19 σ (L ++ [(kd, sb, mi)]) = fun j => if j = 40 * σ 16 0 + L.length then kd else u19 σ L j := by
    unfold u19; rw [List.map_append, List.map_singleton, lnF_push, List.length_map]
  have p21 : u21 σ (L ++ [(kd, sb, mi)]) = fun j => if j = 40 * σ 16 0 + L.length then sb else u21 σ L j := by
    unfold u21; rw [List.map_append, List.map_singleton, lnF_push, List.length_map]
  have p20 : u20 σ (L ++ [(kd, sb, mi)]) = fun j => if j = 40 * σ 16 0 + L.length then mi else u20 σ L j := by
    unfold u20; rw [List.map_append, List.map_singleton, lnF_push, List.length_map]
  have p22 : u22 σ r (L ++ [(kd, sb, mi)]) = fun j => if j = 40 * σ 16 0 + L.length then fi (amt mi r) else u22 σ r L j := by
    unfold u22; rw [List.map_append, List.map_singleton, lnF_push, List.length_map]
  have p23 : u23 σ r (L ++ [(kd, sb, mi)]) = fun j => if j = σ 16 0 then fi (FP.fadd (totL r L) (amt mi r)) else u23 σ r L j := by
    funext j
    unfold u23
    rw [totL_push]
    split <;> rfl
  have p17 : u17 σ (L ++ [(kd, sb, mi)]) = fun j => if j = σ 16 0 then (L.length : Int) + 1 else u17 σ L j := by
    funext j
    unfold u17
    rw [List.length_append]
    split <;> simp
  show su (su (su (su (su (su (LX X σ r L) 19 _ _) 21 _ _) 20 _ _) 22 _ _) 23 _ _) 17 _ _ k j = LX X σ r (L ++ [(kd, sb, mi)]) k j
  unfold LX
  rw [p19, p21, p20, p22, p23, p17]
  unfold su sw
  by_cases a : k = 17
  · simp [a]
  · by_cases b : k = 23
    · simp [b]
    · by_cases c : k = 22
      · simp [c]
      · by_cases d : k = 20
        · simp [d]
        · by_cases e : k = 21
          · simp [e]
          · by_cases f : k = 19
            · simp [f]
            · simp [a, b, c, d, e, f])
/-- the days' lines -/
def dLn (ow sa D : Int → Int) (u mo c : Int) (N : Nat) : Nat → List Ln
  | 0 => []
  | n + 1 => dLn ow sa D u mo c N n ++ (if 0 < dyO ow sa D c (n : Int) 0 N then [(100, (n : Int), rndS u mo (dyO ow sa D c (n : Int) 0 N))] else [])
theorem dLn_s (ow sa D : Int → Int) (u mo c : Int) (N : Nat) {i : Int} (h : 0 ≤ i) : dLn ow sa D u mo c N (i + 1).toNat = dLn ow sa D u mo c N i.toNat ++ (if 0 < dyO ow sa D c i 0 N then [(100, i, rndS u mo (dyO ow sa D c i 0 N))] else []) := by
  rw [(toN_s h).1, dLn, (toN_s h).2]
/-- the entries' lines from e on, at most k -/
def eLi (ow sa st f : Int → Int) (lv u mo c : Int) (N : Nat) : Nat → Int → List Ln
  | 0, _ => []
  | k + 1, e => if e < 0 then [] else (101, e, rdO ow sa st f lv u mo c e 0 N) :: eLi ow sa st f lv u mo c N k (bhF ow sa st c e 0 N)
theorem eLi_neg (ow sa st f : Int → Int) (lv u mo c : Int) (N k : Nat) {e : Int} (h : e < 0) : eLi ow sa st f lv u mo c N k e = [] := by
  cases k with
  | zero => rfl
  | succ k => rw [eLi, if_pos h]
/-- the corrections' lines -/
def cLn (bil own cor chg : Int → Int) (c : Int) : Nat → List Ln
  | 0 => []
  | n + 1 => cLn bil own cor chg c n ++ (if bil (n : Int) = 0 ∧ own (cor (n : Int)) = c then [(99, cor (n : Int), chg (n : Int))] else [])
theorem cLn_s (bil own cor chg : Int → Int) (c : Int) {i : Int} (h : 0 ≤ i) : cLn bil own cor chg c (i + 1).toNat = cLn bil own cor chg c i.toNat ++ (if bil i = 0 ∧ own (cor i) = c then [(99, cor i, chg i)] else []) := by
  rw [(toN_s h).1, cLn, (toN_s h).2]
/-- how many of the client's entries are ahead of e -/
abbrev rkS (ow sa st : Int → Int) (c e : Int) (N : Nat) : Int := ahS ow sa st (fun _ => 1) c e 0 N
theorem rk_in {ow sa st : Int → Int} {c e : Int} : ∀ n : Nat, 0 ≤ rkS ow sa st c e n ∧ rkS ow sa st c e n ≤ n
  | 0 => by simp [rkS, ahS]
  | n + 1 => by
    have := rk_in (ow := ow) (sa := sa) (st := st) (c := c) (e := e) n
    rw [rkS] at this
    rw [rkS, ahS]
    split <;> omega
theorem rk_lt {ow sa st : Int → Int} {c e : Int} (h0 : 0 ≤ e) : ∀ n : Nat, e < n → rkS ow sa st c e n ≤ n - 1
  | 0, h => absurd h (by omega)
  | n + 1, h => by
    rw [rkS, ahS]
    by_cases q : e = (n : Int)
    · subst q
      have := (rk_in (ow := ow) (sa := sa) (st := st) (c := c) (e := (n : Int)) n).2
      have z : ahI st (n : Int) (n : Int) ≠ 1 := by unfold ahI; rw [if_neg (by omega)]; decide
      rw [if_neg (fun w => z w.2)]
      show rkS ow sa st c (n : Int) n + 0 ≤ _
      omega
    · have := rk_lt (ow := ow) (sa := sa) (st := st) (c := c) h0 n (by omega)
      split <;> (show rkS ow sa st c e n + _ ≤ _; omega)
theorem ah_tr {st : Int → Int} {a b c : Int} (h1 : ahI st a b = 1) (h2 : ahI st b c = 1) : ahI st a c = 1 := by
  unfold ahI at *
  split at h1
  · split at h2
    · rw [if_pos (by omega)]
    · exact absurd h2 (by decide)
  · exact absurd h1 (by decide)
theorem rk_up {ow sa st : Int → Int} {c e e2 : Int} (h0 : 0 ≤ e) (hb : blI ow sa e c 0 = 1) (ha : ahI st e e2 = 1) : ∀ n : Nat, rkS ow sa st c e n + (if e < n then 1 else 0) ≤ rkS ow sa st c e2 n
  | 0 => by rw [if_neg (by omega)]; simp [rkS, ahS]
  | n + 1 => by
    have h1 := rk_up (c := c) h0 hb ha n
    rw [rkS, ahS, rkS, ahS]
    rw [rkS, rkS] at h1
    by_cases q : e = (n : Int)
    · subst q
      have z : ahI st (n : Int) (n : Int) ≠ 1 := by unfold ahI; rw [if_neg (by omega)]; decide
      rw [if_neg (fun w => z w.2), if_pos (by omega), if_pos ⟨hb, ha⟩]
      rw [if_neg (by omega)] at h1
      omega
    · by_cases w : blI ow sa (n : Int) c 0 = 1 ∧ ahI st (n : Int) e = 1
      · rw [if_pos w, if_pos (show blI ow sa (n : Int) c 0 = 1 ∧ ahI st (n : Int) e2 = 1 from ⟨w.1, ah_tr w.2 ha⟩)]
        by_cases v : e < (n : Int)
        · rw [if_pos v] at h1; rw [if_pos (by omega)]; omega
        · rw [if_neg v] at h1; rw [if_neg (by omega)]; omega
      · rw [if_neg w]
        have : (0 : Int) ≤ if blI ow sa (n : Int) c 0 = 1 ∧ ahI st (n : Int) e2 = 1 then 1 else 0 := by split <;> omega
        by_cases v : e < (n : Int)
        · rw [if_pos v] at h1; rw [if_pos (by omega)]; omega
        · rw [if_neg v] at h1; rw [if_neg (by omega)]; omega
/-- what behind finds: one of the client's, behind e -/
theorem bh_is {ow sa st : Int → Int} {c e wr : Int} : ∀ n : Nat, 0 ≤ bhF ow sa st c e wr n → blI ow sa (bhF ow sa st c e wr n) c wr = 1 ∧ (e < 0 ∨ ahI st e (bhF ow sa st c e wr n) = 1)
  | 0, h => absurd h (by rw [bhF]; decide)
  | n + 1, h => by
    rw [bhF] at h ⊢
    split
    · next q => exact ⟨q.1, q.2.1⟩
    · next q =>
      rw [if_neg q] at h
      exact bh_is n h
theorem rndS_hi {u mo s : Int} (hu : 1 ≤ u ∧ u ≤ 60) (hs : 0 ≤ s) : rndS u mo s * 60 ≤ s + 3600 ∧ s - 3600 ≤ rndS u mo s * 60 := by
  have h0 : 0 ≤ s / (60 * u) := Int.ediv_nonneg hs (by omega)
  have h2 : 0 ≤ s % (60 * u) := Int.emod_nonneg _ (by omega)
  have h3 : s % (60 * u) < 60 * u := Int.emod_lt_of_pos _ (by omega)
  have e : u * (s / (60 * u)) * 60 = 60 * u * (s / (60 * u)) := by rw [Int.mul_comm _ 60, ← Int.mul_assoc]
  have h1 := Int.mul_ediv_add_emod s (60 * u)
  have h4 : u * (s / (60 * u) + 1) = u * (s / (60 * u)) + u := by rw [Int.mul_add, Int.mul_one]
  unfold rndS
  rw [h4]
  split <;> omega
theorem rdO_hi {ow sa st f : Int → Int} {lv u mo c e wr : Int} {N : Nat} (hN : N ≤ 24) (hu : 1 ≤ u ∧ u ≤ 60) (hf : ∀ x : Int, 0 ≤ x → x < N → 0 ≤ f x ∧ f x ≤ 180000) (h0 : 0 ≤ e) (h1 : e < N) : -4000 ≤ rdO ow sa st f lv u mo c e wr N ∧ rdO ow sa st f lv u mo c e wr N ≤ 4000 := by
  have a := ahS_in (ow := ow) (sa := sa) (st := st) (c := c) (e := e) (wr := wr) (M := 180000) (by decide) hf N (Nat.le_refl _)
  have b := hf e h0 h1
  have d1 := rndS_hi (u := u) (mo := mo) (s := f e) hu b.1
  have d2 := rndS_hi (u := u) (mo := mo) (s := ahS ow sa st f c e wr N + f e) hu (by omega)
  have d3 := rndS_hi (u := u) (mo := mo) (s := ahS ow sa st f c e wr N) hu (by omega)
  unfold rdO
  split <;> omega
/-- the lines of the invoice that comes -/
abbrev ivE (σ : Sg) (c : Int) : List Ln := if σ 5 c = 100 then dLn (σ 9) (σ 12) (dyF σ) (σ 3 c) (σ 4 c) c (σ 8 0).toNat 5 else eLi (σ 9) (σ 12) (σ 10) (secS σ) (σ 5 c) (σ 3 c) (σ 4 c) c (σ 8 0).toNat (σ 8 0).toNat (bhF (σ 9) (σ 12) (σ 10) c (-1) 0 (σ 8 0).toNat)
abbrev ivL (σ : Sg) (c : Int) : List Ln := ivE σ c ++ cLn (σ 27) (σ 9) (σ 25) (σ 26) c (σ 24 0).toNat
def bl27 (σ : Sg) (c n : Int) : Int → Int := fun j => if 0 ≤ j ∧ j < n ∧ σ 27 j = 0 ∧ σ 9 (σ 25 j) = c then 1 else σ 27 j
def fx13 (σ : Sg) (c n : Int) : Int → Int := fun e => if 0 ≤ e ∧ e < n ∧ blI (σ 9) (σ 12) e c 0 = 1 then secS σ e else σ 13 e
def st12 (σ : Sg) (c n : Int) : Int → Int := fun e => if 0 ≤ e ∧ e < n ∧ blI (σ 9) (σ 12) e c 0 = 1 then 102 else σ 12 e
abbrev ivB (σ : Sg) (s d : Int → Int) (c : Int) : Sg := su (sw (sw (su σ 30 0 0) 14 s) 15 d) 18 (σ 16 0) c
abbrev ivS (σ : Sg) (s d : Int → Int) (c : Int) : Sg := su (sw (sw (LX (sw (ivB σ s d c) 27 (bl27 σ c (σ 24 0))) σ (σ 6 c) (ivL σ c)) 13 (fx13 σ c (σ 8 0))) 12 (st12 σ c (σ 8 0))) 16 0 (σ 16 0 + 1)
