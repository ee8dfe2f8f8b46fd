/-! THE CLASS'S WORLD: its numbers ρ k j (0 .. 27 as the model's; 11 the end as it stands, 14 15 the tallies' cells, 28 29 37 38 the output's signs, length, room, mark, 31 an invoice's minutes, 32 33 lists' counters and rooms, 34 active and latest, 35 36 picked, 39 invoices made, 40 lists' arrays, 41 .. 46 addresses); g: the fixed objects -/
abbrev aA (ρ : Sg) (L : Int) : Nat := (ρ 40 L).toNat
abbrev aN (ρ : Sg) (j : Int) : Nat := (ρ 41 j).toNat
abbrev aI (ρ : Sg) (i : Int) : Nat := (ρ 42 i).toNat
abbrev aL (ρ : Sg) (i : Int) : Nat := (ρ 43 i).toNat
abbrev aE (ρ : Sg) (e : Int) : Nat := (ρ 44 e).toNat
abbrev aC (ρ : Sg) (i : Int) : Nat := (ρ 45 i).toNat
abbrev aK (ρ : Sg) (c : Int) : Nat := (ρ 46 c).toNat
abbrev aM (ρ : Sg) (i : Int) : Nat := (ρ 49 i).toNat
abbrev cLst (mc : Int) (a : Nat) (n : Int) : AE := eO 4 [vI mc, vR a, vI n]
abbrev cCn (n : Int) (b : Int → Nat) : Int → AV := fun j => vQ (if 0 ≤ j ∧ j < n then some (b j) else none)
def cAr (N n : Int) (b : Int → Nat) : Option AE := if 0 < N then some (eA 5 N.toNat (cCn n b)) else none
abbrev cCl (ρ : Sg) (i : Int) : AE := eO 5 [vI i, vI (ρ 3 i), vI (ρ 4 i), vI (ρ 5 i), vI (ρ 6 i), vI (ρ 7 i)]
abbrev cEn (ρ : Sg) (e : Int) : AE := eO 7 [vI e, vR (aC ρ (ρ 9 e)), vI (ρ 10 e), vI (ρ 11 e), vI (ρ 12 e), vI (ρ 13 e)]
abbrev cCo (ρ : Sg) (c : Int) : AE := eO 6 [vR (aE ρ (ρ 25 c)), vI (ρ 26 c), vI (ρ 27 c)]
abbrev cIn (ρ : Sg) (i : Int) : AE := eO 8 [vR (aC ρ (ρ 18 i)), vR (aL ρ i), vI (ρ 31 i), vF (fb (ρ 23 i))]
abbrev cLi (ρ : Sg) (j : Int) : AE := eO 9 [vI (ρ 19 j), vI (ρ 20 j), vI (ρ 21 j), vF (fb (ρ 22 j))]
def cFix (g : Int → Nat) (ρ : Sg) (r : Int) : Option AE :=
  if r = 0 then some (eO 13 [vR (g 1), vR (g 2), vR (g 3), vR (g 6), vR (g 7), vR (g 9), vR (g 11), vR (g 13)])
  else if r = 1 then some (eO 12 [vR (g 15), vI (ρ 0 0), vI (ρ 1 0)])
  else if r = 2 then some (eO 11 [vR (g 1), vR (g 4), vI (ρ 34 0), vI (ρ 34 1)])
  else if r = 3 then some (eO 11 [vR (g 1), vR (g 5), vI (ρ 34 2), vI (ρ 34 3)])
  else if r = 4 then some (eA 0 120 (fun j => vI (ρ 14 j)))
  else if r = 5 then some (eA 0 120 (fun j => vI (ρ 15 j)))
  else if r = 6 then some (eO 10 [vR (g 17), vR (g 1), vR (g 2)])
  else if r = 7 then some (cLst (ρ 32 0) (aA ρ 0) (ρ 2 0))
  else if r = 8 then cAr (ρ 33 0) (ρ 2 0) (aC ρ)
  else if r = 9 then some (cLst (ρ 32 1) (aA ρ 1) (ρ 16 0))
  else if r = 10 then cAr (ρ 33 1) (ρ 16 0) (aI ρ)
  else if r = 11 then some (cLst (ρ 32 2) (aA ρ 2) (ρ 24 0))
  else if r = 12 then cAr (ρ 33 2) (ρ 24 0) (aK ρ)
  else if r = 13 then some (eO 1 [vR (aA ρ 5), vI 0, vI (ρ 38 0), vI (ρ 29 0)])
  else if r = 14 then some (eA 4 (ρ 37 0).toNat (fun j => vI (ρ 28 j)))
  else if r = 15 then some (cLst (ρ 32 3) (aA ρ 3) (ρ 8 0))
  else if r = 16 then cAr (ρ 33 3) (ρ 8 0) (aE ρ)
  else if r = 17 then some (cLst (ρ 32 4) (aA ρ 4) (ρ 36 0))
  else if r = 18 then cAr (ρ 33 4) (ρ 36 0) (fun j => aE ρ (ρ 35 j))
  else none
def cB1 (ρ : Sg) (r : Int) : Option AE := if r - 100 < ρ 2 0 then some (cCl ρ (r - 100)) else none
def cB2 (ρ : Sg) (r : Int) : Option AE := if r - 200 < ρ 8 0 then some (cEn ρ (r - 200)) else none
def cB3 (ρ : Sg) (r : Int) : Option AE := if r - 300 < ρ 24 0 then some (cCo ρ (r - 300)) else none
def cB4 (ρ : Sg) (r : Int) : Option AE := if r - 400 < ρ 39 0 then some (cIn ρ (r - 400)) else none
def cB5 (ρ : Sg) (r : Int) : Option AE := if r - 500 < ρ 39 0 then some (cLst (ρ 47 (r - 500)) (aM ρ (r - 500)) (ρ 17 (r - 500))) else none
def cB6 (ρ : Sg) (r : Int) : Option AE := if r - 600 < ρ 39 0 then cAr (ρ 48 (r - 600)) (ρ 17 (r - 600)) (fun j => aN ρ (40 * (r - 600) + j)) else none
def cB7 (ρ : Sg) (r : Int) : Option AE := if (1000 ≤ r ∧ r < 1320) ∧ ((r - 1000) / 40 < ρ 39 0 ∧ (r - 1000) % 40 < ρ 17 ((r - 1000) / 40)) then some (cLi ρ (r - 1000)) else none
def CE (g : Int → Nat) (ρ : Sg) (r : Int) : Option AE :=
  if r < 100 then cFix g ρ r else if r < 200 then cB1 ρ r else if r < 300 then cB2 ρ r else if r < 400 then cB3 ρ r
  else if r < 500 then cB4 ρ r else if r < 600 then cB5 ρ r else if r < 700 then cB6 ρ r else cB7 ρ r
def ad (g : Int → Nat) (ρ : Sg) (r : Int) : Nat :=
  if r < 100 then (if r = 8 then aA ρ 0 else if r = 10 then aA ρ 1 else if r = 12 then aA ρ 2 else if r = 14 then aA ρ 5 else if r = 16 then aA ρ 3 else if r = 18 then aA ρ 4 else g r)
  else if r < 200 then aC ρ (r - 100) else if r < 300 then aE ρ (r - 200) else if r < 400 then aK ρ (r - 300)
  else if r < 500 then aI ρ (r - 400) else if r < 600 then aL ρ (r - 500) else if r < 700 then aM ρ (r - 600) else aN ρ (r - 1000)
/-- a list's size and room -/
def KL (G : GG) (N : Int) (a : Nat) (n : Int) : Prop := (0 ≤ n ∧ n ≤ N ∧ N ≤ 60) ∧ (N = 0 → a = G.2.2 0)
def KLs (G : GG) (g : Int → Nat) (ρ : Sg) : Prop := KL G (ρ 33 0) (aA ρ 0) (ρ 2 0) ∧ KL G (ρ 33 1) (aA ρ 1) (ρ 16 0) ∧ KL G (ρ 33 2) (aA ρ 2) (ρ 24 0) ∧ KL G (ρ 33 3) (aA ρ 3) (ρ 8 0) ∧ KL G (ρ 33 4) (aA ρ 4) (ρ 36 0) ∧ (∀ i, 0 ≤ i → i < ρ 39 0 → KL G (ρ 48 i) (aM ρ i) (ρ 17 i)) ∧ (∀ j, 0 ≤ j → j < ρ 36 0 → 0 ≤ ρ 35 j ∧ ρ 35 j < ρ 8 0) ∧ g 17 ≠ G.2.2 0
def CI (G : GG) (g : Int → Nat) (ρ : Sg) (h : Hp) : Prop := (∀ r x, CE g ρ r = some x → h (ad g ρ r) = some x) ∧ (∀ r r', CE g ρ r ≠ none → CE g ρ r' ≠ none → ad g ρ r = ad g ρ r' → r = r') ∧ KLs G g ρ
section CW
variable {G : GG} {g : Int → Nat} {ρ ρ' : Sg} {h h' : Hp}
theorem CI.to (H : CI G g ρ h) (e : ∀ k j, ρ k j = ρ' k j) : CI G g ρ' h := by
  have : ρ = ρ' := by funext k j; exact e k j
  rw [← this]; exact H
theorem CI.eq (H : CI G g ρ h) (e : ρ = ρ') : CI G g ρ' h := e ▸ H
theorem CI.at (H : CI G g ρ h) {r : Int} {x : AE} {a : Nat} (e : CE g ρ r = some x) (ha : ad g ρ r = a) : h a = some x := ha ▸ H.1 r x e
theorem ci_0 (H : CI G g ρ h) : h (g 0) = some (eO 13 [vR (g 1), vR (g 2), vR (g 3), vR (g 6), vR (g 7), vR (g 9), vR (g 11), vR (g 13)]) := H.at (r := 0) rfl rfl
theorem ci_1 (H : CI G g ρ h) : h (g 1) = some (eO 12 [vR (g 15), vI (ρ 0 0), vI (ρ 1 0)]) := H.at (r := 1) rfl rfl
theorem ci_2 (H : CI G g ρ h) : h (g 2) = some (eO 11 [vR (g 1), vR (g 4), vI (ρ 34 0), vI (ρ 34 1)]) := H.at (r := 2) rfl rfl
theorem ci_3 (H : CI G g ρ h) : h (g 3) = some (eO 11 [vR (g 1), vR (g 5), vI (ρ 34 2), vI (ρ 34 3)]) := H.at (r := 3) rfl rfl
theorem ci_4 (H : CI G g ρ h) : h (g 4) = some (eA 0 120 (fun j => vI (ρ 14 j))) := H.at (r := 4) rfl rfl
theorem ci_5 (H : CI G g ρ h) : h (g 5) = some (eA 0 120 (fun j => vI (ρ 15 j))) := H.at (r := 5) rfl rfl
theorem ci_6 (H : CI G g ρ h) : h (g 6) = some (eO 10 [vR (g 17), vR (g 1), vR (g 2)]) := H.at (r := 6) rfl rfl
theorem ci_7 (H : CI G g ρ h) : h (g 7) = some (cLst (ρ 32 0) (aA ρ 0) (ρ 2 0)) := H.at (r := 7) rfl rfl
theorem ci_9 (H : CI G g ρ h) : h (g 9) = some (cLst (ρ 32 1) (aA ρ 1) (ρ 16 0)) := H.at (r := 9) rfl rfl
theorem ci_11 (H : CI G g ρ h) : h (g 11) = some (cLst (ρ 32 2) (aA ρ 2) (ρ 24 0)) := H.at (r := 11) rfl rfl
theorem ci_13 (H : CI G g ρ h) : h (g 13) = some (eO 1 [vR (aA ρ 5), vI 0, vI (ρ 38 0), vI (ρ 29 0)]) := H.at (r := 13) rfl rfl
theorem ci_14 (H : CI G g ρ h) : h (aA ρ 5) = some (eA 4 (ρ 37 0).toNat (fun j => vI (ρ 28 j))) := H.at (r := 14) rfl rfl
theorem ci_15 (H : CI G g ρ h) : h (g 15) = some (cLst (ρ 32 3) (aA ρ 3) (ρ 8 0)) := H.at (r := 15) rfl rfl
theorem ci_17 (H : CI G g ρ h) : h (g 17) = some (cLst (ρ 32 4) (aA ρ 4) (ρ 36 0)) := H.at (r := 17) rfl rfl
theorem ce_c {i : Int} (h0 : 0 ≤ i) (h2 : i < 100) : CE g ρ (100 + i) = (if i < ρ 2 0 then some (cCl ρ i) else none) ∧ ad g ρ (100 + i) = aC ρ i := by
  refine ⟨?_, ?_⟩
  · unfold CE
    rw [if_neg (by omega), if_pos (by omega)]
    unfold cB1
    rw [show 100 + i - 100 = i by omega]
  · unfold ad
    rw [if_neg (by omega), if_pos (by omega), show 100 + i - 100 = i by omega]
theorem ce_e {i : Int} (h0 : 0 ≤ i) (h2 : i < 100) : CE g ρ (200 + i) = (if i < ρ 8 0 then some (cEn ρ i) else none) ∧ ad g ρ (200 + i) = aE ρ i := by
  refine ⟨?_, ?_⟩
  · unfold CE
    rw [if_neg (by omega), if_neg (by omega), if_pos (by omega)]
    unfold cB2
    rw [show 200 + i - 200 = i by omega]
  · unfold ad
    rw [if_neg (by omega), if_neg (by omega), if_pos (by omega), show 200 + i - 200 = i by omega]
theorem ce_k {i : Int} (h0 : 0 ≤ i) (h2 : i < 100) : CE g ρ (300 + i) = (if i < ρ 24 0 then some (cCo ρ i) else none) ∧ ad g ρ (300 + i) = aK ρ i := by
  refine ⟨?_, ?_⟩
  · unfold CE
    rw [if_neg (by omega), if_neg (by omega), if_neg (by omega), if_pos (by omega)]
    unfold cB3
    rw [show 300 + i - 300 = i by omega]
  · unfold ad
    rw [if_neg (by omega), if_neg (by omega), if_neg (by omega), if_pos (by omega), show 300 + i - 300 = i by omega]
theorem ce_i {i : Int} (h0 : 0 ≤ i) (h2 : i < 100) : CE g ρ (400 + i) = (if i < ρ 39 0 then some (cIn ρ i) else none) ∧ ad g ρ (400 + i) = aI ρ i := by
  refine ⟨?_, ?_⟩
  · unfold CE
    rw [if_neg (by omega), if_neg (by omega), if_neg (by omega), if_neg (by omega), if_pos (by omega)]
    unfold cB4
    rw [show 400 + i - 400 = i by omega]
  · unfold ad
    rw [if_neg (by omega), if_neg (by omega), if_neg (by omega), if_neg (by omega), if_pos (by omega), show 400 + i - 400 = i by omega]
theorem ce_l {i : Int} (h0 : 0 ≤ i) (h2 : i < 100) : CE g ρ (500 + i) = (if i < ρ 39 0 then some (cLst (ρ 47 i) (aM ρ i) (ρ 17 i)) else none) ∧ ad g ρ (500 + i) = aL ρ i := by
  refine ⟨?_, ?_⟩
  · unfold CE
    rw [if_neg (by omega), if_neg (by omega), if_neg (by omega), if_neg (by omega), if_neg (by omega), if_pos (by omega)]
    unfold cB5
    rw [show 500 + i - 500 = i by omega]
  · unfold ad
    rw [if_neg (by omega), if_neg (by omega), if_neg (by omega), if_neg (by omega), if_neg (by omega), if_pos (by omega), show 500 + i - 500 = i by omega]
theorem ce_a {i : Int} (h0 : 0 ≤ i) (h2 : i < 100) : CE g ρ (600 + i) = (if i < ρ 39 0 then cAr (ρ 48 i) (ρ 17 i) (fun j => aN ρ (40 * i + j)) else none) ∧ ad g ρ (600 + i) = aM ρ i := by
  refine ⟨?_, ?_⟩
  · unfold CE
    rw [if_neg (by omega), if_neg (by omega), if_neg (by omega), if_neg (by omega), if_neg (by omega), if_neg (by omega), if_pos (by omega)]
    unfold cB6
    rw [show 600 + i - 600 = i by omega]
  · unfold ad
    rw [if_neg (by omega), if_neg (by omega), if_neg (by omega), if_neg (by omega), if_neg (by omega), if_neg (by omega), if_pos (by omega), show 600 + i - 600 = i by omega]
theorem ce_n {i q : Int} (h0 : 0 ≤ i) (h2 : i < 8) (q0 : 0 ≤ q) (q1 : q < 40) : CE g ρ (1000 + (40 * i + q)) = (if i < ρ 39 0 ∧ q < ρ 17 i then some (cLi ρ (40 * i + q)) else none) ∧ ad g ρ (1000 + (40 * i + q)) = aN ρ (40 * i + q) := by
  refine ⟨?_, ?_⟩
  · unfold CE
    rw [if_neg (by omega), if_neg (by omega), if_neg (by omega), if_neg (by omega), if_neg (by omega), if_neg (by omega), if_neg (by omega)]
    unfold cB7
    rw [show 1000 + (40 * i + q) - 1000 = 40 * i + q by omega, show (40 * i + q) / 40 = i by omega, show (40 * i + q) % 40 = q by omega]
    by_cases z : i < ρ 39 0 ∧ q < ρ 17 i
    · rw [if_pos z, if_pos ⟨by omega, z⟩]
    · rw [if_neg z, if_neg (fun w => z w.2)]
  · unfold ad
    rw [if_neg (by omega), if_neg (by omega), if_neg (by omega), if_neg (by omega), if_neg (by omega), if_neg (by omega), if_neg (by omega), show 1000 + (40 * i + q) - 1000 = 40 * i + q by omega]
theorem ci_c (H : CI G g ρ h) {i : Int} (h0 : 0 ≤ i ∧ i < ρ 2 0 ∧ i < 100) : h (aC ρ i) = some (cCl ρ i) := H.at ((ce_c h0.1 h0.2.2).1.trans (if_pos h0.2.1)) (ce_c h0.1 h0.2.2).2
theorem ci_e (H : CI G g ρ h) {i : Int} (h0 : 0 ≤ i ∧ i < ρ 8 0 ∧ i < 100) : h (aE ρ i) = some (cEn ρ i) := H.at ((ce_e h0.1 h0.2.2).1.trans (if_pos h0.2.1)) (ce_e h0.1 h0.2.2).2
theorem ci_k (H : CI G g ρ h) {i : Int} (h0 : 0 ≤ i ∧ i < ρ 24 0 ∧ i < 100) : h (aK ρ i) = some (cCo ρ i) := H.at ((ce_k h0.1 h0.2.2).1.trans (if_pos h0.2.1)) (ce_k h0.1 h0.2.2).2
theorem ci_i (H : CI G g ρ h) {i : Int} (h0 : 0 ≤ i ∧ i < ρ 39 0 ∧ i < 100) : h (aI ρ i) = some (cIn ρ i) := H.at ((ce_i h0.1 h0.2.2).1.trans (if_pos h0.2.1)) (ce_i h0.1 h0.2.2).2
theorem ci_l (H : CI G g ρ h) {i : Int} (h0 : 0 ≤ i ∧ i < ρ 39 0 ∧ i < 100) : h (aL ρ i) = some (cLst (ρ 47 i) (aM ρ i) (ρ 17 i)) := H.at ((ce_l h0.1 h0.2.2).1.trans (if_pos h0.2.1)) (ce_l h0.1 h0.2.2).2
theorem ci_n (H : CI G g ρ h) {i q : Int} (h0 : 0 ≤ i ∧ i < ρ 39 0 ∧ i < 8) (q0 : 0 ≤ q ∧ q < ρ 17 i ∧ q < 40) : h (aN ρ (40 * i + q)) = some (cLi ρ (40 * i + q)) := H.at ((ce_n h0.1 h0.2.2 q0.1 q0.2.2).1.trans (if_pos ⟨h0.2.1, q0.2.1⟩)) (ce_n h0.1 h0.2.2 q0.1 q0.2.2).2
/-- two clients are one -/
theorem ci_cc (H : CI G g ρ h) {i j : Int} (hi : 0 ≤ i ∧ i < ρ 2 0 ∧ i < 100) (hj : 0 ≤ j ∧ j < ρ 2 0 ∧ j < 100) : aC ρ i = aC ρ j ↔ i = j := by
  refine ⟨fun e => ?_, fun e => by rw [e]⟩
  have a := ce_c (g := g) (ρ := ρ) hi.1 hi.2.2
  have b := ce_c (g := g) (ρ := ρ) hj.1 hj.2.2
  have := H.2.1 (100 + i) (100 + j) (by rw [a.1, if_pos hi.2.1]; exact fun w => by cases w) (by rw [b.1, if_pos hj.2.1]; exact fun w => by cases w) (by rw [a.2, b.2]; exact e)
  omega
theorem ci_ee (H : CI G g ρ h) {i j : Int} (hi : 0 ≤ i ∧ i < ρ 8 0 ∧ i < 100) (hj : 0 ≤ j ∧ j < ρ 8 0 ∧ j < 100) : aE ρ i = aE ρ j ↔ i = j := by
  refine ⟨fun e => ?_, fun e => by rw [e]⟩
  have a := ce_e (g := g) (ρ := ρ) hi.1 hi.2.2
  have b := ce_e (g := g) (ρ := ρ) hj.1 hj.2.2
  have := H.2.1 (200 + i) (200 + j) (by rw [a.1, if_pos hi.2.1]; exact fun w => by cases w) (by rw [b.1, if_pos hj.2.1]; exact fun w => by cases w) (by rw [a.2, b.2]; exact e)
  omega
/-- an object is written -/
theorem CI.put (H : CI G g ρ h) {r : Int} {x : AE} {a : Nat} (ha : ad g ρ r = a) (hr : CE g ρ r ≠ none) (hx : CE g ρ' r = some x) (ho : ∀ r', r' ≠ r → CE g ρ' r' = CE g ρ r') (hd : ∀ r', ad g ρ' r' = ad g ρ r') (hK : KLs G g ρ') : CI G g ρ' (hu h a x) := by
  subst ha
  refine ⟨fun r' y hy => ?_, fun r1 r2 h1 h2 e => ?_, hK⟩
  · rw [hd]
    by_cases q : r' = r
    · subst q
      rw [hx] at hy
      cases hy
      exact hu_s _ _ _
    · rw [ho r' q] at hy
      rw [hu_n _ _ (fun z => q (H.2.1 r' r (by rw [hy]; exact fun w => by cases w) hr z))]
      exact H.1 r' y hy
  · rw [hd, hd] at e
    have t : ∀ r1, CE g ρ' r1 ≠ none → CE g ρ r1 ≠ none := fun r1 z => by
      by_cases q : r1 = r
      · rw [q]; exact hr
      · rw [← ho r1 q]; exact z
    exact H.2.1 r1 r2 (t r1 h1) (t r2 h2) e
/-- a new object that is nobody's -/
theorem CI.fresh (H : CI G g ρ h) {q : Nat} (hq : h q = none) (x : AE) : CI G g ρ (hu h q x) := by
  refine ⟨fun r y hy => ?_, H.2⟩
  have := H.1 r y hy
  rw [hu_n _ _ (fresh_ne hq this)]
  exact this
theorem CI.nobody (H : CI G g ρ h) {q : Nat} (hq : h q = none) {r : Int} (hr : CE g ρ r ≠ none) : ad g ρ r ≠ q := by
  cases e : CE g ρ r with
  | none => exact absurd e hr
  | some x => exact fresh_ne hq (H.1 r x e)
/-- some roles change -/
theorem CI.upd (H : CI G g ρ h) (T : Int → Prop)
    (hun : ∀ r, ¬ T r → CE g ρ' r = CE g ρ r ∧ (CE g ρ r ≠ none → ad g ρ' r = ad g ρ r ∧ h' (ad g ρ r) = h (ad g ρ r)))
    (ht : ∀ r x, T r → CE g ρ' r = some x → h' (ad g ρ' r) = some x)
    (hi : ∀ r, T r → CE g ρ' r ≠ none → (CE g ρ r ≠ none ∧ ad g ρ' r = ad g ρ r) ∨ ((∀ r', CE g ρ r' ≠ none → ad g ρ r' ≠ ad g ρ' r) ∧ ∀ r', T r' → CE g ρ' r' ≠ none → ad g ρ' r' = ad g ρ' r → r' = r))
    (hK : KLs G g ρ') : CI G g ρ' h' := by
  refine ⟨fun r x hx => ?_, fun r1 r2 h1 h2 e => ?_, hK⟩
  · by_cases q : T r
    · exact ht r x q hx
    · obtain ⟨u1, u2⟩ := hun r q
      rw [u1] at hx
      obtain ⟨u3, u4⟩ := u2 (by rw [hx]; exact fun w => by cases w)
      rw [u3, u4]
      exact H.1 r x hx
  · have cl : ∀ r, CE g ρ' r ≠ none → (CE g ρ r ≠ none ∧ ad g ρ' r = ad g ρ r) ∨ (T r ∧ (∀ r', CE g ρ r' ≠ none → ad g ρ r' ≠ ad g ρ' r) ∧ ∀ r', T r' → CE g ρ' r' ≠ none → ad g ρ' r' = ad g ρ' r → r' = r) := fun r hr => by
      by_cases q : T r
      · rcases hi r q hr with z | z
        · exact Or.inl z
        · exact Or.inr ⟨q, z⟩
      · obtain ⟨u1, u2⟩ := hun r q
        rw [u1] at hr
        exact Or.inl ⟨hr, (u2 hr).1⟩
    rcases cl r1 h1 with ⟨p1, p2⟩ | ⟨p1, p2, p3⟩ <;> rcases cl r2 h2 with ⟨q1, q2⟩ | ⟨q1, q2, q3⟩
    · exact H.2.1 r1 r2 p1 q1 (by rw [← p2, ← q2]; exact e)
    · exact absurd (p2.symm.trans e) (q2 r1 p1)
    · exact absurd (q2.symm.trans e.symm) (p2 r2 q1)
    · exact q3 r1 p1 h1 e
/-- a list changes; rb: a new role, or none -/
theorem CI.list (H : CI G g ρ h) {rl ra rb mc mc' N N' n n' : Int} {b b' : Int → Nat} {al ar ar' : Nat}
    (l1 : CE g ρ rl = some (cLst mc ar n)) (l2 : CE g ρ ra = cAr N n b) (l3 : CE g ρ rb = none) (k1 : CE g ρ' rl = some (cLst mc' ar' n')) (k2 : CE g ρ' ra = cAr N' n' b')
    (a0 : ad g ρ rl = al) (a1 : ad g ρ' rl = al) (a2 : ad g ρ ra = ar) (a3 : ad g ρ' ra = ar')
    (hun : ∀ r, r ≠ rl → r ≠ ra → r ≠ rb → CE g ρ' r = CE g ρ r ∧ (CE g ρ r ≠ none → ad g ρ' r = ad g ρ r))
    (hfr : ∀ x, x ≠ al → x ≠ ar' → h' x = h x) (ho : h' al = some (cLst mc' ar' n'))
    (hA : 0 < N' → h' (ar') = some (eA 5 N'.toNat (cCn n' b'))) (hz : ¬ 0 < N' → h' (ar') = h (ar') ∨ ar' = al)
    (hw : (ar' = ar ∧ (0 < N' → 0 < N)) ∨ h (ar') = none)
    (hb : ∀ x, CE g ρ' rb = some x → h' (ad g ρ' rb) = some x ∧ (∀ r, CE g ρ r ≠ none → ad g ρ r ≠ ad g ρ' rb) ∧ (h (ar') = none → ad g ρ' rb ≠ ar'))
    (hK : KLs G g ρ') : CI G g ρ' h' := by
  have rlp : CE g ρ rl ≠ none := by rw [l1]; exact fun w => by cases w
  have rap : 0 < N → CE g ρ ra ≠ none := fun q => by rw [l2]; unfold cAr; rw [if_pos q]; exact fun w => by cases w
  refine H.upd (fun r => r = rl ∨ r = ra ∨ r = rb) (fun r hr => ?_) (fun r x hr hx => ?_) (fun r hr hx => ?_) hK
  · have n1 : r ≠ rl := fun z => hr (Or.inl z)
    have n2 : r ≠ ra := fun z => hr (Or.inr (Or.inl z))
    have n3 : r ≠ rb := fun z => hr (Or.inr (Or.inr z))
    obtain ⟨u1, u2⟩ := hun r n1 n2 n3
    refine ⟨u1, fun hp => ⟨u2 hp, ?_⟩⟩
    have m1 : ad g ρ r ≠ al := fun z => n1 (H.2.1 r rl hp rlp (z.trans a0.symm))
    by_cases q : ad g ρ r = ar'
    · rcases hw with ⟨w1, w2⟩ | w
      · by_cases v : 0 < N'
        · exact absurd (H.2.1 r ra hp (rap (w2 v)) (by rw [a2, q, w1])) n2
        · rcases hz v with z | z
          · rw [q]; exact z
          · exact absurd (q.trans z) m1
      · exact absurd q (H.nobody w hp)
    · exact hfr _ m1 q
  · rcases hr with rfl | rfl | rfl
    · rw [k1] at hx
      cases hx
      rw [a1]; exact ho
    · rw [k2] at hx
      unfold cAr at hx
      by_cases v : 0 < N'
      · rw [if_pos v] at hx
        cases hx
        rw [a3]; exact hA v
      · rw [if_neg v] at hx; cases hx
    · exact (hb x hx).1
  · have hav : CE g ρ' ra ≠ none → 0 < N' := fun z => by
      rw [k2] at z
      unfold cAr at z
      by_cases v : 0 < N'
      · exact v
      · rw [if_neg v] at z; exact absurd rfl z
    rcases hr with rfl | rfl | rfl
    · exact Or.inl ⟨rlp, a1.trans a0.symm⟩
    · rcases hw with ⟨w1, w2⟩ | w
      · exact Or.inl ⟨rap (w2 (hav hx)), by rw [a3, a2, w1]⟩
      · refine Or.inr ⟨fun r' hr' => by rw [a3]; exact H.nobody w hr', fun r' hr' hx' e => ?_⟩
        rw [a3] at e
        rcases hr' with rfl | rfl | rfl
        · rw [a1] at e
          exact absurd (a0.trans e) (H.nobody w rlp)
        · rfl
        · cases e9 : CE g ρ' r' with
          | none => exact absurd e9 hx'
          | some x => exact absurd e ((hb x e9).2.2 w)
    · cases e9 : CE g ρ' r with
      | none => exact absurd e9 hx
      | some x =>
        obtain ⟨b1, b2, b3⟩ := hb x e9
        refine Or.inr ⟨b2, fun r' hr' hx' e => ?_⟩
        rcases hr' with rfl | rfl | rfl
        · rw [a1] at e
          exact absurd (a0.trans e) (b2 r' rlp)
        · rcases hw with ⟨w1, w2⟩ | w
          · rw [a3, w1] at e
            exact absurd (a2.trans e) (b2 r' (rap (w2 (hav hx'))))
          · rw [a3] at e
            exact absurd e.symm (b3 w)
        · rfl
theorem su_i {σ : Sg} {k : Nat} {i v j : Int} (hn : j ≠ i) : su σ k i v k j = σ k j := by
  unfold su
  rw [if_pos rfl, if_neg hn]
theorem su_e {σ : Sg} {k : Nat} {i v : Int} : su σ k i v k i = v := by
  unfold su
  rw [if_pos rfl, if_pos rfl]
theorem sw_e {σ : Sg} {k : Nat} {f : Int → Int} : sw σ k f k = f := by
  funext j
  unfold sw
  rw [if_pos rfl]
theorem cP3 (H : CI G g ρ h) {i v : Int} {x : AE} (h0 : 0 ≤ i ∧ i < ρ 2 0 ∧ i < 100) (hx : cCl (su ρ 3 i v) i = x) : CI G g (su ρ 3 i v) (hu h (aC ρ i) x) := by
  have c1 := ce_c (g := g) (ρ := ρ) h0.1 h0.2.2
  have c2 := ce_c (g := g) (ρ := su ρ 3 i v) h0.1 h0.2.2
  refine H.put (r := 100 + i) c1.2 (by rw [c1.1, if_pos h0.2.1]; exact fun w => by cases w) (by rw [c2.1, ← hx]; exact if_pos h0.2.1) (fun r' hr' => ?_) (fun _ => rfl) H.2.2
  have e1 : r' - 100 ≠ i := by omega
  have e2 : cB1 (su ρ 3 i v) r' = cB1 ρ r' := by
    unfold cB1
    show (if r' - 100 < ρ 2 0 then some (cCl (su ρ 3 i v) (r' - 100)) else none) = _
    have e3 : cCl (su ρ 3 i v) (r' - 100) = cCl ρ (r' - 100) := by
      unfold cCl
      rw [su_i e1]
      rfl
    rw [e3]
  unfold CE
  rw [e2]
  rfl
theorem cP4 (H : CI G g ρ h) {i v : Int} {x : AE} (h0 : 0 ≤ i ∧ i < ρ 2 0 ∧ i < 100) (hx : cCl (su ρ 4 i v) i = x) : CI G g (su ρ 4 i v) (hu h (aC ρ i) x) := by
  have c1 := ce_c (g := g) (ρ := ρ) h0.1 h0.2.2
  have c2 := ce_c (g := g) (ρ := su ρ 4 i v) h0.1 h0.2.2
  refine H.put (r := 100 + i) c1.2 (by rw [c1.1, if_pos h0.2.1]; exact fun w => by cases w) (by rw [c2.1, ← hx]; exact if_pos h0.2.1) (fun r' hr' => ?_) (fun _ => rfl) H.2.2
  have e1 : r' - 100 ≠ i := by omega
  have e2 : cB1 (su ρ 4 i v) r' = cB1 ρ r' := by
    unfold cB1
    show (if r' - 100 < ρ 2 0 then some (cCl (su ρ 4 i v) (r' - 100)) else none) = _
    have e3 : cCl (su ρ 4 i v) (r' - 100) = cCl ρ (r' - 100) := by
      unfold cCl
      rw [su_i e1]
      rfl
    rw [e3]
  unfold CE
  rw [e2]
  rfl
theorem cP5 (H : CI G g ρ h) {i v : Int} {x : AE} (h0 : 0 ≤ i ∧ i < ρ 2 0 ∧ i < 100) (hx : cCl (su ρ 5 i v) i = x) : CI G g (su ρ 5 i v) (hu h (aC ρ i) x) := by
  have c1 := ce_c (g := g) (ρ := ρ) h0.1 h0.2.2
  have c2 := ce_c (g := g) (ρ := su ρ 5 i v) h0.1 h0.2.2
  refine H.put (r := 100 + i) c1.2 (by rw [c1.1, if_pos h0.2.1]; exact fun w => by cases w) (by rw [c2.1, ← hx]; exact if_pos h0.2.1) (fun r' hr' => ?_) (fun _ => rfl) H.2.2
  have e1 : r' - 100 ≠ i := by omega
  have e2 : cB1 (su ρ 5 i v) r' = cB1 ρ r' := by
    unfold cB1
    show (if r' - 100 < ρ 2 0 then some (cCl (su ρ 5 i v) (r' - 100)) else none) = _
    have e3 : cCl (su ρ 5 i v) (r' - 100) = cCl ρ (r' - 100) := by
      unfold cCl
      rw [su_i e1]
      rfl
    rw [e3]
  unfold CE
  rw [e2]
  rfl
theorem cP6 (H : CI G g ρ h) {i v : Int} {x : AE} (h0 : 0 ≤ i ∧ i < ρ 2 0 ∧ i < 100) (hx : cCl (su ρ 6 i v) i = x) : CI G g (su ρ 6 i v) (hu h (aC ρ i) x) := by
  have c1 := ce_c (g := g) (ρ := ρ) h0.1 h0.2.2
  have c2 := ce_c (g := g) (ρ := su ρ 6 i v) h0.1 h0.2.2
  refine H.put (r := 100 + i) c1.2 (by rw [c1.1, if_pos h0.2.1]; exact fun w => by cases w) (by rw [c2.1, ← hx]; exact if_pos h0.2.1) (fun r' hr' => ?_) (fun _ => rfl) H.2.2
  have e1 : r' - 100 ≠ i := by omega
  have e2 : cB1 (su ρ 6 i v) r' = cB1 ρ r' := by
    unfold cB1
    show (if r' - 100 < ρ 2 0 then some (cCl (su ρ 6 i v) (r' - 100)) else none) = _
    have e3 : cCl (su ρ 6 i v) (r' - 100) = cCl ρ (r' - 100) := by
      unfold cCl
      rw [su_i e1]
      rfl
    rw [e3]
  unfold CE
  rw [e2]
  rfl
theorem cP7 (H : CI G g ρ h) {i v : Int} {x : AE} (h0 : 0 ≤ i ∧ i < ρ 2 0 ∧ i < 100) (hx : cCl (su ρ 7 i v) i = x) : CI G g (su ρ 7 i v) (hu h (aC ρ i) x) := by
  have c1 := ce_c (g := g) (ρ := ρ) h0.1 h0.2.2
  have c2 := ce_c (g := g) (ρ := su ρ 7 i v) h0.1 h0.2.2
  refine H.put (r := 100 + i) c1.2 (by rw [c1.1, if_pos h0.2.1]; exact fun w => by cases w) (by rw [c2.1, ← hx]; exact if_pos h0.2.1) (fun r' hr' => ?_) (fun _ => rfl) H.2.2
  have e1 : r' - 100 ≠ i := by omega
  have e2 : cB1 (su ρ 7 i v) r' = cB1 ρ r' := by
    unfold cB1
    show (if r' - 100 < ρ 2 0 then some (cCl (su ρ 7 i v) (r' - 100)) else none) = _
    have e3 : cCl (su ρ 7 i v) (r' - 100) = cCl ρ (r' - 100) := by
      unfold cCl
      rw [su_i e1]
      rfl
    rw [e3]
  unfold CE
  rw [e2]
  rfl
theorem cP10 (H : CI G g ρ h) {i v : Int} {x : AE} (h0 : 0 ≤ i ∧ i < ρ 8 0 ∧ i < 100) (hx : cEn (su ρ 10 i v) i = x) : CI G g (su ρ 10 i v) (hu h (aE ρ i) x) := by
  have c1 := ce_e (g := g) (ρ := ρ) h0.1 h0.2.2
  have c2 := ce_e (g := g) (ρ := su ρ 10 i v) h0.1 h0.2.2
  refine H.put (r := 200 + i) c1.2 (by rw [c1.1, if_pos h0.2.1]; exact fun w => by cases w) (by rw [c2.1, ← hx]; exact if_pos h0.2.1) (fun r' hr' => ?_) (fun _ => rfl) H.2.2
  have e1 : r' - 200 ≠ i := by omega
  have e2 : cB2 (su ρ 10 i v) r' = cB2 ρ r' := by
    unfold cB2
    show (if r' - 200 < ρ 8 0 then some (cEn (su ρ 10 i v) (r' - 200)) else none) = _
    have e3 : cEn (su ρ 10 i v) (r' - 200) = cEn ρ (r' - 200) := by
      unfold cEn
      rw [su_i e1]
      rfl
    rw [e3]
  unfold CE
  rw [e2]
  rfl
theorem cP11 (H : CI G g ρ h) {i v : Int} {x : AE} (h0 : 0 ≤ i ∧ i < ρ 8 0 ∧ i < 100) (hx : cEn (su ρ 11 i v) i = x) : CI G g (su ρ 11 i v) (hu h (aE ρ i) x) := by
  have c1 := ce_e (g := g) (ρ := ρ) h0.1 h0.2.2
  have c2 := ce_e (g := g) (ρ := su ρ 11 i v) h0.1 h0.2.2
  refine H.put (r := 200 + i) c1.2 (by rw [c1.1, if_pos h0.2.1]; exact fun w => by cases w) (by rw [c2.1, ← hx]; exact if_pos h0.2.1) (fun r' hr' => ?_) (fun _ => rfl) H.2.2
  have e1 : r' - 200 ≠ i := by omega
  have e2 : cB2 (su ρ 11 i v) r' = cB2 ρ r' := by
    unfold cB2
    show (if r' - 200 < ρ 8 0 then some (cEn (su ρ 11 i v) (r' - 200)) else none) = _
    have e3 : cEn (su ρ 11 i v) (r' - 200) = cEn ρ (r' - 200) := by
      unfold cEn
      rw [su_i e1]
      rfl
    rw [e3]
  unfold CE
  rw [e2]
  rfl
theorem cP12 (H : CI G g ρ h) {i v : Int} {x : AE} (h0 : 0 ≤ i ∧ i < ρ 8 0 ∧ i < 100) (hx : cEn (su ρ 12 i v) i = x) : CI G g (su ρ 12 i v) (hu h (aE ρ i) x) := by
  have c1 := ce_e (g := g) (ρ := ρ) h0.1 h0.2.2
  have c2 := ce_e (g := g) (ρ := su ρ 12 i v) h0.1 h0.2.2
  refine H.put (r := 200 + i) c1.2 (by rw [c1.1, if_pos h0.2.1]; exact fun w => by cases w) (by rw [c2.1, ← hx]; exact if_pos h0.2.1) (fun r' hr' => ?_) (fun _ => rfl) H.2.2
  have e1 : r' - 200 ≠ i := by omega
  have e2 : cB2 (su ρ 12 i v) r' = cB2 ρ r' := by
    unfold cB2
    show (if r' - 200 < ρ 8 0 then some (cEn (su ρ 12 i v) (r' - 200)) else none) = _
    have e3 : cEn (su ρ 12 i v) (r' - 200) = cEn ρ (r' - 200) := by
      unfold cEn
      rw [su_i e1]
      rfl
    rw [e3]
  unfold CE
  rw [e2]
  rfl
theorem cP13 (H : CI G g ρ h) {i v : Int} {x : AE} (h0 : 0 ≤ i ∧ i < ρ 8 0 ∧ i < 100) (hx : cEn (su ρ 13 i v) i = x) : CI G g (su ρ 13 i v) (hu h (aE ρ i) x) := by
  have c1 := ce_e (g := g) (ρ := ρ) h0.1 h0.2.2
  have c2 := ce_e (g := g) (ρ := su ρ 13 i v) h0.1 h0.2.2
  refine H.put (r := 200 + i) c1.2 (by rw [c1.1, if_pos h0.2.1]; exact fun w => by cases w) (by rw [c2.1, ← hx]; exact if_pos h0.2.1) (fun r' hr' => ?_) (fun _ => rfl) H.2.2
  have e1 : r' - 200 ≠ i := by omega
  have e2 : cB2 (su ρ 13 i v) r' = cB2 ρ r' := by
    unfold cB2
    show (if r' - 200 < ρ 8 0 then some (cEn (su ρ 13 i v) (r' - 200)) else none) = _
    have e3 : cEn (su ρ 13 i v) (r' - 200) = cEn ρ (r' - 200) := by
      unfold cEn
      rw [su_i e1]
      rfl
    rw [e3]
  unfold CE
  rw [e2]
  rfl
theorem cP27 (H : CI G g ρ h) {i v : Int} {x : AE} (h0 : 0 ≤ i ∧ i < ρ 24 0 ∧ i < 100) (hx : cCo (su ρ 27 i v) i = x) : CI G g (su ρ 27 i v) (hu h (aK ρ i) x) := by
  have c1 := ce_k (g := g) (ρ := ρ) h0.1 h0.2.2
  have c2 := ce_k (g := g) (ρ := su ρ 27 i v) h0.1 h0.2.2
  refine H.put (r := 300 + i) c1.2 (by rw [c1.1, if_pos h0.2.1]; exact fun w => by cases w) (by rw [c2.1, ← hx]; exact if_pos h0.2.1) (fun r' hr' => ?_) (fun _ => rfl) H.2.2
  have e1 : r' - 300 ≠ i := by omega
  have e2 : cB3 (su ρ 27 i v) r' = cB3 ρ r' := by
    unfold cB3
    show (if r' - 300 < ρ 24 0 then some (cCo (su ρ 27 i v) (r' - 300)) else none) = _
    have e3 : cCo (su ρ 27 i v) (r' - 300) = cCo ρ (r' - 300) := by
      unfold cCo
      rw [su_i e1]
      rfl
    rw [e3]
  unfold CE
  rw [e2]
  rfl
theorem cP31 (H : CI G g ρ h) {i v : Int} {x : AE} (h0 : 0 ≤ i ∧ i < ρ 39 0 ∧ i < 100) (hx : cIn (su ρ 31 i v) i = x) : CI G g (su ρ 31 i v) (hu h (aI ρ i) x) := by
  have c1 := ce_i (g := g) (ρ := ρ) h0.1 h0.2.2
  have c2 := ce_i (g := g) (ρ := su ρ 31 i v) h0.1 h0.2.2
  refine H.put (r := 400 + i) c1.2 (by rw [c1.1, if_pos h0.2.1]; exact fun w => by cases w) (by rw [c2.1, ← hx]; exact if_pos h0.2.1) (fun r' hr' => ?_) (fun _ => rfl) H.2.2
  have e1 : r' - 400 ≠ i := by omega
  have e2 : cB4 (su ρ 31 i v) r' = cB4 ρ r' := by
    unfold cB4
    show (if r' - 400 < ρ 39 0 then some (cIn (su ρ 31 i v) (r' - 400)) else none) = _
    have e3 : cIn (su ρ 31 i v) (r' - 400) = cIn ρ (r' - 400) := by
      unfold cIn
      rw [su_i e1]
      rfl
    rw [e3]
  unfold CE
  rw [e2]
  rfl
theorem cP23 (H : CI G g ρ h) {i v : Int} {x : AE} (h0 : 0 ≤ i ∧ i < ρ 39 0 ∧ i < 100) (hx : cIn (su ρ 23 i v) i = x) : CI G g (su ρ 23 i v) (hu h (aI ρ i) x) := by
  have c1 := ce_i (g := g) (ρ := ρ) h0.1 h0.2.2
  have c2 := ce_i (g := g) (ρ := su ρ 23 i v) h0.1 h0.2.2
  refine H.put (r := 400 + i) c1.2 (by rw [c1.1, if_pos h0.2.1]; exact fun w => by cases w) (by rw [c2.1, ← hx]; exact if_pos h0.2.1) (fun r' hr' => ?_) (fun _ => rfl) H.2.2
  have e1 : r' - 400 ≠ i := by omega
  have e2 : cB4 (su ρ 23 i v) r' = cB4 ρ r' := by
    unfold cB4
    show (if r' - 400 < ρ 39 0 then some (cIn (su ρ 23 i v) (r' - 400)) else none) = _
    have e3 : cIn (su ρ 23 i v) (r' - 400) = cIn ρ (r' - 400) := by
      unfold cIn
      rw [su_i e1]
      rfl
    rw [e3]
  unfold CE
  rw [e2]
  rfl
theorem cPf0 (H : CI G g ρ h) (v : Int) : CI G g (su ρ 0 0 v) (hu h (g 1) (eO 12 [vR (g 15), vI v, vI (ρ 1 0)])) := by
  refine H.put (r := 1) rfl (fun w => by cases w) rfl (fun r' hr' => ?_) (fun _ => rfl) H.2.2
  have e2 : cFix g (su ρ 0 0 v) r' = cFix g ρ r' := by
    unfold cFix
    by_cases q : r' = 1
    · exact absurd q hr'
    · simp only [if_neg q]
      rfl
  unfold CE
  rw [e2]
  rfl
theorem cPf1 (H : CI G g ρ h) (v : Int) : CI G g (su ρ 1 0 v) (hu h (g 1) (eO 12 [vR (g 15), vI (ρ 0 0), vI v])) := by
  refine H.put (r := 1) rfl (fun w => by cases w) rfl (fun r' hr' => ?_) (fun _ => rfl) H.2.2
  have e2 : cFix g (su ρ 1 0 v) r' = cFix g ρ r' := by
    unfold cFix
    by_cases q : r' = 1
    · exact absurd q hr'
    · simp only [if_neg q]
      rfl
  unfold CE
  rw [e2]
  rfl
theorem cPf34_0 (H : CI G g ρ h) (v : Int) : CI G g (su ρ 34 0 v) (hu h (g 2) (eO 11 [vR (g 1), vR (g 4), vI v, vI (ρ 34 1)])) := by
  refine H.put (r := 2) rfl (fun w => by cases w) rfl (fun r' hr' => ?_) (fun _ => rfl) H.2.2
  have e2 : cFix g (su ρ 34 0 v) r' = cFix g ρ r' := by
    unfold cFix
    by_cases q : r' = 2
    · exact absurd q hr'
    · simp only [if_neg q]
      rfl
  unfold CE
  rw [e2]
  rfl
theorem cPf34_1 (H : CI G g ρ h) (v : Int) : CI G g (su ρ 34 1 v) (hu h (g 2) (eO 11 [vR (g 1), vR (g 4), vI (ρ 34 0), vI v])) := by
  refine H.put (r := 2) rfl (fun w => by cases w) rfl (fun r' hr' => ?_) (fun _ => rfl) H.2.2
  have e2 : cFix g (su ρ 34 1 v) r' = cFix g ρ r' := by
    unfold cFix
    by_cases q : r' = 2
    · exact absurd q hr'
    · simp only [if_neg q]
      rfl
  unfold CE
  rw [e2]
  rfl
theorem cPf34_2 (H : CI G g ρ h) (v : Int) : CI G g (su ρ 34 2 v) (hu h (g 3) (eO 11 [vR (g 1), vR (g 5), vI v, vI (ρ 34 3)])) := by
  refine H.put (r := 3) rfl (fun w => by cases w) rfl (fun r' hr' => ?_) (fun _ => rfl) H.2.2
  have e2 : cFix g (su ρ 34 2 v) r' = cFix g ρ r' := by
    unfold cFix
    by_cases q : r' = 3
    · exact absurd q hr'
    · simp only [if_neg q]
      rfl
  unfold CE
  rw [e2]
  rfl
theorem cPf34_3 (H : CI G g ρ h) (v : Int) : CI G g (su ρ 34 3 v) (hu h (g 3) (eO 11 [vR (g 1), vR (g 5), vI (ρ 34 2), vI v])) := by
  refine H.put (r := 3) rfl (fun w => by cases w) rfl (fun r' hr' => ?_) (fun _ => rfl) H.2.2
  have e2 : cFix g (su ρ 34 3 v) r' = cFix g ρ r' := by
    unfold cFix
    by_cases q : r' = 3
    · exact absurd q hr'
    · simp only [if_neg q]
      rfl
  unfold CE
  rw [e2]
  rfl
theorem cPsu14 (H : CI G g ρ h) (i v : Int) : CI G g (su ρ 14 i v) (hu h (g 4) (eA 0 120 (fun j => vI (if j = i then v else ρ 14 j)))) := by
  refine H.put (r := 4) rfl (fun w => by cases w) rfl (fun r' hr' => ?_) (fun _ => rfl) H.2.2
  have e2 : cFix g (su ρ 14 i v) r' = cFix g ρ r' := by
    unfold cFix
    simp only [if_neg hr']
    rfl
  unfold CE
  rw [e2]
  rfl
theorem cPsw14 (H : CI G g ρ h) (f : Int → Int) : CI G g (sw ρ 14 f) (hu h (g 4) (eA 0 120 (fun j => vI (f j)))) := by
  refine H.put (r := 4) rfl (fun w => by cases w) rfl (fun r' hr' => ?_) (fun _ => rfl) H.2.2
  have e2 : cFix g (sw ρ 14 f) r' = cFix g ρ r' := by
    unfold cFix
    simp only [if_neg hr']
    rfl
  unfold CE
  rw [e2]
  rfl
theorem cPsu15 (H : CI G g ρ h) (i v : Int) : CI G g (su ρ 15 i v) (hu h (g 5) (eA 0 120 (fun j => vI (if j = i then v else ρ 15 j)))) := by
  refine H.put (r := 5) rfl (fun w => by cases w) rfl (fun r' hr' => ?_) (fun _ => rfl) H.2.2
  have e2 : cFix g (su ρ 15 i v) r' = cFix g ρ r' := by
    unfold cFix
    simp only [if_neg hr']
    rfl
  unfold CE
  rw [e2]
  rfl
theorem cPsw15 (H : CI G g ρ h) (f : Int → Int) : CI G g (sw ρ 15 f) (hu h (g 5) (eA 0 120 (fun j => vI (f j)))) := by
  refine H.put (r := 5) rfl (fun w => by cases w) rfl (fun r' hr' => ?_) (fun _ => rfl) H.2.2
  have e2 : cFix g (sw ρ 15 f) r' = cFix g ρ r' := by
    unfold cFix
    simp only [if_neg hr']
    rfl
  unfold CE
  rw [e2]
  rfl
end CW
