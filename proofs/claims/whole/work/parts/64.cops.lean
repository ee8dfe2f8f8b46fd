/-! THE CLASS'S WORLD: lists and objects that come -/
section CO
variable {G : GG} {g : Int → Nat} {ρ ρ' : Sg} {h h' : Hp}
theorem CE_ext {r : Int} (e0 : r < 100 → cFix g ρ' r = cFix g ρ r) (e1 : 100 ≤ r → r < 200 → cB1 ρ' r = cB1 ρ r) (e2 : 200 ≤ r → r < 300 → cB2 ρ' r = cB2 ρ r) (e3 : 300 ≤ r → r < 400 → cB3 ρ' r = cB3 ρ r) (e4 : 400 ≤ r → r < 500 → cB4 ρ' r = cB4 ρ r) (e5 : 500 ≤ r → r < 600 → cB5 ρ' r = cB5 ρ r) (e6 : 600 ≤ r → r < 700 → cB6 ρ' r = cB6 ρ r) (e7 : 700 ≤ r → cB7 ρ' r = cB7 ρ r) : CE g ρ' r = CE g ρ r := by
  unfold CE
  by_cases q0 : r < 100
  · rw [if_pos q0, if_pos q0]; exact e0 q0
  rw [if_neg q0, if_neg q0]
  by_cases q1 : r < 200
  · rw [if_pos q1, if_pos q1]; exact e1 (by omega) q1
  rw [if_neg q1, if_neg q1]
  by_cases q2 : r < 300
  · rw [if_pos q2, if_pos q2]; exact e2 (by omega) q2
  rw [if_neg q2, if_neg q2]
  by_cases q3 : r < 400
  · rw [if_pos q3, if_pos q3]; exact e3 (by omega) q3
  rw [if_neg q3, if_neg q3]
  by_cases q4 : r < 500
  · rw [if_pos q4, if_pos q4]; exact e4 (by omega) q4
  rw [if_neg q4, if_neg q4]
  by_cases q5 : r < 600
  · rw [if_pos q5, if_pos q5]; exact e5 (by omega) q5
  rw [if_neg q5, if_neg q5]
  by_cases q6 : r < 700
  · rw [if_pos q6, if_pos q6]; exact e6 (by omega) q6
  rw [if_neg q6, if_neg q6]
  exact e7 (by omega)
def adF (g : Int → Nat) (ρ : Sg) (r : Int) : Nat := if r = 8 then aA ρ 0 else if r = 10 then aA ρ 1 else if r = 12 then aA ρ 2 else if r = 14 then aA ρ 5 else if r = 16 then aA ρ 3 else if r = 18 then aA ρ 4 else g r
theorem ad_ext {r : Int} (e0 : r < 100 → adF g ρ' r = adF g ρ r) (e1 : 100 ≤ r → r < 200 → aC ρ' (r - 100) = aC ρ (r - 100)) (e2 : 200 ≤ r → r < 300 → aE ρ' (r - 200) = aE ρ (r - 200)) (e3 : 300 ≤ r → r < 400 → aK ρ' (r - 300) = aK ρ (r - 300)) (e4 : 400 ≤ r → r < 500 → aI ρ' (r - 400) = aI ρ (r - 400)) (e5 : 500 ≤ r → r < 600 → aL ρ' (r - 500) = aL ρ (r - 500)) (e6 : 600 ≤ r → r < 700 → aM ρ' (r - 600) = aM ρ (r - 600)) (e7 : 700 ≤ r → aN ρ' (r - 1000) = aN ρ (r - 1000)) : ad g ρ' r = ad g ρ r := by
  unfold ad
  by_cases q0 : r < 100
  · rw [if_pos q0, if_pos q0]; exact e0 q0
  rw [if_neg q0, if_neg q0]
  by_cases q1 : r < 200
  · rw [if_pos q1, if_pos q1]; exact e1 (by omega) q1
  rw [if_neg q1, if_neg q1]
  by_cases q2 : r < 300
  · rw [if_pos q2, if_pos q2]; exact e2 (by omega) q2
  rw [if_neg q2, if_neg q2]
  by_cases q3 : r < 400
  · rw [if_pos q3, if_pos q3]; exact e3 (by omega) q3
  rw [if_neg q3, if_neg q3]
  by_cases q4 : r < 500
  · rw [if_pos q4, if_pos q4]; exact e4 (by omega) q4
  rw [if_neg q4, if_neg q4]
  by_cases q5 : r < 600
  · rw [if_pos q5, if_pos q5]; exact e5 (by omega) q5
  rw [if_neg q5, if_neg q5]
  by_cases q6 : r < 700
  · rw [if_pos q6, if_pos q6]; exact e6 (by omega) q6
  rw [if_neg q6, if_neg q6]
  exact e7 (by omega)
theorem CE_lt {r : Int} (h : r < 100) : CE g ρ r = cFix g ρ r := if_pos h
theorem su_j {σ : Sg} {k k' : Nat} {i v j : Int} (hn : j ≠ i) : su σ k i v k' j = σ k' j := by
  unfold su
  by_cases z : k' = k
  · rw [if_pos z, if_neg hn]
  · rw [if_neg z]
/-- a list's counter, room, array -/
abbrev mt (X : Sg) (L a b c : Int) : Sg := su (su (su X 32 L a) 33 L b) 40 L c
abbrev mtL (X : Sg) (L a b c : Int) : Sg := su (su (su X 47 L a) 48 L b) 49 L c
theorem mt_0 (X : Sg) (a b c : Int) {r : Int} (n1 : r ≠ 7) (n2 : r ≠ 8) : CE g (mt X 0 a b c) r = CE g X r ∧ ad g (mt X 0 a b c) r = ad g X r := by
  refine ⟨CE_ext (fun _ => ?_) (fun _ _ => rfl) (fun _ _ => rfl) (fun _ _ => rfl) (fun _ _ => rfl) (fun _ _ => rfl) (fun _ _ => rfl) (fun _ => rfl), ad_ext (fun q => ?_) (fun _ _ => rfl) (fun _ _ => rfl) (fun _ _ => rfl) (fun _ _ => rfl) (fun _ _ => rfl) (fun _ _ => rfl) (fun _ => rfl)⟩
  · unfold cFix
    simp only [if_neg n1, if_neg n2]
    rfl
  · unfold adF
    simp only [if_neg n2]
    rfl
theorem mt_1 (X : Sg) (a b c : Int) {r : Int} (n1 : r ≠ 9) (n2 : r ≠ 10) : CE g (mt X 1 a b c) r = CE g X r ∧ ad g (mt X 1 a b c) r = ad g X r := by
  refine ⟨CE_ext (fun _ => ?_) (fun _ _ => rfl) (fun _ _ => rfl) (fun _ _ => rfl) (fun _ _ => rfl) (fun _ _ => rfl) (fun _ _ => rfl) (fun _ => rfl), ad_ext (fun q => ?_) (fun _ _ => rfl) (fun _ _ => rfl) (fun _ _ => rfl) (fun _ _ => rfl) (fun _ _ => rfl) (fun _ _ => rfl) (fun _ => rfl)⟩
  · unfold cFix
    simp only [if_neg n1, if_neg n2]
    rfl
  · unfold adF
    simp only [if_neg n2]
    rfl
theorem mt_2 (X : Sg) (a b c : Int) {r : Int} (n1 : r ≠ 11) (n2 : r ≠ 12) : CE g (mt X 2 a b c) r = CE g X r ∧ ad g (mt X 2 a b c) r = ad g X r := by
  refine ⟨CE_ext (fun _ => ?_) (fun _ _ => rfl) (fun _ _ => rfl) (fun _ _ => rfl) (fun _ _ => rfl) (fun _ _ => rfl) (fun _ _ => rfl) (fun _ => rfl), ad_ext (fun q => ?_) (fun _ _ => rfl) (fun _ _ => rfl) (fun _ _ => rfl) (fun _ _ => rfl) (fun _ _ => rfl) (fun _ _ => rfl) (fun _ => rfl)⟩
  · unfold cFix
    simp only [if_neg n1, if_neg n2]
    rfl
  · unfold adF
    simp only [if_neg n2]
    rfl
theorem mt_3 (X : Sg) (a b c : Int) {r : Int} (n1 : r ≠ 15) (n2 : r ≠ 16) : CE g (mt X 3 a b c) r = CE g X r ∧ ad g (mt X 3 a b c) r = ad g X r := by
  refine ⟨CE_ext (fun _ => ?_) (fun _ _ => rfl) (fun _ _ => rfl) (fun _ _ => rfl) (fun _ _ => rfl) (fun _ _ => rfl) (fun _ _ => rfl) (fun _ => rfl), ad_ext (fun q => ?_) (fun _ _ => rfl) (fun _ _ => rfl) (fun _ _ => rfl) (fun _ _ => rfl) (fun _ _ => rfl) (fun _ _ => rfl) (fun _ => rfl)⟩
  · unfold cFix
    simp only [if_neg n1, if_neg n2]
    rfl
  · unfold adF
    simp only [if_neg n2]
    rfl
theorem mt_4 (X : Sg) (a b c : Int) {r : Int} (n1 : r ≠ 17) (n2 : r ≠ 18) : CE g (mt X 4 a b c) r = CE g X r ∧ ad g (mt X 4 a b c) r = ad g X r := by
  refine ⟨CE_ext (fun _ => ?_) (fun _ _ => rfl) (fun _ _ => rfl) (fun _ _ => rfl) (fun _ _ => rfl) (fun _ _ => rfl) (fun _ _ => rfl) (fun _ => rfl), ad_ext (fun q => ?_) (fun _ _ => rfl) (fun _ _ => rfl) (fun _ _ => rfl) (fun _ _ => rfl) (fun _ _ => rfl) (fun _ _ => rfl) (fun _ => rfl)⟩
  · unfold cFix
    simp only [if_neg n1, if_neg n2]
    rfl
  · unfold adF
    simp only [if_neg n2]
    rfl
theorem mt_L (X : Sg) (i a b c : Int) {r : Int} (n1 : r ≠ 500 + i) (n2 : r ≠ 600 + i) : CE g (mtL X i a b c) r = CE g X r ∧ ad g (mtL X i a b c) r = ad g X r := by
  refine ⟨CE_ext (fun _ => rfl) (fun _ _ => rfl) (fun _ _ => rfl) (fun _ _ => rfl) (fun _ _ => rfl) (fun _ _ => ?_) (fun _ _ => ?_) (fun _ => rfl), ad_ext (fun _ => rfl) (fun _ _ => rfl) (fun _ _ => rfl) (fun _ _ => rfl) (fun _ _ => rfl) (fun _ _ => rfl) (fun _ _ => ?_) (fun _ => rfl)⟩
  · have q : r - 500 ≠ i := by omega
    have t : ∀ k, mtL X i a b c k (r - 500) = X k (r - 500) := fun k => by
      show su (su (su X 47 i a) 48 i b) 49 i c k (r - 500) = _
      rw [su_j q, su_j q, su_j q]
    unfold cB5 cLst aM
    rw [t, t, t]
    rfl
  · have q : r - 600 ≠ i := by omega
    have t : ∀ k, mtL X i a b c k (r - 600) = X k (r - 600) := fun k => by
      show su (su (su X 47 i a) 48 i b) 49 i c k (r - 600) = _
      rw [su_j q, su_j q, su_j q]
    unfold cB6
    rw [t, t]
    rfl
  · have q : r - 600 ≠ i := by omega
    show (su (su (su X 47 i a) 48 i b) 49 i c 49 (r - 600)).toNat = _
    rw [su_j q]
    rfl
theorem mt_o0 (X : Sg) (a b : Int) (c : Nat) : CE g (mt X 0 a b (c : Int)) 7 = some (cLst a c (X 2 0)) ∧ CE g (mt X 0 a b (c : Int)) 8 = cAr b (X 2 0) (aC X) ∧ ad g (mt X 0 a b (c : Int)) 8 = c ∧ ad g (mt X 0 a b (c : Int)) 7 = g 7 := ⟨rfl, rfl, rfl, rfl⟩
theorem mt_o1 (X : Sg) (a b : Int) (c : Nat) : CE g (mt X 1 a b (c : Int)) 9 = some (cLst a c (X 16 0)) ∧ CE g (mt X 1 a b (c : Int)) 10 = cAr b (X 16 0) (aI X) ∧ ad g (mt X 1 a b (c : Int)) 10 = c ∧ ad g (mt X 1 a b (c : Int)) 9 = g 9 := ⟨rfl, rfl, rfl, rfl⟩
theorem mt_o2 (X : Sg) (a b : Int) (c : Nat) : CE g (mt X 2 a b (c : Int)) 11 = some (cLst a c (X 24 0)) ∧ CE g (mt X 2 a b (c : Int)) 12 = cAr b (X 24 0) (aK X) ∧ ad g (mt X 2 a b (c : Int)) 12 = c ∧ ad g (mt X 2 a b (c : Int)) 11 = g 11 := ⟨rfl, rfl, rfl, rfl⟩
theorem mt_o3 (X : Sg) (a b : Int) (c : Nat) : CE g (mt X 3 a b (c : Int)) 15 = some (cLst a c (X 8 0)) ∧ CE g (mt X 3 a b (c : Int)) 16 = cAr b (X 8 0) (aE X) ∧ ad g (mt X 3 a b (c : Int)) 16 = c ∧ ad g (mt X 3 a b (c : Int)) 15 = g 15 := ⟨rfl, rfl, rfl, rfl⟩
theorem mt_o4 (X : Sg) (a b : Int) (c : Nat) : CE g (mt X 4 a b (c : Int)) 17 = some (cLst a c (X 36 0)) ∧ CE g (mt X 4 a b (c : Int)) 18 = cAr b (X 36 0) (fun j => aE X (X 35 j)) ∧ ad g (mt X 4 a b (c : Int)) 18 = c ∧ ad g (mt X 4 a b (c : Int)) 17 = g 17 := ⟨rfl, rfl, rfl, rfl⟩
/-- a new entry -/
abbrev mkE (ρ : Sg) (o s t sa : Int) : Sg := su (su (su (su (su ρ 9 (ρ 8 0) o) 10 (ρ 8 0) s) 11 (ρ 8 0) t) 12 (ρ 8 0) sa) 8 0 (ρ 8 0 + 1)
theorem mkE_u {o s t sa q : Int} (hk : ∀ c, 0 ≤ c → c < ρ 24 0 → ρ 25 c ≠ ρ 8 0) (hp : ∀ j, 0 ≤ j → j < ρ 36 0 → ρ 35 j ≠ ρ 8 0) {r : Int} (n1 : r ≠ 15) (n2 : r ≠ 16) (n3 : r ≠ 200 + ρ 8 0) : CE g (su (mkE ρ o s t sa) 44 (ρ 8 0) q) r = CE g ρ r ∧ ad g (su (mkE ρ o s t sa) 44 (ρ 8 0) q) r = ad g ρ r := by
  refine ⟨CE_ext (fun _ => ?_) (fun _ _ => rfl) (fun q1 q2 => ?_) (fun q1 q2 => ?_) (fun _ _ => rfl) (fun _ _ => rfl) (fun _ _ => rfl) (fun _ => rfl), ad_ext (fun _ => rfl) (fun _ _ => rfl) (fun _ _ => ?_) (fun _ _ => rfl) (fun _ _ => rfl) (fun _ _ => rfl) (fun _ _ => rfl) (fun _ => rfl)⟩
  · by_cases q18 : r = 18
    · subst q18
      show cAr (ρ 33 4) (ρ 36 0) (fun j => aE (su (mkE ρ o s t sa) 44 (ρ 8 0) q) (ρ 35 j)) = cAr (ρ 33 4) (ρ 36 0) (fun j => aE ρ (ρ 35 j))
      have e : cCn (ρ 36 0) (fun j => aE (su (mkE ρ o s t sa) 44 (ρ 8 0) q) (ρ 35 j)) = cCn (ρ 36 0) (fun j => aE ρ (ρ 35 j)) := by
        funext j
        unfold cCn
        by_cases z : 0 ≤ j ∧ j < ρ 36 0
        · rw [if_pos z, if_pos z]
          show vQ (some ((su ρ 44 (ρ 8 0) q 44 (ρ 35 j)).toNat)) = vQ (some ((ρ 44 (ρ 35 j)).toNat))
          rw [su_i (hp j z.1 z.2)]
        · rw [if_neg z, if_neg z]
      unfold cAr
      rw [e]
    · unfold cFix
      simp only [if_neg n1, if_neg n2, if_neg q18]
      rfl
  · have z : r - 200 ≠ ρ 8 0 := by omega
    show (if r - 200 < ρ 8 0 + 1 then some (eO 7 [vI (r - 200), vR (aC ρ (su ρ 9 (ρ 8 0) o 9 (r - 200))), vI (su ρ 10 (ρ 8 0) s 10 (r - 200)), vI (su ρ 11 (ρ 8 0) t 11 (r - 200)), vI (su ρ 12 (ρ 8 0) sa 12 (r - 200)), vI (ρ 13 (r - 200))]) else none) = cB2 ρ r
    rw [su_i z, su_i z, su_i z, su_i z]
    unfold cB2
    by_cases w : r - 200 < ρ 8 0
    · rw [if_pos w, if_pos (by omega)]
    · rw [if_neg w, if_neg (by omega)]
  · show (if r - 300 < ρ 24 0 then some (eO 6 [vR ((su ρ 44 (ρ 8 0) q 44 (ρ 25 (r - 300))).toNat), vI (ρ 26 (r - 300)), vI (ρ 27 (r - 300))]) else none) = cB3 ρ r
    unfold cB3
    by_cases w : r - 300 < ρ 24 0
    · rw [if_pos w, if_pos w, su_i (hk _ (by omega) w)]
    · rw [if_neg w, if_neg w]
  · have z : r - 200 ≠ ρ 8 0 := by omega
    show (su ρ 44 (ρ 8 0) q 44 (r - 200)).toNat = _
    rw [su_i z]
/-- a new client -/
abbrev mkC (ρ : Sg) (u mo le ra : Int) : Sg := su (su (su (su (su ρ 3 (ρ 2 0) u) 4 (ρ 2 0) mo) 5 (ρ 2 0) le) 6 (ρ 2 0) ra) 2 0 (ρ 2 0 + 1)
theorem mkC_u {u mo le ra q : Int} (hk : ∀ c, 0 ≤ c → c < ρ 8 0 → ρ 9 c ≠ ρ 2 0) (hp : ∀ j, 0 ≤ j → j < ρ 39 0 → ρ 18 j ≠ ρ 2 0) {r : Int} (n1 : r ≠ 7) (n2 : r ≠ 8) (n3 : r ≠ 100 + ρ 2 0) : CE g (su (mkC ρ u mo le ra) 45 (ρ 2 0) q) r = CE g ρ r ∧ ad g (su (mkC ρ u mo le ra) 45 (ρ 2 0) q) r = ad g ρ r := by
  refine ⟨CE_ext (fun _ => ?_) (fun q1 q2 => ?_) (fun q1 q2 => ?_) (fun _ _ => rfl) (fun q1 q2 => ?_) (fun _ _ => rfl) (fun _ _ => rfl) (fun _ => rfl), ad_ext (fun _ => rfl) (fun _ _ => ?_) (fun _ _ => rfl) (fun _ _ => rfl) (fun _ _ => rfl) (fun _ _ => rfl) (fun _ _ => rfl) (fun _ => rfl)⟩
  · unfold cFix
    simp only [if_neg n1, if_neg n2]
    rfl
  · have z : r - 100 ≠ ρ 2 0 := by omega
    show (if r - 100 < ρ 2 0 + 1 then some (eO 5 [vI (r - 100), vI (su ρ 3 (ρ 2 0) u 3 (r - 100)), vI (su ρ 4 (ρ 2 0) mo 4 (r - 100)), vI (su ρ 5 (ρ 2 0) le 5 (r - 100)), vI (su ρ 6 (ρ 2 0) ra 6 (r - 100)), vI (ρ 7 (r - 100))]) else none) = cB1 ρ r
    rw [su_i z, su_i z, su_i z, su_i z]
    unfold cB1
    by_cases w : r - 100 < ρ 2 0
    · rw [if_pos w, if_pos (by omega)]
    · rw [if_neg w, if_neg (by omega)]
  · show (if r - 200 < ρ 8 0 then some (eO 7 [vI (r - 200), vR ((su ρ 45 (ρ 2 0) q 45 (ρ 9 (r - 200))).toNat), vI (ρ 10 (r - 200)), vI (ρ 11 (r - 200)), vI (ρ 12 (r - 200)), vI (ρ 13 (r - 200))]) else none) = cB2 ρ r
    unfold cB2
    by_cases w : r - 200 < ρ 8 0
    · rw [if_pos w, if_pos w, su_i (hk _ (by omega) w)]
    · rw [if_neg w, if_neg w]
  · show (if r - 400 < ρ 39 0 then some (eO 8 [vR ((su ρ 45 (ρ 2 0) q 45 (ρ 18 (r - 400))).toNat), vR (aL ρ (r - 400)), vI (ρ 31 (r - 400)), vF (fb (ρ 23 (r - 400)))]) else none) = cB4 ρ r
    unfold cB4
    by_cases w : r - 400 < ρ 39 0
    · rw [if_pos w, if_pos w, su_i (hp _ (by omega) w)]
    · rw [if_neg w, if_neg w]
  · have z : r - 100 ≠ ρ 2 0 := by omega
    show (su ρ 45 (ρ 2 0) q 45 (r - 100)).toNat = _
    rw [su_i z]
/-- a new correction -/
abbrev mkK (ρ : Sg) (en mi : Int) : Sg := su (su (su ρ 25 (ρ 24 0) en) 26 (ρ 24 0) mi) 24 0 (ρ 24 0 + 1)
theorem mkK_u {en mi q : Int} {r : Int} (n1 : r ≠ 11) (n2 : r ≠ 12) (n3 : r ≠ 300 + ρ 24 0) : CE g (su (mkK ρ en mi) 46 (ρ 24 0) q) r = CE g ρ r ∧ ad g (su (mkK ρ en mi) 46 (ρ 24 0) q) r = ad g ρ r := by
  refine ⟨CE_ext (fun _ => ?_) (fun _ _ => rfl) (fun _ _ => rfl) (fun q1 q2 => ?_) (fun _ _ => rfl) (fun _ _ => rfl) (fun _ _ => rfl) (fun _ => rfl), ad_ext (fun _ => rfl) (fun _ _ => rfl) (fun _ _ => rfl) (fun _ _ => ?_) (fun _ _ => rfl) (fun _ _ => rfl) (fun _ _ => rfl) (fun _ => rfl)⟩
  · unfold cFix
    simp only [if_neg n1, if_neg n2]
    rfl
  · have z : r - 300 ≠ ρ 24 0 := by omega
    show (if r - 300 < ρ 24 0 + 1 then some (eO 6 [vR (aE ρ (su ρ 25 (ρ 24 0) en 25 (r - 300))), vI (su ρ 26 (ρ 24 0) mi 26 (r - 300)), vI (ρ 27 (r - 300))]) else none) = cB3 ρ r
    rw [su_i z, su_i z]
    unfold cB3
    by_cases w : r - 300 < ρ 24 0
    · rw [if_pos w, if_pos (by omega)]
    · rw [if_neg w, if_neg (by omega)]
  · have z : r - 300 ≠ ρ 24 0 := by omega
    show (su ρ 46 (ρ 24 0) q 46 (r - 300)).toNat = _
    rw [su_i z]
/-- a new line of invoice i -/
abbrev mkN (ρ : Sg) (i kd mi sb fa : Int) : Sg := su (su (su (su (su ρ 19 (40 * i + ρ 17 i) kd) 21 (40 * i + ρ 17 i) sb) 20 (40 * i + ρ 17 i) mi) 22 (40 * i + ρ 17 i) fa) 17 i (ρ 17 i + 1)
theorem mkN_u {i kd mi sb fa q : Int} (hi : 0 ≤ i ∧ i < 8) (hq : 0 ≤ ρ 17 i ∧ ρ 17 i < 40) {r : Int} (n1 : r ≠ 500 + i) (n2 : r ≠ 600 + i) (n3 : r ≠ 1000 + (40 * i + ρ 17 i)) (hL : ∀ x, 0 ≤ x → x < ρ 39 0 → ρ 17 x ≤ 40) : CE g (su (mkN ρ i kd mi sb fa) 41 (40 * i + ρ 17 i) q) r = CE g ρ r ∧ (CE g ρ r ≠ none → ad g (su (mkN ρ i kd mi sb fa) 41 (40 * i + ρ 17 i) q) r = ad g ρ r) := by
  refine ⟨CE_ext (fun _ => rfl) (fun _ _ => rfl) (fun _ _ => rfl) (fun _ _ => rfl) (fun _ _ => rfl) (fun q1 q2 => ?_) (fun q1 q2 => ?_) (fun q1 => ?_), fun hne => ad_ext (fun _ => rfl) (fun _ _ => rfl) (fun _ _ => rfl) (fun _ _ => rfl) (fun _ _ => rfl) (fun _ _ => rfl) (fun _ _ => rfl) (fun q1 => ?_)⟩
  · have z : r - 500 ≠ i := by omega
    show (if r - 500 < ρ 39 0 then some (cLst (ρ 47 (r - 500)) (aM ρ (r - 500)) (su ρ 17 i (ρ 17 i + 1) 17 (r - 500))) else none) = cB5 ρ r
    rw [su_i z]
    rfl
  · have z : r - 600 ≠ i := by omega
    show (if r - 600 < ρ 39 0 then cAr (ρ 48 (r - 600)) (su ρ 17 i (ρ 17 i + 1) 17 (r - 600)) (fun j => (su ρ 41 (40 * i + ρ 17 i) q 41 (40 * (r - 600) + j)).toNat) else none) = cB6 ρ r
    rw [su_i z]
    unfold cB6
    by_cases w : r - 600 < ρ 39 0
    · rw [if_pos w, if_pos w]
      have hl := hL (r - 600) (by omega) w
      have e : cCn (ρ 17 (r - 600)) (fun j => (su ρ 41 (40 * i + ρ 17 i) q 41 (40 * (r - 600) + j)).toNat) = cCn (ρ 17 (r - 600)) (fun j => aN ρ (40 * (r - 600) + j)) := by
        funext j
        unfold cCn
        by_cases z2 : 0 ≤ j ∧ j < ρ 17 (r - 600)
        · rw [if_pos z2, if_pos z2]
          show vQ (some ((su ρ 41 (40 * i + ρ 17 i) q 41 (40 * (r - 600) + j)).toNat)) = vQ (some ((ρ 41 (40 * (r - 600) + j)).toNat))
          rw [su_i (show 40 * (r - 600) + j ≠ 40 * i + ρ 17 i by omega)]
        · rw [if_neg z2, if_neg z2]
      unfold cAr
      rw [e]
    · rw [if_neg w, if_neg w]
  · have z : r - 1000 ≠ 40 * i + ρ 17 i := by omega
    show (if (1000 ≤ r ∧ r < 1320) ∧ ((r - 1000) / 40 < ρ 39 0 ∧ (r - 1000) % 40 < su ρ 17 i (ρ 17 i + 1) 17 ((r - 1000) / 40)) then some (eO 9 [vI (su ρ 19 (40 * i + ρ 17 i) kd 19 (r - 1000)), vI (su ρ 20 (40 * i + ρ 17 i) mi 20 (r - 1000)), vI (su ρ 21 (40 * i + ρ 17 i) sb 21 (r - 1000)), vF (fb (su ρ 22 (40 * i + ρ 17 i) fa 22 (r - 1000)))]) else none) = cB7 ρ r
    rw [su_i z, su_i z, su_i z, su_i z]
    unfold cB7
    by_cases y : (r - 1000) / 40 = i
    · rw [y, su_e]
      by_cases w : (1000 ≤ r ∧ r < 1320) ∧ (i < ρ 39 0 ∧ (r - 1000) % 40 < ρ 17 i)
      · rw [if_pos w, if_pos ⟨w.1, w.2.1, by omega⟩]
      · rw [if_neg w, if_neg (by omega)]
    · rw [su_i y]
  · have z : r - 1000 ≠ 40 * i + ρ 17 i := by
      intro z
      omega
    show (su ρ 41 (40 * i + ρ 17 i) q 41 (r - 1000)).toNat = _
    rw [su_i z]

end CO
