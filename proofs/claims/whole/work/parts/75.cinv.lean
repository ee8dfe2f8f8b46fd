/-! AN INVOICE UNDER CONSTRUCTION -/
theorem CI.sub {G : GG} {g : Int → Nat} {ρ ρ' : Sg} {h : Hp} (H : CI G g ρ' h) (hC : ∀ r, CE g ρ r ≠ none → CE g ρ' r = CE g ρ r ∧ ad g ρ' r = ad g ρ r) (hK : KLs G g ρ) : CI G g ρ h := by
  refine ⟨fun r x hx => ?_, fun r1 r2 h1 h2 e => ?_, hK⟩
  · obtain ⟨c1, c2⟩ := hC r (by rw [hx]; exact fun w => by cases w)
    rw [← c2]
    exact H.1 r x (c1.trans hx)
  · obtain ⟨a1, a2⟩ := hC r1 h1
    obtain ⟨b1, b2⟩ := hC r2 h2
    exact H.2.1 r1 r2 (by rw [a1]; exact h1) (by rw [b1]; exact h2) (by rw [a2, b2]; exact e)
/-- the sum of the lines' minutes -/
def lSum (L : List Ln) : Int := L.foldl (fun t x => t + x.2.2) 0
theorem lSum_push (L : List Ln) (x : Ln) : lSum (L ++ [x]) = lSum L + x.2.2 := by
  unfold lSum
  rw [List.foldl_append]
  rfl
def iB (k : Nat) : Bool := k == 17 || k == 18 || (19 ≤ k && k ≤ 23) || k == 31 || k == 39 || k == 41 || k == 42 || k == 43 || k == 47 || k == 48 || k == 49
/-- ρ1 is ρ with one more invoice, for c, of the lines L -/
def IR (ρ : Sg) (c : Int) (L : List Ln) (ρ1 : Sg) : Prop :=
  (∀ k, iB k = false → ρ1 k = ρ k) ∧ ρ1 39 = (fun j => if j = 0 then ρ 16 0 + 1 else ρ 39 j) ∧ ρ1 18 = (fun j => if j = ρ 16 0 then c else ρ 18 j) ∧ ρ1 17 = u17 ρ L ∧ (ρ1 19 = u19 ρ L ∧ ρ1 21 = u21 ρ L ∧ ρ1 20 = u20 ρ L ∧ ρ1 22 = u22 ρ (ρ 6 c) L ∧ ρ1 23 = u23 ρ (ρ 6 c) L) ∧ ρ1 31 = (fun j => if j = ρ 16 0 then lSum L else ρ 31 j) ∧
  (∀ j, j < 40 * ρ 16 0 → ρ1 41 j = ρ 41 j) ∧ ∀ j, j ≠ ρ 16 0 → ρ1 42 j = ρ 42 j ∧ ρ1 43 j = ρ 43 j ∧ ρ1 47 j = ρ 47 j ∧ ρ1 48 j = ρ 48 j ∧ ρ1 49 j = ρ 49 j
theorem lnF_lt {f : Int → Int} {b : Int} {L : List Int} {j : Int} (h : j < b) : lnF f b L j = f j := by
  unfold lnF
  rw [if_neg (by omega)]
theorem IR.sub {G : GG} {g : Int → Nat} {ρ ρ1 : Sg} {h : Hp} {c : Int} {L : List Ln} (R : IR ρ c L ρ1) (H : CI G g ρ1 h) (h39 : ρ 39 0 = ρ 16 0) (hL : ∀ i, 0 ≤ i → i < ρ 39 0 → ρ 17 i ≤ 40) : CI G g ρ h := by
  obtain ⟨r0, r39, r18, r17, ⟨r19, r21, r20, r22, r23⟩, r31, r41, rr⟩ := R
  have r39 : ρ1 39 0 = ρ 16 0 + 1 := by rw [r39]; exact if_pos rfl
  have e1 : ρ1 1 = ρ 1 := r0 1 rfl
  have lt : ∀ i, i < ρ 39 0 → ρ1 17 i = ρ 17 i ∧ ρ1 18 i = ρ 18 i ∧ ρ1 23 i = ρ 23 i ∧ ρ1 31 i = ρ 31 i := fun i hi => by
    rw [r17, r18, r23, r31]
    unfold u17 u23
    refine ⟨if_neg (by omega), if_neg (by omega), if_neg (by omega), if_neg (by omega)⟩
  have ll : ∀ j, j < 40 * ρ 39 0 → ρ1 19 j = ρ 19 j ∧ ρ1 20 j = ρ 20 j ∧ ρ1 21 j = ρ 21 j ∧ ρ1 22 j = ρ 22 j ∧ ρ1 41 j = ρ 41 j := fun j hj => by
    rw [r19, r20, r21, r22]
    unfold u19 u20 u21 u22
    exact ⟨lnF_lt (by omega), lnF_lt (by omega), lnF_lt (by omega), lnF_lt (by omega), r41 j (by omega)⟩
  have fx : cFix g ρ1 = cFix g ρ := by
    funext r
    have a42 : ∀ n j, (0 ≤ j ∧ j < n) → n = ρ 16 0 → (ρ1 42 j).toNat = (ρ 42 j).toNat := fun n j hj hn => by rw [(rr j (by omega)).1]
    have c10 : cAr (ρ1 33 1) (ρ1 16 0) (fun j => (ρ1 42 j).toNat) = cAr (ρ 33 1) (ρ 16 0) (fun j => (ρ 42 j).toNat) := by
      rw [r0 33 rfl, r0 16 rfl]
      have e : cCn (ρ 16 0) (fun j => (ρ1 42 j).toNat) = cCn (ρ 16 0) (fun j => (ρ 42 j).toNat) := by
        funext j
        unfold cCn
        by_cases z : 0 ≤ j ∧ j < ρ 16 0
        · rw [if_pos z, if_pos z]
          show vQ (some ((ρ1 42 j).toNat)) = vQ (some ((ρ 42 j).toNat))
          rw [a42 _ j z rfl]
        · rw [if_neg z, if_neg z]
      unfold cAr
      rw [e]
    by_cases q10 : r = 10
    · subst q10
      exact c10
    unfold cFix aC aI aK aE aA
    simp only [if_neg q10, r0 0 rfl, r0 1 rfl, r0 2 rfl, r0 8 rfl, r0 14 rfl, r0 15 rfl, r0 16 rfl, r0 24 rfl, r0 28 rfl, r0 29 rfl, r0 32 rfl, r0 33 rfl, r0 34 rfl, r0 35 rfl, r0 36 rfl, r0 37 rfl, r0 38 rfl, r0 40 rfl, r0 44 rfl, r0 45 rfl, r0 46 rfl]
  have b1 : cB1 ρ1 = cB1 ρ := by
    funext r
    unfold cB1 cCl
    rw [r0 2 rfl, r0 3 rfl, r0 4 rfl, r0 5 rfl, r0 6 rfl, r0 7 rfl]
  have b2 : cB2 ρ1 = cB2 ρ := by
    funext r
    unfold cB2 cEn aC
    rw [r0 8 rfl, r0 9 rfl, r0 10 rfl, r0 11 rfl, r0 12 rfl, r0 13 rfl, r0 45 rfl]
  have b3 : cB3 ρ1 = cB3 ρ := by
    funext r
    unfold cB3 cCo aE
    rw [r0 24 rfl, r0 25 rfl, r0 26 rfl, r0 27 rfl, r0 44 rfl]
  refine H.sub (fun r hr => ?_) ?_
  · by_cases q0 : r < 100
    · refine ⟨?_, ?_⟩
      · rw [CE_lt q0, CE_lt q0, fx]
      · unfold ad aA
        rw [if_pos q0, if_pos q0, r0 40 rfl]
    by_cases q4 : r < 400
    · refine ⟨CE_ext (fun q => absurd q q0) (fun _ _ => by rw [b1]) (fun _ _ => by rw [b2]) (fun _ _ => by rw [b3]) (fun q _ => by omega) (fun q _ => by omega) (fun q _ => by omega) (fun q => by omega), ad_ext (fun q => absurd q q0) (fun _ _ => ?_) (fun _ _ => ?_) (fun _ _ => ?_) (fun q _ => by omega) (fun q _ => by omega) (fun q _ => by omega) (fun q => by omega)⟩
      · show (ρ1 45 _).toNat = _; rw [r0 45 rfl]
      · show (ρ1 44 _).toNat = _; rw [r0 44 rfl]
      · show (ρ1 46 _).toNat = _; rw [r0 46 rfl]
    by_cases q5 : r < 500
    · obtain ⟨i, rfl⟩ : ∃ i, r = 400 + i := ⟨r - 400, by omega⟩
      have c0 := ce_i (g := g) (ρ := ρ) (i := i) (by omega) (by omega)
      have c1 := ce_i (g := g) (ρ := ρ1) (i := i) (by omega) (by omega)
      rw [c0.1] at hr
      by_cases z : i < ρ 39 0
      · obtain ⟨l1, l2, l3, l4⟩ := lt i z
        obtain ⟨m1, m2, m3, m4, m5⟩ := rr i (by omega)
        refine ⟨?_, ?_⟩
        · rw [c0.1, c1.1, if_pos z, if_pos (by omega)]
          unfold cIn aC aL
          rw [l2, l3, l4, m2, r0 45 rfl]
        · rw [c0.2, c1.2]
          show (ρ1 42 i).toNat = _
          rw [m1]
      · rw [if_neg z] at hr; exact absurd rfl hr
    by_cases q6 : r < 600
    · obtain ⟨i, rfl⟩ : ∃ i, r = 500 + i := ⟨r - 500, by omega⟩
      have c0 := ce_l (g := g) (ρ := ρ) (i := i) (by omega) (by omega)
      have c1 := ce_l (g := g) (ρ := ρ1) (i := i) (by omega) (by omega)
      rw [c0.1] at hr
      by_cases z : i < ρ 39 0
      · obtain ⟨l1, l2, l3, l4⟩ := lt i z
        obtain ⟨m1, m2, m3, m4, m5⟩ := rr i (by omega)
        refine ⟨?_, ?_⟩
        · rw [c0.1, c1.1, if_pos z, if_pos (by omega)]
          unfold aM
          rw [l1, m3, m5]
        · rw [c0.2, c1.2]
          show (ρ1 43 i).toNat = _
          rw [m2]
      · rw [if_neg z] at hr; exact absurd rfl hr
    by_cases q7 : r < 700
    · obtain ⟨i, rfl⟩ : ∃ i, r = 600 + i := ⟨r - 600, by omega⟩
      have c0 := ce_a (g := g) (ρ := ρ) (i := i) (by omega) (by omega)
      have c1 := ce_a (g := g) (ρ := ρ1) (i := i) (by omega) (by omega)
      rw [c0.1] at hr
      by_cases z : i < ρ 39 0
      · obtain ⟨l1, l2, l3, l4⟩ := lt i z
        obtain ⟨m1, m2, m3, m4, m5⟩ := rr i (by omega)
        refine ⟨?_, ?_⟩
        · rw [c0.1, c1.1, if_pos z, if_pos (by omega), l1, m4]
          have hk := hL i (by omega) z
          have e : cCn (ρ 17 i) (fun j => aN ρ1 (40 * i + j)) = cCn (ρ 17 i) (fun j => aN ρ (40 * i + j)) := by
            funext j
            unfold cCn
            by_cases y : 0 ≤ j ∧ j < ρ 17 i
            · rw [if_pos y, if_pos y]
              unfold aN
              show vQ (some ((ρ1 41 (40 * i + j)).toNat)) = vQ (some ((ρ 41 (40 * i + j)).toNat))
              rw [(ll _ (show 40 * i + j < 40 * ρ 39 0 by omega)).2.2.2.2]
            · rw [if_neg y, if_neg y]
          unfold cAr
          rw [e]
        · rw [c0.2, c1.2]
          show (ρ1 49 i).toNat = _
          rw [m5]
      · rw [if_neg z] at hr; exact absurd rfl hr
    · have c0 : CE g ρ r = cB7 ρ r := by
        unfold CE
        rw [if_neg q0, if_neg (by omega), if_neg (by omega), if_neg q4, if_neg q5, if_neg q6, if_neg q7]
      have c1 : CE g ρ1 r = cB7 ρ1 r := by
        unfold CE
        rw [if_neg q0, if_neg (by omega), if_neg (by omega), if_neg q4, if_neg q5, if_neg q6, if_neg q7]
      rw [c0] at hr
      unfold cB7 at hr
      by_cases z : (1000 ≤ r ∧ r < 1320) ∧ ((r - 1000) / 40 < ρ 39 0 ∧ (r - 1000) % 40 < ρ 17 ((r - 1000) / 40))
      · obtain ⟨l1, l2, l3, l4⟩ := lt ((r - 1000) / 40) z.2.1
        obtain ⟨m1, m2, m3, m4, m5⟩ := ll (r - 1000) (by omega)
        refine ⟨?_, ?_⟩
        · rw [c0, c1]
          unfold cB7 cLi
          rw [if_pos z, l1, if_pos ⟨z.1, by omega, z.2.2⟩, m1, m2, m3, m4]
        · unfold ad
          rw [if_neg q0, if_neg (by omega), if_neg (by omega), if_neg q4, if_neg q5, if_neg q6, if_neg q7, if_neg q0, if_neg (by omega), if_neg (by omega), if_neg q4, if_neg q5, if_neg q6, if_neg q7]
          show (ρ1 41 _).toNat = _
          rw [m5]
      · rw [if_neg z] at hr; exact absurd rfl hr
  · have K := H.2.2
    unfold KLs aA at *
    rw [r0 33 rfl, r0 40 rfl, r0 2 rfl, r0 16 rfl, r0 24 rfl, r0 8 rfl, r0 36 rfl, r0 35 rfl] at K
    refine ⟨K.1, K.2.1, K.2.2.1, K.2.2.2.1, K.2.2.2.2.1, fun i i0 i1 => ?_, K.2.2.2.2.2.2⟩
    have k := K.2.2.2.2.2.1 i i0 (by omega)
    obtain ⟨m1, m2, m3, m4, m5⟩ := rr i (by omega)
    unfold aM at *
    rw [m4, m5, (lt i i1).1] at k
    exact k
/-- a new invoice of no lines -/
abbrev mkV (ρ : Sg) (c q q2 G0 : Int) : Sg := su (su (su (su (su (su (su (su ρ 18 (ρ 16 0) c) 31 (ρ 16 0) 0) 42 (ρ 16 0) q) 43 (ρ 16 0) q2) 47 (ρ 16 0) 0) 48 (ρ 16 0) 0) 49 (ρ 16 0) G0) 39 0 (ρ 16 0 + 1)
theorem mkV_R {ρ : Sg} {c q q2 G0 : Int} (h17 : ρ 17 (ρ 16 0) = 0) (h23 : ρ 23 (ρ 16 0) = 0) : IR ρ c [] (mkV ρ c q q2 G0) := by
  refine ⟨fun k hk => ?_, rfl, rfl, ?_, ⟨(lnF_nil _ _).symm, (lnF_nil _ _).symm, (lnF_nil _ _).symm, (lnF_nil _ _).symm, ?_⟩, rfl, fun _ _ => rfl, fun j hj => ?_⟩
  · have ne : ∀ q, iB q = true → k ≠ q := fun q hq z => by rw [z, hq] at hk; cases hk
    funext j
    show su (su (su (su (su (su (su (su ρ 18 _ _) 31 _ _) 42 _ _) 43 _ _) 47 _ _) 48 _ _) 49 _ _) 39 _ _ k j = _
    rw [su_n (ne 39 rfl), su_n (ne 49 rfl), su_n (ne 48 rfl), su_n (ne 47 rfl), su_n (ne 43 rfl), su_n (ne 42 rfl), su_n (ne 31 rfl), su_n (ne 18 rfl)]
  · funext j
    show ρ 17 j = u17 ρ [] j
    unfold u17
    by_cases z : j = ρ 16 0
    · rw [if_pos z, z, h17]; rfl
    · rw [if_neg z]
  · funext j
    show ρ 23 j = u23 ρ (ρ 6 c) [] j
    unfold u23
    by_cases z : j = ρ 16 0
    · rw [if_pos z, z, h23]; exact (by decide : (0 : Int) = fi (0 : UInt32))
    · rw [if_neg z]
  · refine ⟨?_, ?_, ?_, ?_, ?_⟩
    · show su ρ 42 (ρ 16 0) q 42 j = _; exact su_i hj
    · show su ρ 43 (ρ 16 0) q2 43 j = _; exact su_i hj
    · show su ρ 47 (ρ 16 0) 0 47 j = _; exact su_i hj
    · show su ρ 48 (ρ 16 0) 0 48 j = _; exact su_i hj
    · show su ρ 49 (ρ 16 0) G0 49 j = _; exact su_i hj
theorem CI.newInv {G : GG} {g : Int → Nat} {ρ : Sg} {h : Hp} {c : Int} {q q2 : Nat} (H : CI G g ρ h) (h39 : ρ 39 0 = ρ 16 0) (h16 : 0 ≤ ρ 16 0 ∧ ρ 16 0 < 8) (h17 : ρ 17 (ρ 16 0) = 0) (h23 : ρ 23 (ρ 16 0) = 0) (hq : h q = none) (hq2 : h q2 = none) (hne : q2 ≠ q) : CI G g (mkV ρ c (q : Int) (q2 : Int) (G.2.2 0 : Int)) (hu (hu h q2 (eO 4 [vI 0, vR (G.2.2 0), vI 0])) q (eO 8 [vR (aC ρ c), vR q2, vI 0, vF 0])) := by
  obtain ⟨X, hX⟩ : ∃ z, z = mkV ρ c (q : Int) (q2 : Int) (G.2.2 0 : Int) := ⟨_, rfl⟩
  have x39 : X 39 0 = ρ 16 0 + 1 := by rw [hX]; rfl
  have t : ∀ k j, j ≠ ρ 16 0 → k ≠ 39 → X k j = ρ k j := fun k j hj hk => by
    rw [hX]
    show su (su (su (su (su (su (su (su ρ 18 _ _) 31 _ _) 42 _ _) 43 _ _) 47 _ _) 48 _ _) 49 _ _) 39 _ _ k j = _
    rw [su_n hk, su_j hj, su_j hj, su_j hj, su_j hj, su_j hj, su_j hj, su_j hj]
  have c4 := ce_i (g := g) (ρ := X) (i := ρ 16 0) (by omega) (by omega)
  have c5 := ce_l (g := g) (ρ := X) (i := ρ 16 0) (by omega) (by omega)
  have c6 := ce_a (g := g) (ρ := X) (i := ρ 16 0) (by omega) (by omega)
  rw [x39, if_pos (by omega)] at c4 c5 c6
  have e42 : aI X (ρ 16 0) = q := by rw [hX]; show (su _ 42 (ρ 16 0) (q : Int) 42 (ρ 16 0)).toNat = q; rw [su_e]; rfl
  have e43 : aL X (ρ 16 0) = q2 := by rw [hX]; show (su _ 43 (ρ 16 0) (q2 : Int) 43 (ρ 16 0)).toNat = q2; rw [su_e]; rfl
  have e49 : aM X (ρ 16 0) = G.2.2 0 := by rw [hX]; show (su _ 49 (ρ 16 0) (G.2.2 0 : Int) 49 (ρ 16 0)).toNat = _; rw [su_e]; rfl
  have e47 : X 47 (ρ 16 0) = 0 := by rw [hX]; show su _ 47 (ρ 16 0) 0 47 (ρ 16 0) = 0; exact su_e
  have e48 : X 48 (ρ 16 0) = 0 := by rw [hX]; show su _ 48 (ρ 16 0) 0 48 (ρ 16 0) = 0; exact su_e
  have e17 : X 17 (ρ 16 0) = 0 := by rw [hX]; exact h17
  have e4 : cIn X (ρ 16 0) = eO 8 [vR (aC ρ c), vR q2, vI 0, vF 0] := by
    unfold cIn
    rw [e43]
    have a18 : X 18 (ρ 16 0) = c := by rw [hX]; show su ρ 18 (ρ 16 0) c 18 (ρ 16 0) = c; exact su_e
    have a31 : X 31 (ρ 16 0) = 0 := by rw [hX]; show su _ 31 (ρ 16 0) 0 31 (ρ 16 0) = 0; exact su_e
    have a23 : X 23 (ρ 16 0) = 0 := by rw [hX]; exact h23
    have a45 : X 45 = ρ 45 := by rw [hX]; rfl
    unfold aC
    rw [a18, a31, a23, a45]
    rfl
  rw [e4, e42] at c4
  rw [e47, e49, e17, e43] at c5
  rw [e48, e17, e49] at c6
  rw [← hX]
  refine H.upd (fun r => r = 400 + ρ 16 0 ∨ r = 500 + ρ 16 0 ∨ r = 600 + ρ 16 0) (fun r hr => ?_) (fun r x hr hx => ?_) (fun r hr hx => ?_) ?_
  · have n4 : r ≠ 400 + ρ 16 0 := fun z => hr (Or.inl z)
    have n5 : r ≠ 500 + ρ 16 0 := fun z => hr (Or.inr (Or.inl z))
    have n6 : r ≠ 600 + ρ 16 0 := fun z => hr (Or.inr (Or.inr z))
    have u1 : CE g X r = CE g ρ r := by
      refine CE_ext (fun _ => ?_) (fun _ _ => ?_) (fun _ _ => ?_) (fun _ _ => ?_) (fun q1 q2 => ?_) (fun q1 q2 => ?_) (fun q1 q2 => ?_) (fun q1 => ?_)
      · have c10 : cAr (X 33 1) (X 16 0) (aI X) = cAr (ρ 33 1) (ρ 16 0) (aI ρ) := by
          have x33 : X 33 1 = ρ 33 1 := by rw [hX]; rfl
          have x16 : X 16 0 = ρ 16 0 := by rw [hX]; rfl
          rw [x33, x16]
          have e : cCn (ρ 16 0) (aI X) = cCn (ρ 16 0) (aI ρ) := by
            funext j
            unfold cCn
            by_cases z : 0 ≤ j ∧ j < ρ 16 0
            · rw [if_pos z, if_pos z]
              unfold aI
              rw [t 42 j (by omega) (by decide)]
            · rw [if_neg z, if_neg z]
          unfold cAr
          rw [e]
        unfold cFix
        by_cases q10 : r = 10
        · subst q10
          exact c10
        · simp only [if_neg q10]
          rw [hX]
          rfl
      · rw [hX]; rfl
      · rw [hX]; rfl
      · rw [hX]; rfl
      · have z : r - 400 ≠ ρ 16 0 := by omega
        unfold cB4 cIn aC aL
        have a45 : X 45 = ρ 45 := by rw [hX]; rfl
        rw [t 18 _ z (by decide), t 43 _ z (by decide), t 31 _ z (by decide), t 23 _ z (by decide), x39, a45]
        by_cases w : r - 400 < ρ 39 0
        · rw [if_pos w, if_pos (by omega)]
        · rw [if_neg w, if_neg (by omega)]
      · have z : r - 500 ≠ ρ 16 0 := by omega
        unfold cB5 aM
        rw [t 47 _ z (by decide), t 49 _ z (by decide), t 17 _ z (by decide), x39]
        by_cases w : r - 500 < ρ 39 0
        · rw [if_pos w, if_pos (by omega)]
        · rw [if_neg w, if_neg (by omega)]
      · have z : r - 600 ≠ ρ 16 0 := by omega
        unfold cB6
        have a41 : X 41 = ρ 41 := by rw [hX]; rfl
        unfold aN
        rw [t 48 _ z (by decide), t 17 _ z (by decide), x39, a41]
        by_cases w : r - 600 < ρ 39 0
        · rw [if_pos w, if_pos (by omega)]
        · rw [if_neg w, if_neg (by omega)]
      · unfold cB7
        have a17 : X 17 = ρ 17 := by rw [hX]; rfl
        have al : cLi X (r - 1000) = cLi ρ (r - 1000) := by rw [hX]; rfl
        rw [x39, a17, al]
        by_cases w : (1000 ≤ r ∧ r < 1320) ∧ ((r - 1000) / 40 < ρ 39 0 ∧ (r - 1000) % 40 < ρ 17 ((r - 1000) / 40))
        · rw [if_pos w, if_pos ⟨w.1, by omega, w.2.2⟩]
        · by_cases y : (r - 1000) / 40 = ρ 16 0
          · rw [if_neg w, if_neg (fun v => by rw [y, h17] at v; omega)]
          · rw [if_neg w, if_neg (fun v => w ⟨v.1, by omega, v.2.2⟩)]
    have u2 : ad g X r = ad g ρ r := by
      refine ad_ext (fun _ => by rw [hX]; rfl) (fun _ _ => by rw [hX]; rfl) (fun _ _ => by rw [hX]; rfl) (fun _ _ => by rw [hX]; rfl) (fun q1 q2 => ?_) (fun q1 q2 => ?_) (fun q1 q2 => ?_) (fun _ => by rw [hX]; rfl)
      · unfold aI; rw [t 42 _ (by omega) (by decide)]
      · unfold aL; rw [t 43 _ (by omega) (by decide)]
      · unfold aM; rw [t 49 _ (by omega) (by decide)]
    refine ⟨u1, fun hp => ⟨u2, ?_⟩⟩
    rw [hu_n _ _ (H.nobody hq hp), hu_n _ _ (H.nobody hq2 hp)]
  · rcases hr with rfl | rfl | rfl
    · rw [c4.1] at hx
      cases hx
      rw [c4.2]
      exact hu_s _ _ _
    · rw [c5.1] at hx
      cases hx
      rw [c5.2, hu_n _ _ hne]
      exact hu_s _ _ _
    · rw [c6.1] at hx
      unfold cAr at hx
      rw [if_neg (by decide)] at hx
      cases hx
  · have no6 : ∀ {r'}, r' = 600 + ρ 16 0 → CE g X r' ≠ none → False := fun z w => by
      rw [z, c6.1] at w
      unfold cAr at w
      rw [if_neg (by decide)] at w
      exact w rfl
    rcases hr with rfl | rfl | rfl
    · rw [c4.2]
      refine Or.inr ⟨fun r' hr' => H.nobody hq hr', fun r' hr' hx' e => ?_⟩
      rcases hr' with z | z | z
      · exact z
      · rw [z, c5.2] at e; exact absurd e hne
      · exact (no6 z hx').elim
    · rw [c5.2]
      refine Or.inr ⟨fun r' hr' => H.nobody hq2 hr', fun r' hr' hx' e => ?_⟩
      rcases hr' with z | z | z
      · rw [z, c4.2] at e; exact absurd e.symm hne
      · exact z
      · exact (no6 z hx').elim
    · exact (no6 rfl hx).elim
  · have K := H.2.2
    rw [hX]
    refine ⟨K.1, K.2.1, K.2.2.1, K.2.2.2.1, K.2.2.2.2.1, fun i i0 i1 => ?_, K.2.2.2.2.2.2⟩
    rw [← hX]
    rw [← hX, x39] at i1
    by_cases z : i = ρ 16 0
    · subst z
      rw [e48, e49, e17]
      exact ⟨by omega, fun _ => rfl⟩
    · have k := K.2.2.2.2.2.1 i i0 (by omega)
      unfold aM at *
      rw [t 48 _ z (by decide), t 49 _ z (by decide), t 17 _ z (by decide)]
      exact k
