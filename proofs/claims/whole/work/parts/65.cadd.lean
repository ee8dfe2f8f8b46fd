/-! adds to the class's lists -/
/-- two heaps that differ in places that no index reaches -/
def NQ (h h' : Hp) : Prop := ∀ a e, h' a = some e → ∃ e0, h a = some e0 ∧ (e = e0 ∨ ∃ k N f f', e0 = eA k N f ∧ e = eA k N f' ∧ ∀ j : Nat, f (j : Int) = f' (j : Int))
theorem NQ.zat {G : GG} {a : Nat} {e e0 : AE} {H : Heap} (hz : zat G a e0 H) (q : e = e0 ∨ ∃ k N f f', e0 = eA k N f ∧ e = eA k N f' ∧ ∀ j : Nat, f (j : Int) = f' (j : Int)) : zat G a e H := by
  rcases q with rfl | ⟨k, N, f, f', rfl, rfl, hj⟩
  · exact hz
  · have e : (fun j : Nat => cv (f' (j : Int))) = fun j : Nat => cv (f (j : Int)) := by funext j; rw [hj j]
    show H[a]? = some (arrV (G.2.1 k) N (fun j : Nat => cv (f' (j : Int))))
    rw [e]
    exact hz
theorem Ct.monoN {l : Launch} {G : GG} {N0 : Nat} {y : MethodName} {ws : List Cond} {rm : Room} {as : List AV} {h : Hp} {P P2 : Option AV → Hp → Prop} (H : Ct l G N0 y ws rm as h P) (hp : ∀ r h', P r h' → ∃ h2, P2 r h2 ∧ NQ h' h2) : Ct l G N0 y ws rm as h P2 := fun sz => MetFree.mono (H sz) (fun _ _ z => z) (fun _ _ _ _ _ k => k) (fun _ _ _ _ _ hq => by
  obtain ⟨⟨r, h', ho, hP, hB⟩, hL⟩ := hq
  obtain ⟨h2, hP2, hN⟩ := hp r h' hP
  obtain ⟨b1, b2, b3⟩ := hB
  refine ⟨⟨r, h2, ho, hP2, fun a ha => b1 a ?_, fun a e he => ?_, b3⟩, hL⟩
  · cases e9 : h2 a with
    | none => exact absurd e9 ha
    | some x =>
      obtain ⟨e0, q0, -⟩ := hN a x e9
      rw [q0]
      exact fun w => by cases w
  · obtain ⟨e0, q0, q1⟩ := hN a e he
    obtain ⟨w1, w2⟩ := b2 a e0 q0
    exact ⟨w1, NQ.zat w2 q1⟩)
theorem castE : ∀ r : vw_C, kCl[7]? = some r → (r.1, "java/lang/Object") ∈ castL := fun r h => by cases h; decide
theorem castC : ∀ r : vw_C, kCl[5]? = some r → (r.1, "java/lang/Object") ∈ castL := fun r h => by cases h; decide
theorem castK : ∀ r : vw_C, kCl[6]? = some r → (r.1, "java/lang/Object") ∈ castL := fun r h => by cases h; decide
theorem castI : ∀ r : vw_C, kCl[8]? = some r → (r.1, "java/lang/Object") ∈ castL := fun r h => by cases h; decide
theorem castN : ∀ r : vw_C, kCl[9]? = some r → (r.1, "java/lang/Object") ∈ castL := fun r h => by cases h; decide
/-- h with the array e1 written evenly -/
def hN (h : Hp) (e1 : Nat) (e : AE) : Hp := fun x => if x = e1 then some e else h x
theorem hN_q {h : Hp} {e1 N1 : Nat} {f f' : Int → AV} (he : h e1 = some (eA 5 N1 f)) (hj : ∀ j : Nat, f (j : Int) = f' (j : Int)) : NQ h (hN h e1 (eA 5 N1 f')) := fun a e hae => by
  unfold hN at hae
  by_cases q : a = e1
  · rw [if_pos q] at hae
    cases hae
    exact ⟨_, q ▸ he, Or.inr ⟨5, N1, f, f', rfl, rfl, hj⟩⟩
  · rw [if_neg q] at hae
    exact ⟨e, hae, Or.inl rfl⟩
theorem cAddE (l : Launch) (G : GG) (N0 : Nat) (h : Hp) (g : Int → Nat) (ρ : Sg) (b : Nat) (o s t sa : Int) (hI : CI G g ρ h) (hbn : ∀ r, CE g ρ r ≠ none → ad g ρ r ≠ b) (hb : h b = some (eO 7 [vI (ρ 8 0), vR (aC ρ o), vI s, vI t, vI sa, vI 0])) (hn9 : ρ 8 0 ≤ 40) (h13 : ρ 13 (ρ 8 0) = 0) (hk : ∀ c, 0 ≤ c → c < ρ 24 0 → ρ 25 c < ρ 8 0) : Ct l G N0 yJx4a65c_add_9ea2d (Cond.code yJx4a65c_add_9ea2d cJx4a65c_add_9ea2d 2 (some FieldType.boolean) :: LW) ({ frames := 6, cells := 1, slots := 100, locals := 360 }) [vR (g 15), vR b] h (fun r h' => r = some (vI 1) ∧ ∃ ρ', SA (mkE ρ o s t sa) ρ' ∧ CI G g ρ' h') := by
  obtain ⟨hk1, hk2⟩ := hI.2.2.2.2.2.1
  have hLI : LI G h (g 15) (aA ρ 3) (ρ 33 3).toNat (ρ 32 3) (ρ 8 0) (fun j => if 0 ≤ j ∧ j < ρ 8 0 then some (aE ρ j) else none) := by
    refine ⟨ci_15 hI, ?_, by omega, fun j hj => if_neg (by omega), ?_⟩
    · by_cases q : 0 < ρ 33 3
      · exact Or.inr ⟨cArr3 hI q, by omega⟩
      · exact Or.inl ⟨by omega, by omega, hk2 (by omega)⟩
    · intro i h0 h1 y hy
      have hy : (if 0 ≤ i ∧ i < ρ 8 0 then some (aE ρ i) else none) = some y := hy
      rw [if_pos ⟨h0, h1⟩] at hy
      cases hy
      exact ⟨7, _, ci_e hI ⟨h0, by omega, by omega⟩, castE⟩
  have hba : b ≠ g 15 := fun z => hbn 15 (fun w => by cases w) z.symm
  refine Ct.monoN (mJx4a65c_add_9ea2d l G N0 h (g 15) (aA ρ 3) (ρ 33 3).toNat b 7 _ (ρ 32 3) (ρ 8 0) _ hLI (by omega) hb castE hba) (fun r h' hq => ?_)
  obtain ⟨hr, e1, N1, f1, ⟨k1, k2, k3, k4, k5⟩, hf1, hw, hfr, hN1⟩ := hq
  have he1 : h' e1 = some (eA 5 N1 (fun j => vQ (f1 j))) := by
    rcases k2 with k2 | k2
    · omega
    · exact k2.1
  have hge : g 15 ≠ e1 := ne_tg k1 he1 rfl
  obtain ⟨X, hX⟩ : ∃ z, z = su (mkE ρ o s t sa) 44 (ρ 8 0) (b : Int) := ⟨_, rfl⟩
  refine ⟨hN h' e1 (eA 5 N1 (cCn (ρ 8 0 + 1) (aE X))), ⟨hr, mt X 3 (ρ 32 3 + 1) (N1 : Int) (e1 : Int), ?_, ?_⟩, hN_q he1 (fun j => ?_)⟩
  · rw [hX]
    exact ((((SA.refl _).su rfl _ _).su rfl _ _).su rfl _ _).su rfl _ _
  · have hXn : X 8 0 = ρ 8 0 + 1 := by rw [hX]; rfl
    have mto := mt_o3 (g := g) X (ρ 32 3 + 1) (N1 : Int) e1
    rw [hXn] at mto
    have hbe1 : b ≠ e1 := by
      rcases hw with w | w
      · rw [w.1]
        exact fun z => hbn 16 (by rw [show CE g ρ 16 = cAr (ρ 33 3) (ρ 8 0) (aE ρ) from rfl]; unfold cAr; rw [if_pos (by omega)]; exact fun w => by cases w) z.symm
      · exact fresh_ne w hb
    refine hI.list (rl := 15) (ra := 16) (rb := 200 + ρ 8 0) rfl rfl ((ce_e (by omega) (by omega)).1.trans (if_neg (by omega))) mto.1 mto.2.1 rfl mto.2.2.2 rfl mto.2.2.1 (fun r n1 n2 n3 => ?_) (fun x q1 q2 => ?_) ?_ (fun _ => if_pos rfl) (fun q => absurd q (by omega)) ?_ (fun x hx => ?_) ?_
    · have m := mt_3 (g := g) X (ρ 32 3 + 1) (N1 : Int) (e1 : Int) n1 n2
      have u := mkE_u (g := g) (ρ := ρ) (o := o) (s := s) (t := t) (sa := sa) (q := (b : Int)) (fun c c0 c1 => by have := hk c c0 c1; omega) (fun j j0 j1 => by have := hI.2.2.2.2.2.2.2.2.1 j j0 j1; omega) n1 n2 n3
      rw [← hX] at u
      exact ⟨m.1.trans u.1, fun _ => m.2.trans u.2⟩
    · unfold hN
      rw [if_neg q2]
      exact hfr x q1 q2
    · show (if g 15 = e1 then some _ else h' (g 15)) = _
      rw [if_neg hge]
      exact k1
    · rcases hw with w | w
      · exact Or.inl ⟨w.1, fun _ => by omega⟩
      · exact Or.inr w
    · rw [(ce_e (by omega) (by omega)).1, show (mt X _ _ _ _) 8 0 = ρ 8 0 + 1 from hXn, if_pos (by omega)] at hx
      cases hx
      rw [(ce_e (by omega) (by omega)).2]
      have hab : aE (mt X 3 (ρ 32 3 + 1) (N1 : Int) (e1 : Int)) (ρ 8 0) = b := by
        rw [hX]
        show (su ρ 44 (ρ 8 0) (b : Int) 44 (ρ 8 0)).toNat = b
        rw [su_e]
        rfl
      rw [hab]
      refine ⟨?_, hbn, fun _ => hbe1⟩
      unfold hN
      rw [if_neg hbe1, hfr b hba hbe1, hb, hX]
      exact congrArg some (by first | (simp [su, h13]; done) | (simp [su, h13]; rfl))
    · have K := hI.2.2
      rw [hX]
      exact ⟨K.1, K.2.1, K.2.2.1, ⟨⟨by show 0 ≤ ρ 8 0 + 1; omega, by show ρ 8 0 + 1 ≤ (N1 : Int); omega, by show (N1 : Int) ≤ 60; omega⟩, fun q => absurd (show (N1 : Int) = 0 from q) (by omega)⟩, K.2.2.2.2.1, K.2.2.2.2.2.1, fun j j0 j1 => by have := K.2.2.2.2.2.2.1 j j0 j1; show 0 ≤ ρ 35 j ∧ ρ 35 j < ρ 8 0 + 1; omega, K.2.2.2.2.2.2.2⟩
  · have hj : f1 (j : Int) = if (j : Int) = ρ 8 0 then some b else if 0 ≤ (j : Int) ∧ (j : Int) < ρ 8 0 then some (aE ρ (j : Int)) else none := hf1 (j : Int) (by omega)
    rw [hj, hX]
    unfold cCn
    by_cases q1 : (j : Int) = ρ 8 0
    · rw [if_pos q1, if_pos (by omega)]
      show vQ (some b) = vQ (some ((su ρ 44 (ρ 8 0) (b : Int) 44 (j : Int)).toNat))
      rw [q1, su_e]
      rfl
    · rw [if_neg q1]
      by_cases q2 : 0 ≤ (j : Int) ∧ (j : Int) < ρ 8 0
      · rw [if_pos q2, if_pos (by omega)]
        show vQ (some (aE ρ (j : Int))) = vQ (some ((su ρ 44 (ρ 8 0) (b : Int) 44 (j : Int)).toNat))
        rw [su_i q1]
      · rw [if_neg q2, if_neg (by omega)]
theorem cAddC (l : Launch) (G : GG) (N0 : Nat) (h : Hp) (g : Int → Nat) (ρ : Sg) (b : Nat) (u mo le ra : Int) (hI : CI G g ρ h) (hbn : ∀ r, CE g ρ r ≠ none → ad g ρ r ≠ b) (hb : h b = some (eO 5 [vI (ρ 2 0), vI u, vI mo, vI le, vI ra, vI 0])) (hn9 : ρ 2 0 ≤ 40) (h7 : ρ 7 (ρ 2 0) = 0) (hk : ∀ c, 0 ≤ c → c < ρ 8 0 → ρ 9 c < ρ 2 0) (hp : ∀ j, 0 ≤ j → j < ρ 39 0 → ρ 18 j < ρ 2 0) : Ct l G N0 yJx4a65c_add_9ea2d (Cond.code yJx4a65c_add_9ea2d cJx4a65c_add_9ea2d 2 (some FieldType.boolean) :: LW) ({ frames := 6, cells := 1, slots := 100, locals := 360 }) [vR (g 7), vR b] h (fun r h' => r = some (vI 1) ∧ ∃ ρ', SA (mkC ρ u mo le ra) ρ' ∧ CI G g ρ' h') := by
  obtain ⟨hk1, hk2⟩ := hI.2.2.1
  have hLI : LI G h (g 7) (aA ρ 0) (ρ 33 0).toNat (ρ 32 0) (ρ 2 0) (fun j => if 0 ≤ j ∧ j < ρ 2 0 then some (aC ρ j) else none) := by
    refine ⟨ci_7 hI, ?_, by omega, fun j hj => if_neg (by omega), ?_⟩
    · by_cases q : 0 < ρ 33 0
      · exact Or.inr ⟨cArr0 hI q, by omega⟩
      · exact Or.inl ⟨by omega, by omega, hk2 (by omega)⟩
    · intro i h0 h1 y hy
      have hy : (if 0 ≤ i ∧ i < ρ 2 0 then some (aC ρ i) else none) = some y := hy
      rw [if_pos ⟨h0, h1⟩] at hy
      cases hy
      exact ⟨5, _, ci_c hI ⟨h0, by omega, by omega⟩, castC⟩
  have hba : b ≠ g 7 := fun z => hbn 7 (fun w => by cases w) z.symm
  refine Ct.monoN (mJx4a65c_add_9ea2d l G N0 h (g 7) (aA ρ 0) (ρ 33 0).toNat b 5 _ (ρ 32 0) (ρ 2 0) _ hLI (by omega) hb castC hba) (fun r h' hq => ?_)
  obtain ⟨hr, e1, N1, f1, ⟨k1, k2, k3, k4, k5⟩, hf1, hw, hfr, hN1⟩ := hq
  have he1 : h' e1 = some (eA 5 N1 (fun j => vQ (f1 j))) := by
    rcases k2 with k2 | k2
    · omega
    · exact k2.1
  have hge : g 7 ≠ e1 := ne_tg k1 he1 rfl
  obtain ⟨X, hX⟩ : ∃ z, z = su (mkC ρ u mo le ra) 45 (ρ 2 0) (b : Int) := ⟨_, rfl⟩
  refine ⟨hN h' e1 (eA 5 N1 (cCn (ρ 2 0 + 1) (aC X))), ⟨hr, mt X 0 (ρ 32 0 + 1) (N1 : Int) (e1 : Int), ?_, ?_⟩, hN_q he1 (fun j => ?_)⟩
  · rw [hX]
    exact ((((SA.refl _).su rfl _ _).su rfl _ _).su rfl _ _).su rfl _ _
  · have hXn : X 2 0 = ρ 2 0 + 1 := by rw [hX]; rfl
    have mto := mt_o0 (g := g) X (ρ 32 0 + 1) (N1 : Int) e1
    rw [hXn] at mto
    have hbe1 : b ≠ e1 := by
      rcases hw with w | w
      · rw [w.1]
        exact fun z => hbn 8 (by rw [show CE g ρ 8 = cAr (ρ 33 0) (ρ 2 0) (aC ρ) from rfl]; unfold cAr; rw [if_pos (by omega)]; exact fun w => by cases w) z.symm
      · exact fresh_ne w hb
    refine hI.list (rl := 7) (ra := 8) (rb := 100 + ρ 2 0) rfl rfl ((ce_c (by omega) (by omega)).1.trans (if_neg (by omega))) mto.1 mto.2.1 rfl mto.2.2.2 rfl mto.2.2.1 (fun r n1 n2 n3 => ?_) (fun x q1 q2 => ?_) ?_ (fun _ => if_pos rfl) (fun q => absurd q (by omega)) ?_ (fun x hx => ?_) ?_
    · have m := mt_0 (g := g) X (ρ 32 0 + 1) (N1 : Int) (e1 : Int) n1 n2
      have u := mkC_u (g := g) (ρ := ρ) (u := u) (mo := mo) (le := le) (ra := ra) (q := (b : Int)) (fun c c0 c1 => by have := hk c c0 c1; omega) (fun j j0 j1 => by have := hp j j0 j1; omega) n1 n2 n3
      rw [← hX] at u
      exact ⟨m.1.trans u.1, fun _ => m.2.trans u.2⟩
    · unfold hN
      rw [if_neg q2]
      exact hfr x q1 q2
    · show (if g 7 = e1 then some _ else h' (g 7)) = _
      rw [if_neg hge]
      exact k1
    · rcases hw with w | w
      · exact Or.inl ⟨w.1, fun _ => by omega⟩
      · exact Or.inr w
    · rw [(ce_c (by omega) (by omega)).1, show (mt X _ _ _ _) 2 0 = ρ 2 0 + 1 from hXn, if_pos (by omega)] at hx
      cases hx
      rw [(ce_c (by omega) (by omega)).2]
      have hab : aC (mt X 0 (ρ 32 0 + 1) (N1 : Int) (e1 : Int)) (ρ 2 0) = b := by
        rw [hX]
        show (su ρ 45 (ρ 2 0) (b : Int) 45 (ρ 2 0)).toNat = b
        rw [su_e]
        rfl
      rw [hab]
      refine ⟨?_, hbn, fun _ => hbe1⟩
      unfold hN
      rw [if_neg hbe1, hfr b hba hbe1, hb, hX]
      exact congrArg some (by first | (simp [su, h7]; done) | (simp [su, h7]; rfl))
    · have K := hI.2.2
      rw [hX]
      exact ⟨⟨⟨by show 0 ≤ ρ 2 0 + 1; omega, by show ρ 2 0 + 1 ≤ (N1 : Int); omega, by show (N1 : Int) ≤ 60; omega⟩, fun q => absurd (show (N1 : Int) = 0 from q) (by omega)⟩, K.2⟩
  · have hj : f1 (j : Int) = if (j : Int) = ρ 2 0 then some b else if 0 ≤ (j : Int) ∧ (j : Int) < ρ 2 0 then some (aC ρ (j : Int)) else none := hf1 (j : Int) (by omega)
    rw [hj, hX]
    unfold cCn
    by_cases q1 : (j : Int) = ρ 2 0
    · rw [if_pos q1, if_pos (by omega)]
      show vQ (some b) = vQ (some ((su ρ 45 (ρ 2 0) (b : Int) 45 (j : Int)).toNat))
      rw [q1, su_e]
      rfl
    · rw [if_neg q1]
      by_cases q2 : 0 ≤ (j : Int) ∧ (j : Int) < ρ 2 0
      · rw [if_pos q2, if_pos (by omega)]
        show vQ (some (aC ρ (j : Int))) = vQ (some ((su ρ 45 (ρ 2 0) (b : Int) 45 (j : Int)).toNat))
        rw [su_i q1]
      · rw [if_neg q2, if_neg (by omega)]
theorem cAddK (l : Launch) (G : GG) (N0 : Nat) (h : Hp) (g : Int → Nat) (ρ : Sg) (b : Nat) (en mi : Int) (hI : CI G g ρ h) (hbn : ∀ r, CE g ρ r ≠ none → ad g ρ r ≠ b) (hb : h b = some (eO 6 [vR (aE ρ en), vI mi, vI 0])) (hn9 : ρ 24 0 ≤ 40) (h27 : ρ 27 (ρ 24 0) = 0) : Ct l G N0 yJx4a65c_add_9ea2d (Cond.code yJx4a65c_add_9ea2d cJx4a65c_add_9ea2d 2 (some FieldType.boolean) :: LW) ({ frames := 6, cells := 1, slots := 100, locals := 360 }) [vR (g 11), vR b] h (fun r h' => r = some (vI 1) ∧ ∃ ρ', SA (mkK ρ en mi) ρ' ∧ CI G g ρ' h') := by
  obtain ⟨hk1, hk2⟩ := hI.2.2.2.2.1
  have hLI : LI G h (g 11) (aA ρ 2) (ρ 33 2).toNat (ρ 32 2) (ρ 24 0) (fun j => if 0 ≤ j ∧ j < ρ 24 0 then some (aK ρ j) else none) := by
    refine ⟨ci_11 hI, ?_, by omega, fun j hj => if_neg (by omega), ?_⟩
    · by_cases q : 0 < ρ 33 2
      · exact Or.inr ⟨cArr2 hI q, by omega⟩
      · exact Or.inl ⟨by omega, by omega, hk2 (by omega)⟩
    · intro i h0 h1 y hy
      have hy : (if 0 ≤ i ∧ i < ρ 24 0 then some (aK ρ i) else none) = some y := hy
      rw [if_pos ⟨h0, h1⟩] at hy
      cases hy
      exact ⟨6, _, ci_k hI ⟨h0, by omega, by omega⟩, castK⟩
  have hba : b ≠ g 11 := fun z => hbn 11 (fun w => by cases w) z.symm
  refine Ct.monoN (mJx4a65c_add_9ea2d l G N0 h (g 11) (aA ρ 2) (ρ 33 2).toNat b 6 _ (ρ 32 2) (ρ 24 0) _ hLI (by omega) hb castK hba) (fun r h' hq => ?_)
  obtain ⟨hr, e1, N1, f1, ⟨k1, k2, k3, k4, k5⟩, hf1, hw, hfr, hN1⟩ := hq
  have he1 : h' e1 = some (eA 5 N1 (fun j => vQ (f1 j))) := by
    rcases k2 with k2 | k2
    · omega
    · exact k2.1
  have hge : g 11 ≠ e1 := ne_tg k1 he1 rfl
  obtain ⟨X, hX⟩ : ∃ z, z = su (mkK ρ en mi) 46 (ρ 24 0) (b : Int) := ⟨_, rfl⟩
  refine ⟨hN h' e1 (eA 5 N1 (cCn (ρ 24 0 + 1) (aK X))), ⟨hr, mt X 2 (ρ 32 2 + 1) (N1 : Int) (e1 : Int), ?_, ?_⟩, hN_q he1 (fun j => ?_)⟩
  · rw [hX]
    exact ((((SA.refl _).su rfl _ _).su rfl _ _).su rfl _ _).su rfl _ _
  · have hXn : X 24 0 = ρ 24 0 + 1 := by rw [hX]; rfl
    have mto := mt_o2 (g := g) X (ρ 32 2 + 1) (N1 : Int) e1
    rw [hXn] at mto
    have hbe1 : b ≠ e1 := by
      rcases hw with w | w
      · rw [w.1]
        exact fun z => hbn 12 (by rw [show CE g ρ 12 = cAr (ρ 33 2) (ρ 24 0) (aK ρ) from rfl]; unfold cAr; rw [if_pos (by omega)]; exact fun w => by cases w) z.symm
      · exact fresh_ne w hb
    refine hI.list (rl := 11) (ra := 12) (rb := 300 + ρ 24 0) rfl rfl ((ce_k (by omega) (by omega)).1.trans (if_neg (by omega))) mto.1 mto.2.1 rfl mto.2.2.2 rfl mto.2.2.1 (fun r n1 n2 n3 => ?_) (fun x q1 q2 => ?_) ?_ (fun _ => if_pos rfl) (fun q => absurd q (by omega)) ?_ (fun x hx => ?_) ?_
    · have m := mt_2 (g := g) X (ρ 32 2 + 1) (N1 : Int) (e1 : Int) n1 n2
      have u := mkK_u (g := g) (ρ := ρ) (en := en) (mi := mi) (q := (b : Int)) n1 n2 n3
      rw [← hX] at u
      exact ⟨m.1.trans u.1, fun _ => m.2.trans u.2⟩
    · unfold hN
      rw [if_neg q2]
      exact hfr x q1 q2
    · show (if g 11 = e1 then some _ else h' (g 11)) = _
      rw [if_neg hge]
      exact k1
    · rcases hw with w | w
      · exact Or.inl ⟨w.1, fun _ => by omega⟩
      · exact Or.inr w
    · rw [(ce_k (by omega) (by omega)).1, show (mt X _ _ _ _) 24 0 = ρ 24 0 + 1 from hXn, if_pos (by omega)] at hx
      cases hx
      rw [(ce_k (by omega) (by omega)).2]
      have hab : aK (mt X 2 (ρ 32 2 + 1) (N1 : Int) (e1 : Int)) (ρ 24 0) = b := by
        rw [hX]
        show (su ρ 46 (ρ 24 0) (b : Int) 46 (ρ 24 0)).toNat = b
        rw [su_e]
        rfl
      rw [hab]
      refine ⟨?_, hbn, fun _ => hbe1⟩
      unfold hN
      rw [if_neg hbe1, hfr b hba hbe1, hb, hX]
      exact congrArg some (by first | (simp [su, h27]; done) | (simp [su, h27]; rfl))
    · have K := hI.2.2
      rw [hX]
      exact ⟨K.1, K.2.1, ⟨⟨by show 0 ≤ ρ 24 0 + 1; omega, by show ρ 24 0 + 1 ≤ (N1 : Int); omega, by show (N1 : Int) ≤ 60; omega⟩, fun q => absurd (show (N1 : Int) = 0 from q) (by omega)⟩, K.2.2.2⟩
  · have hj : f1 (j : Int) = if (j : Int) = ρ 24 0 then some b else if 0 ≤ (j : Int) ∧ (j : Int) < ρ 24 0 then some (aK ρ (j : Int)) else none := hf1 (j : Int) (by omega)
    rw [hj, hX]
    unfold cCn
    by_cases q1 : (j : Int) = ρ 24 0
    · rw [if_pos q1, if_pos (by omega)]
      show vQ (some b) = vQ (some ((su ρ 46 (ρ 24 0) (b : Int) 46 (j : Int)).toNat))
      rw [q1, su_e]
      rfl
    · rw [if_neg q1]
      by_cases q2 : 0 ≤ (j : Int) ∧ (j : Int) < ρ 24 0
      · rw [if_pos q2, if_pos (by omega)]
        show vQ (some (aK ρ (j : Int))) = vQ (some ((su ρ 46 (ρ 24 0) (b : Int) 46 (j : Int)).toNat))
        rw [su_i q1]
      · rw [if_neg q2, if_neg (by omega)]
theorem mkI_u {g : Int → Nat} {ρ : Sg} (v : Int) {r : Int} (n1 : r ≠ 9) (n2 : r ≠ 10) : CE g (su ρ 16 0 v) r = CE g ρ r ∧ ad g (su ρ 16 0 v) r = ad g ρ r := by
  refine ⟨CE_ext (fun _ => ?_) (fun _ _ => rfl) (fun _ _ => rfl) (fun _ _ => rfl) (fun _ _ => rfl) (fun _ _ => rfl) (fun _ _ => rfl) (fun _ => rfl), rfl⟩
  unfold cFix
  simp only [if_neg n1, if_neg n2]
  rfl
theorem cAddI (l : Launch) (G : GG) (N0 : Nat) (h : Hp) (g : Int → Nat) (ρ : Sg) (b : Nat)  (hI : CI G g ρ h) (hb : h b = some (cIn ρ (ρ 16 0))) (hbe : b = aI ρ (ρ 16 0)) (hn9 : ρ 16 0 ≤ 40) (h39 : ρ 16 0 < ρ 39 0) : Ct l G N0 yJx4a65c_add_9ea2d (Cond.code yJx4a65c_add_9ea2d cJx4a65c_add_9ea2d 2 (some FieldType.boolean) :: LW) ({ frames := 6, cells := 1, slots := 100, locals := 360 }) [vR (g 9), vR b] h (fun r h' => r = some (vI 1) ∧ ∃ ρ', SA (su ρ 16 0 (ρ 16 0 + 1)) ρ' ∧ CI G g ρ' h') := by
  obtain ⟨hk1, hk2⟩ := hI.2.2.2.1
  have hLI : LI G h (g 9) (aA ρ 1) (ρ 33 1).toNat (ρ 32 1) (ρ 16 0) (fun j => if 0 ≤ j ∧ j < ρ 16 0 then some (aI ρ j) else none) := by
    refine ⟨ci_9 hI, ?_, by omega, fun j hj => if_neg (by omega), ?_⟩
    · by_cases q : 0 < ρ 33 1
      · exact Or.inr ⟨cArr1 hI q, by omega⟩
      · exact Or.inl ⟨by omega, by omega, hk2 (by omega)⟩
    · intro i h0 h1 y hy
      have hy : (if 0 ≤ i ∧ i < ρ 16 0 then some (aI ρ i) else none) = some y := hy
      rw [if_pos ⟨h0, h1⟩] at hy
      cases hy
      exact ⟨8, _, ci_i hI ⟨h0, by omega, by omega⟩, castI⟩
  have hba : b ≠ g 9 := ne_tg hb (ci_9 hI) rfl
  refine Ct.monoN (mJx4a65c_add_9ea2d l G N0 h (g 9) (aA ρ 1) (ρ 33 1).toNat b 8 _ (ρ 32 1) (ρ 16 0) _ hLI (by omega) hb castI hba) (fun r h' hq => ?_)
  obtain ⟨hr, e1, N1, f1, ⟨k1, k2, k3, k4, k5⟩, hf1, hw, hfr, hN1⟩ := hq
  have he1 : h' e1 = some (eA 5 N1 (fun j => vQ (f1 j))) := by
    rcases k2 with k2 | k2
    · omega
    · exact k2.1
  have hge : g 9 ≠ e1 := ne_tg k1 he1 rfl
  obtain ⟨X, hX⟩ : ∃ z, z = su ρ 16 0 (ρ 16 0 + 1) := ⟨_, rfl⟩
  refine ⟨hN h' e1 (eA 5 N1 (cCn (ρ 16 0 + 1) (aI X))), ⟨hr, mt X 1 (ρ 32 1 + 1) (N1 : Int) (e1 : Int), ?_, ?_⟩, hN_q he1 (fun j => ?_)⟩
  · rw [hX]
    exact (((SA.refl _).su rfl _ _).su rfl _ _).su rfl _ _
  · have hXn : X 16 0 = ρ 16 0 + 1 := by rw [hX]; rfl
    have mto := mt_o1 (g := g) X (ρ 32 1 + 1) (N1 : Int) e1
    rw [hXn] at mto
    have hbe1 : b ≠ e1 := by
      rcases hw with w | w
      · rw [w.1]
        exact ne_tg hb (cArr1 hI (by omega)) rfl
      · exact fresh_ne w hb
    refine hI.list (rl := 9) (ra := 10) (rb := -1) rfl rfl rfl mto.1 mto.2.1 rfl mto.2.2.2 rfl mto.2.2.1 (fun r n1 n2 n3 => ?_) (fun x q1 q2 => ?_) ?_ (fun _ => if_pos rfl) (fun q => absurd q (by omega)) ?_ (fun x hx => ?_) ?_
    · have m := mt_1 (g := g) X (ρ 32 1 + 1) (N1 : Int) (e1 : Int) n1 n2
      have u := mkI_u (g := g) (ρ := ρ) (ρ 16 0 + 1) n1 n2
      rw [← hX] at u
      exact ⟨m.1.trans u.1, fun _ => m.2.trans u.2⟩
    · unfold hN
      rw [if_neg q2]
      exact hfr x q1 q2
    · show (if g 9 = e1 then some _ else h' (g 9)) = _
      rw [if_neg hge]
      exact k1
    · rcases hw with w | w
      · exact Or.inl ⟨w.1, fun _ => by omega⟩
      · exact Or.inr w
    · cases hx
    · have K := hI.2.2
      rw [hX]
      exact ⟨K.1, ⟨⟨by show 0 ≤ ρ 16 0 + 1; omega, by show ρ 16 0 + 1 ≤ (N1 : Int); omega, by show (N1 : Int) ≤ 60; omega⟩, fun q => absurd (show (N1 : Int) = 0 from q) (by omega)⟩, K.2.2⟩
  · have hj : f1 (j : Int) = if (j : Int) = ρ 16 0 then some b else if 0 ≤ (j : Int) ∧ (j : Int) < ρ 16 0 then some (aI ρ (j : Int)) else none := hf1 (j : Int) (by omega)
    rw [hj, hX]
    unfold cCn
    by_cases q1 : (j : Int) = ρ 16 0
    · rw [if_pos q1, if_pos (by omega)]
      show vQ (some b) = vQ (some (aI ρ (j : Int)))
      rw [q1, hbe]
      
    · rw [if_neg q1]
      by_cases q2 : 0 ≤ (j : Int) ∧ (j : Int) < ρ 16 0
      · rw [if_pos q2, if_pos (by omega)]
        rfl
        
      · rw [if_neg q2, if_neg (by omega)]
theorem cAddN (l : Launch) (G : GG) (N0 : Nat) (h : Hp) (g : Int → Nat) (ρ : Sg) (b : Nat) (i kd mi sb fa : Int) (hI : CI G g ρ h) (hbn : ∀ r, CE g ρ r ≠ none → ad g ρ r ≠ b) (hb : h b = some (eO 9 [vI kd, vI mi, vI sb, vF (fb fa)])) (hi : 0 ≤ i ∧ i < 8 ∧ i < ρ 39 0) (hq : 0 ≤ ρ 17 i ∧ ρ 17 i < 40) (hL : ∀ x, 0 ≤ x → x < ρ 39 0 → ρ 17 x ≤ 40) (hLb : ρ 39 0 ≤ 8) : Ct l G N0 yJx4a65c_add_9ea2d (Cond.code yJx4a65c_add_9ea2d cJx4a65c_add_9ea2d 2 (some FieldType.boolean) :: LW) ({ frames := 6, cells := 1, slots := 100, locals := 360 }) [vR (aL ρ i), vR b] h (fun r h' => r = some (vI 1) ∧ ∃ ρ', (∀ k, k ≠ 41 → k ≠ 47 → k ≠ 48 → k ≠ 49 → ρ' k = mkN ρ i kd mi sb fa k) ∧ CI G g ρ' h') := by
  have KK := hI.2.2.2.2.2.2.2.1
  obtain ⟨hk1, hk2⟩ := KK i hi.1 hi.2.2
  have hL0 : h (aL ρ i) = some (cLst (ρ 47 i) (aM ρ i) (ρ 17 i)) := ci_l hI ⟨hi.1, hi.2.2, by omega⟩
  have hLI : LI G h (aL ρ i) (aM ρ i) (ρ 48 i).toNat (ρ 47 i) (ρ 17 i) (fun j => if 0 ≤ j ∧ j < ρ 17 i then some (aN ρ (40 * i + j)) else none) := by
    refine ⟨hL0, ?_, by omega, fun j hj => if_neg (by omega), ?_⟩
    · by_cases q : 0 < ρ 48 i
      · exact Or.inr ⟨cArrL hI ⟨hi.1, hi.2.2, by omega⟩ q, by omega⟩
      · exact Or.inl ⟨by omega, by omega, hk2 (by omega)⟩
    · intro j h0 h1 y hy
      have hy : (if 0 ≤ j ∧ j < ρ 17 i then some (aN ρ (40 * i + j)) else none) = some y := hy
      rw [if_pos ⟨h0, h1⟩] at hy
      cases hy
      exact ⟨9, _, ci_n hI ⟨hi.1, hi.2.2, hi.2.1⟩ ⟨h0, h1, by omega⟩, castN⟩
  have pl : CE g ρ (500 + i) = some (cLst (ρ 47 i) (aM ρ i) (ρ 17 i)) := (ce_l hi.1 (by omega)).1.trans (if_pos hi.2.2)
  have pa : CE g ρ (600 + i) = cAr (ρ 48 i) (ρ 17 i) (fun j => aN ρ (40 * i + j)) := (ce_a hi.1 (by omega)).1.trans (if_pos hi.2.2)
  have hba : b ≠ aL ρ i := fun z => hbn (500 + i) (by rw [pl]; exact fun w => by cases w) ((ce_l hi.1 (by omega)).2.trans z.symm)
  refine Ct.monoN (mJx4a65c_add_9ea2d l G N0 h (aL ρ i) (aM ρ i) (ρ 48 i).toNat b 9 _ (ρ 47 i) (ρ 17 i) _ hLI (by omega) hb castN hba) (fun r h' hq9 => ?_)
  obtain ⟨hr, e1, N1, f1, ⟨k1, k2, k3, k4, k5⟩, hf1, hw, hfr, hN1⟩ := hq9
  have he1 : h' e1 = some (eA 5 N1 (fun j => vQ (f1 j))) := by
    rcases k2 with k2 | k2
    · omega
    · exact k2.1
  have hge : aL ρ i ≠ e1 := ne_tg k1 he1 rfl
  obtain ⟨X, hX⟩ : ∃ z, z = su (mkN ρ i kd mi sb fa) 41 (40 * i + ρ 17 i) (b : Int) := ⟨_, rfl⟩
  have hXn : X 17 i = ρ 17 i + 1 := by
    rw [hX]
    show su _ 17 i (ρ 17 i + 1) 17 i = _
    exact su_e
  have hX39 : X 39 0 = ρ 39 0 := by rw [hX]; rfl
  refine ⟨hN h' e1 (eA 5 N1 (cCn (ρ 17 i + 1) (fun j => aN X (40 * i + j)))), ⟨hr, mtL X i (ρ 47 i + 1) (N1 : Int) (e1 : Int), fun k n1 n2 n3 n4 => ?_, ?_⟩, hN_q he1 (fun j => ?_)⟩
  · rw [hX]
    funext j
    show su (su (su (su (mkN ρ i kd mi sb fa) 41 _ _) 47 _ _) 48 _ _) 49 _ _ k j = _
    rw [su_n n4, su_n n3, su_n n2, su_n n1]
  · have hbe1 : b ≠ e1 := by
      rcases hw with w | w
      · rw [w.1]
        exact fun z => hbn (600 + i) (by rw [pa]; unfold cAr; rw [if_pos (by omega)]; exact fun w => by cases w) ((ce_a hi.1 (by omega)).2.trans z.symm)
      · exact fresh_ne w hb
    have c5 := ce_l (g := g) (ρ := mtL X i (ρ 47 i + 1) (N1 : Int) (e1 : Int)) hi.1 (show i < 100 by omega)
    have c6 := ce_a (g := g) (ρ := mtL X i (ρ 47 i + 1) (N1 : Int) (e1 : Int)) hi.1 (show i < 100 by omega)
    have c7 := ce_n (g := g) (ρ := mtL X i (ρ 47 i + 1) (N1 : Int) (e1 : Int)) hi.1 hi.2.1 hq.1 hq.2
    have t39 : mtL X i (ρ 47 i + 1) (N1 : Int) (e1 : Int) 39 0 = ρ 39 0 := hX39
    have t17 : mtL X i (ρ 47 i + 1) (N1 : Int) (e1 : Int) 17 i = ρ 17 i + 1 := hXn
    have t47 : mtL X i (ρ 47 i + 1) (N1 : Int) (e1 : Int) 47 i = ρ 47 i + 1 := (su_e : su X 47 i (ρ 47 i + 1) 47 i = _)
    have t48 : mtL X i (ρ 47 i + 1) (N1 : Int) (e1 : Int) 48 i = (N1 : Int) := (su_e : su (su X 47 i (ρ 47 i + 1)) 48 i (N1 : Int) 48 i = _)
    have t49 : aM (mtL X i (ρ 47 i + 1) (N1 : Int) (e1 : Int)) i = e1 := by
      show (su (su (su X 47 i (ρ 47 i + 1)) 48 i (N1 : Int)) 49 i (e1 : Int) 49 i).toNat = e1
      rw [su_e]
      rfl
    have tL : aL (mtL X i (ρ 47 i + 1) (N1 : Int) (e1 : Int)) i = aL ρ i := by
      show (X 43 i).toNat = _
      rw [hX]
      rfl
    rw [t39, if_pos hi.2.2, t17, t47, t49, tL] at c5
    rw [t39, if_pos hi.2.2, t17, t48, t49] at c6
    rw [t39, t17, if_pos ⟨hi.2.2, by omega⟩] at c7
    have hab : aN (mtL X i (ρ 47 i + 1) (N1 : Int) (e1 : Int)) (40 * i + ρ 17 i) = b := by
      rw [hX]
      show (su (mkN ρ i kd mi sb fa) 41 (40 * i + ρ 17 i) (b : Int) 41 (40 * i + ρ 17 i)).toNat = b
      rw [su_e]
      rfl
    rw [hab] at c7
    refine hI.list (rl := 500 + i) (ra := 600 + i) (rb := 1000 + (40 * i + ρ 17 i)) pl pa ((ce_n hi.1 hi.2.1 hq.1 hq.2).1.trans (if_neg (by omega))) c5.1 c6.1 (ce_l hi.1 (by omega)).2 c5.2 (ce_a hi.1 (by omega)).2 c6.2 (fun r n1 n2 n3 => ?_) (fun x q1 q2 => ?_) ?_ (fun _ => if_pos rfl) (fun q => absurd q (by omega)) ?_ (fun x hx => ?_) ?_
    · have m := mt_L (g := g) X i (ρ 47 i + 1) (N1 : Int) (e1 : Int) n1 n2
      have u := mkN_u (g := g) (ρ := ρ) (kd := kd) (mi := mi) (sb := sb) (fa := fa) (q := (b : Int)) ⟨hi.1, hi.2.1⟩ hq n1 n2 n3 hL
      rw [← hX] at u
      exact ⟨m.1.trans u.1, fun hp => m.2.trans (u.2 hp)⟩
    · unfold hN
      rw [if_neg q2]
      exact hfr x q1 q2
    · show (if _ = e1 then some _ else h' _) = _
      rw [if_neg hge]
      exact k1
    · rcases hw with w | w
      · exact Or.inl ⟨w.1, fun _ => by omega⟩
      · exact Or.inr w
    · rw [c7.1] at hx
      cases hx
      rw [c7.2]
      refine ⟨?_, hbn, fun _ => hbe1⟩
      unfold hN
      rw [if_neg hbe1, hfr b hba hbe1, hb, hX]
      exact congrArg some (by first | (simp [su]; done) | (simp [su]; rfl))
    · have K := hI.2.2
      rw [hX]
      refine ⟨K.1, K.2.1, K.2.2.1, K.2.2.2.1, K.2.2.2.2.1, fun x x0 x1 => ?_, K.2.2.2.2.2.2⟩
      by_cases xi : x = i
      · subst xi
        rw [← hX, t17, t48, t49]
        exact ⟨⟨by omega, by omega, by omega⟩, fun q => absurd q (by omega)⟩
      · have kx := K.2.2.2.2.2.1 x x0 x1
        show KL G (su ρ 48 i (N1 : Int) 48 x) (su ρ 49 i (e1 : Int) 49 x).toNat (su ρ 17 i (ρ 17 i + 1) 17 x)
        rw [su_i xi, su_i xi, su_i xi]
        exact kx
  · have hj : f1 (j : Int) = if (j : Int) = ρ 17 i then some b else if 0 ≤ (j : Int) ∧ (j : Int) < ρ 17 i then some (aN ρ (40 * i + (j : Int))) else none := hf1 (j : Int) (by omega)
    rw [hj, hX]
    unfold cCn
    by_cases q1 : (j : Int) = ρ 17 i
    · rw [if_pos q1, if_pos (by omega)]
      show vQ (some b) = vQ (some ((su (mkN ρ i kd mi sb fa) 41 (40 * i + ρ 17 i) (b : Int) 41 (40 * i + (j : Int))).toNat))
      rw [q1, su_e]
      rfl
    · rw [if_neg q1]
      by_cases q2 : 0 ≤ (j : Int) ∧ (j : Int) < ρ 17 i
      · rw [if_pos q2, if_pos (by omega)]
        show vQ (some (aN ρ (40 * i + (j : Int)))) = vQ (some ((su ρ 41 (40 * i + ρ 17 i) (b : Int) 41 (40 * i + (j : Int))).toNat))
        rw [su_i (show 40 * i + (j : Int) ≠ 40 * i + ρ 17 i by omega)]
      · rw [if_neg q2, if_neg (by omega)]
theorem mkP_u {g : Int → Nat} {ρ : Sg} (v : Int) (f : Int → Int) {r : Int} (n1 : r ≠ 17) (n2 : r ≠ 18) : CE g (sw (su ρ 36 0 v) 35 f) r = CE g ρ r ∧ ad g (sw (su ρ 36 0 v) 35 f) r = ad g ρ r := by
  refine ⟨CE_ext (fun _ => ?_) (fun _ _ => rfl) (fun _ _ => rfl) (fun _ _ => rfl) (fun _ _ => rfl) (fun _ _ => rfl) (fun _ _ => rfl) (fun _ => rfl), rfl⟩
  unfold cFix
  simp only [if_neg n1, if_neg n2]
  rfl
/-- p with e put in at i -/
def inP (p : Int → Int) (i e : Int) : Int → Int := fun j => if j < i then p j else if j = i then e else p (j - 1)
theorem cAddP (l : Launch) (G : GG) (N0 : Nat) (h : Hp) (g : Int → Nat) (ρ : Sg) (i e : Int) (hI : CI G g ρ h) (he : 0 ≤ e ∧ e < ρ 8 0) (h8 : ρ 8 0 ≤ 24) (hn9 : ρ 36 0 ≤ 40) (hi : 0 ≤ i ∧ i ≤ ρ 36 0) : Ct l G N0 yJx4a65c_add_7a177 (Cond.code yJx4a65c_add_7a177 cJx4a65c_add_7a177 5 none :: LW) ({ frames := 5, cells := 1, slots := 100, locals := 300 }) [vR (g 17), vI i, vR (aE ρ e)] h (fun r h' => r = none ∧ ∃ ρ', (∀ k, k ≠ 32 → k ≠ 33 → k ≠ 40 → ρ' k = (sw (su ρ 36 0 (ρ 36 0 + 1)) 35 (inP (ρ 35) i e)) k) ∧ CI G g ρ' h') := by
  obtain ⟨hk1, hk2⟩ := hI.2.2.2.2.2.2.1
  have hP := hI.2.2.2.2.2.2.2.2.1
  have hb := ci_e hI (i := e) ⟨he.1, he.2, by omega⟩
  have hLI : LI G h (g 17) (aA ρ 4) (ρ 33 4).toNat (ρ 32 4) (ρ 36 0) (fun j => if 0 ≤ j ∧ j < ρ 36 0 then some (aE ρ (ρ 35 j)) else none) := by
    refine ⟨ci_17 hI, ?_, by omega, fun j hj => if_neg (by omega), ?_⟩
    · by_cases q : 0 < ρ 33 4
      · exact Or.inr ⟨cArr4 hI q, by omega⟩
      · exact Or.inl ⟨by omega, by omega, hk2 (by omega)⟩
    · intro i h0 h1 y hy
      have hy : (if 0 ≤ i ∧ i < ρ 36 0 then some (aE ρ (ρ 35 i)) else none) = some y := hy
      rw [if_pos ⟨h0, h1⟩] at hy
      cases hy
      have := hP i h0 h1
      exact ⟨7, _, ci_e hI ⟨this.1, this.2, by omega⟩, castE⟩
  have hba : aE ρ e ≠ g 17 := ne_tg hb (ci_17 hI) rfl
  refine Ct.monoN (mAddI l G N0 h (g 17) (aA ρ 4) (ρ 33 4).toNat (aE ρ e) 7 _ (ρ 32 4) (ρ 36 0) i _ hLI (by omega) hi hb castE hba) (fun r h' hq => ?_)
  obtain ⟨hr, e1, N1, f1, ⟨k1, k2, k3, k4, k5⟩, hf1, hw, hfr, hN1⟩ := hq
  have he1 : h' e1 = some (eA 5 N1 (fun j => vQ (f1 j))) := by
    rcases k2 with k2 | k2
    · omega
    · exact k2.1
  have hge : g 17 ≠ e1 := ne_tg k1 he1 rfl
  obtain ⟨X, hX⟩ : ∃ z, z = sw (su ρ 36 0 (ρ 36 0 + 1)) 35 (inP (ρ 35) i e) := ⟨_, rfl⟩
  have hX35 : ∀ j, X 35 j = inP (ρ 35) i e j := fun j => by rw [hX]; rfl
  have hX44 : aE X = aE ρ := by rw [hX]; rfl
  refine ⟨hN h' e1 (eA 5 N1 (cCn (ρ 36 0 + 1) (fun j => aE X (X 35 j)))), ⟨hr, mt X 4 (ρ 32 4 + 1) (N1 : Int) (e1 : Int), fun k n1 n2 n3 => ?_, ?_⟩, hN_q he1 (fun j => ?_)⟩
  · rw [hX]
    funext j
    show su (su (su _ 32 _ _) 33 _ _) 40 _ _ k j = _
    rw [su_n n3, su_n n2, su_n n1]
  · have hXn : X 36 0 = ρ 36 0 + 1 := by rw [hX]; rfl
    have mto := mt_o4 (g := g) X (ρ 32 4 + 1) (N1 : Int) e1
    rw [hXn] at mto
    refine hI.list (rl := 17) (ra := 18) (rb := -1) rfl rfl rfl mto.1 mto.2.1 rfl mto.2.2.2 rfl mto.2.2.1 (fun r n1 n2 n3 => ?_) (fun x q1 q2 => ?_) ?_ (fun _ => if_pos rfl) (fun q => absurd q (by omega)) ?_ (fun x hx => by cases hx) ?_
    · have m := mt_4 (g := g) X (ρ 32 4 + 1) (N1 : Int) (e1 : Int) n1 n2
      have u := mkP_u (g := g) (ρ := ρ) (ρ 36 0 + 1) (inP (ρ 35) i e) n1 n2
      rw [← hX] at u
      exact ⟨m.1.trans u.1, fun _ => m.2.trans u.2⟩
    · unfold hN
      rw [if_neg q2]
      exact hfr x q1 q2
    · show (if g 17 = e1 then some _ else h' (g 17)) = _
      rw [if_neg hge]
      exact k1
    · rcases hw with w | w
      · exact Or.inl ⟨w.1, fun _ => by omega⟩
      · exact Or.inr w
    · have K := hI.2.2
      rw [hX]
      refine ⟨K.1, K.2.1, K.2.2.1, K.2.2.2.1, ⟨⟨by show 0 ≤ ρ 36 0 + 1; omega, by show ρ 36 0 + 1 ≤ (N1 : Int); omega, by show (N1 : Int) ≤ 60; omega⟩, fun q => absurd (show (N1 : Int) = 0 from q) (by omega)⟩, K.2.2.2.2.2.1, fun j j0 j1 => ?_, K.2.2.2.2.2.2.2⟩
      have j1 : j < ρ 36 0 + 1 := j1
      show 0 ≤ inP (ρ 35) i e j ∧ inP (ρ 35) i e j < ρ 8 0
      unfold inP
      by_cases q1 : j < i
      · rw [if_pos q1]; exact hP j j0 (by omega)
      · rw [if_neg q1]
        by_cases q2 : j = i
        · rw [if_pos q2]; exact he
        · rw [if_neg q2]; exact hP (j - 1) (by omega) (by omega)
  · have hj : f1 (j : Int) = if (j : Int) < i then (if 0 ≤ (j : Int) ∧ (j : Int) < ρ 36 0 then some (aE ρ (ρ 35 (j : Int))) else none) else if (j : Int) = i then some (aE ρ e) else (if 0 ≤ (j : Int) - 1 ∧ (j : Int) - 1 < ρ 36 0 then some (aE ρ (ρ 35 ((j : Int) - 1))) else none) := hf1 (j : Int) (by omega)
    rw [hj]
    unfold cCn
    show _ = vQ (if 0 ≤ (j : Int) ∧ (j : Int) < ρ 36 0 + 1 then some (aE X (X 35 (j : Int))) else none)
    rw [hX35, hX44]
    unfold inP
    by_cases q1 : (j : Int) < i
    · rw [if_pos q1, if_pos q1, if_pos (by omega), if_pos (by omega)]
    · rw [if_neg q1, if_neg q1]
      by_cases q2 : (j : Int) = i
      · rw [if_pos q2, if_pos q2, if_pos (by omega)]
      · rw [if_neg q2, if_neg q2]
        by_cases q3 : (j : Int) < ρ 36 0 + 1
        · rw [if_pos (by omega), if_pos (by omega)]
        · rw [if_neg (by omega), if_neg (by omega)]
theorem clr_u {g : Int → Nat} {ρ : Sg} {v w : Int} {r : Int} (n1 : r ≠ 17) (n2 : r ≠ 18) : CE g (su (su ρ 36 0 v) 32 4 w) r = CE g ρ r ∧ (CE g ρ r ≠ none → ad g (su (su ρ 36 0 v) 32 4 w) r = ad g ρ r) := by
  refine ⟨CE_ext (fun _ => ?_) (fun _ _ => rfl) (fun _ _ => rfl) (fun _ _ => rfl) (fun _ _ => rfl) (fun _ _ => rfl) (fun _ _ => rfl) (fun _ => rfl), fun _ => rfl⟩
  unfold cFix
  simp only [if_neg n1, if_neg n2]
  rfl
theorem clr_K {G : GG} {g : Int → Nat} {ρ : Sg} {h : Hp} {w : Int} (hI : CI G g ρ h) : KLs G g (su (su ρ 36 0 0) 32 4 w) := by
  have K := hI.2.2
  refine ⟨K.1, K.2.1, K.2.2.1, K.2.2.2.1, ⟨⟨by show (0 : Int) ≤ 0; omega, by show 0 ≤ ρ 33 4; have := K.2.2.2.2.1.1; omega, K.2.2.2.2.1.1.2.2⟩, K.2.2.2.2.1.2⟩, K.2.2.2.2.2.1, fun j j0 j1 => ?_, K.2.2.2.2.2.2.2⟩
  have j1 : j < 0 := j1
  omega
theorem cClrP (l : Launch) (G : GG) (N0 : Nat) (h : Hp) (g : Int → Nat) (ρ : Sg) (hI : CI G g ρ h) : Ct l G N0 yJx4a65c_clear_da8c8 (Cond.code yJx4a65c_clear_da8c8 cJx4a65c_clear_da8c8 4 none :: LW) ({ frames := 0, cells := 0, slots := 0, locals := 0 }) [vR (g 17)] h (fun r h' => r = none ∧ CI G g (su (su ρ 36 0 0) 32 4 (ρ 32 4 + 1)) h') := by
  obtain ⟨hk1, hk2⟩ := hI.2.2.2.2.2.2.1
  have hne : aA ρ 4 ≠ g 17 ∨ ¬ 0 < ρ 33 4 := by
    by_cases q : 0 < ρ 33 4
    · exact Or.inl (fun z => ne_tg (ci_17 hI) (cArr4 hI q) rfl z.symm)
    · exact Or.inr q
  by_cases hq : aA ρ 4 = g 17
  · have q : ¬ 0 < ρ 33 4 := by
      rcases hne with z | z
      · exact absurd hq z
      · exact z
    exact absurd (hq.symm.trans (hk2 (by omega))) hI.2.2.2.2.2.2.2.2.2
  · refine Ct.monoN (mJx4a65c_clear_da8c8 l G N0 h (g 17) (aA ρ 4) (ρ 33 4).toNat (ρ 32 4) (ρ 36 0) (fun j => if 0 ≤ j ∧ j < ρ 36 0 then some (aE ρ (ρ 35 j)) else none) (ci_17 hI) (fun q => ⟨cArr4 hI (by omega), by omega⟩) (by omega) hq) (fun r h' hp => ?_)
    obtain ⟨hr, k1, k2, k3, k4⟩ := hp
    by_cases hN9 : 0 < ρ 33 4
    · have he1 : ∃ f, h' (aA ρ 4) = some (eA 5 (ρ 33 4).toNat f) ∧ ∀ j : Nat, f (j : Int) = vN := by
        by_cases q : 0 < ρ 36 0
        · refine ⟨_, k4 q, fun j => ?_⟩
          show vQ (if 0 ≤ (j : Int) ∧ (j : Int) < ρ 36 0 then none else if 0 ≤ (j : Int) ∧ (j : Int) < ρ 36 0 then some (aE ρ (ρ 35 (j : Int))) else none) = vQ none
          by_cases w : 0 ≤ (j : Int) ∧ (j : Int) < ρ 36 0
          · rw [if_pos w]
          · rw [if_neg w, if_neg w]
        · refine ⟨_, (k3 (by omega)).trans (cArr4 hI hN9), fun j => ?_⟩
          unfold cCn
          rw [if_neg (by omega)]
      obtain ⟨f, he1, hf⟩ := he1
      refine ⟨hN h' (aA ρ 4) (eA 5 (ρ 33 4).toNat (cCn 0 (fun j => aE ρ (ρ 35 j)))), ⟨hr, ?_⟩, hN_q he1 (fun j => by rw [hf]; unfold cCn; rw [if_neg (by omega)])⟩
      refine hI.list (rl := 17) (ra := 18) (rb := -1) rfl rfl rfl (mc' := ρ 32 4 + 1) (N' := ρ 33 4) (n' := 0) (b' := fun j => aE ρ (ρ 35 j)) (ar' := aA ρ 4) rfl rfl rfl rfl rfl rfl (fun r n1 n2 n3 => ?_) (fun x q1 q2 => ?_) ?_ (fun _ => if_pos rfl) (fun q => absurd hN9 q) (Or.inl ⟨rfl, id⟩) (fun x hx => by cases hx) ?_
      · exact clr_u n1 n2
      · show hN h' _ _ x = _
        unfold hN
        rw [if_neg q2]
        exact k2 x q1 q2
      · show hN h' _ _ (g 17) = _
        unfold hN
        rw [if_neg (fun z => hq z.symm)]
        exact k1
      · exact clr_K hI
    · refine ⟨h', ⟨hr, ?_⟩, fun a e he => ⟨e, he, Or.inl rfl⟩⟩
      refine hI.list (rl := 17) (ra := 18) (rb := -1) rfl rfl rfl (mc' := ρ 32 4 + 1) (N' := ρ 33 4) (n' := 0) (b' := fun j => aE ρ (ρ 35 j)) (ar' := aA ρ 4) rfl rfl rfl rfl rfl rfl (fun r n1 n2 n3 => clr_u n1 n2) (fun x q1 q2 => k2 x q1 q2) k1 (fun q => absurd q hN9) (fun _ => Or.inl (k3 (by omega))) (Or.inl ⟨rfl, id⟩) (fun x hx => by cases hx) (clr_K hI)
