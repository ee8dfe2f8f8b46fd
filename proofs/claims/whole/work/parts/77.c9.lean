theorem IR_push {ρ ρ1 ρ2 : Sg} {c kd sb mi : Int} {L : List Ln} (R : IR ρ c L ρ1) (e : ∀ k, k ≠ 41 → k ≠ 47 → k ≠ 48 → k ≠ 49 → ρ2 k = adC ρ1 (ρ 16 0) kd sb mi k) (o1 : ∀ j, j ≠ 40 * ρ 16 0 + ρ1 17 (ρ 16 0) → ρ2 41 j = ρ1 41 j) (o2 : ∀ j, j ≠ ρ 16 0 → ρ2 47 j = ρ1 47 j ∧ ρ2 48 j = ρ1 48 j ∧ ρ2 49 j = ρ1 49 j) : IR ρ c (L ++ [(kd, sb, mi)]) ρ2 := by
  obtain ⟨r0, r39, r18, r17, ⟨r19, r21, r20, r22, r23⟩, r31, r41, rr⟩ := R
  have k17 : ρ1 17 (ρ 16 0) = L.length := by rw [r17]; exact if_pos rfl
  have k23 : ρ1 23 (ρ 16 0) = fi (totL (ρ 6 c) L) := by rw [r23]; exact if_pos rfl
  have k31 : ρ1 31 (ρ 16 0) = lSum L := by rw [r31]; exact if_pos rfl
  have k18 : ρ1 18 (ρ 16 0) = c := by rw [r18]; exact if_pos rfl
  have k6 : ρ1 6 = ρ 6 := r0 6 rfl
  have kA : amt mi (ρ1 6 (ρ1 18 (ρ 16 0))) = amt mi (ρ 6 c) := by rw [k18, k6]
  have ee := fun k (hk : iB k = true → k ≠ 41 ∧ k ≠ 47 ∧ k ≠ 48 ∧ k ≠ 49) (hn : iB k = true) => e k (hk hn).1 (hk hn).2.1 (hk hn).2.2.1 (hk hn).2.2.2
  have q : ∀ k, k = 17 ∨ k = 18 ∨ k = 19 ∨ k = 20 ∨ k = 21 ∨ k = 22 ∨ k = 23 ∨ k = 31 ∨ k = 39 ∨ k = 42 ∨ k = 43 → ρ2 k = adC ρ1 (ρ 16 0) kd sb mi k := fun k hk => e k (by omega) (by omega) (by omega) (by omega)
  refine ⟨fun k hk => ?_, ?_, ?_, ?_, ⟨?_, ?_, ?_, ?_, ?_⟩, ?_, fun j hj => ?_, fun j hj => ?_⟩
  · have n : ∀ q, iB q = true → k ≠ q := fun q hq z => by rw [z, hq] at hk; cases hk
    rw [e k (n 41 rfl) (n 47 rfl) (n 48 rfl) (n 49 rfl), ← r0 k hk]
    funext j
    show su (su (su (su (su (su (su ρ1 19 _ kd) 21 _ sb) 20 _ mi) 22 _ _) 17 _ _) 31 _ _) 23 _ _ k j = _
    rw [su_n (n 23 rfl), su_n (n 31 rfl), su_n (n 17 rfl), su_n (n 22 rfl), su_n (n 20 rfl), su_n (n 21 rfl), su_n (n 19 rfl)]
  · rw [q 39 (by omega)]; exact r39
  · rw [q 18 (by omega)]; exact r18
  · rw [q 17 (by omega)]
    funext j
    show (if j = ρ 16 0 then ρ1 17 (ρ 16 0) + 1 else ρ1 17 j) = u17 ρ (L ++ [(kd, sb, mi)]) j
    rw [k17, r17]
    unfold u17
    by_cases z : j = ρ 16 0
    · rw [if_pos z, if_pos z]; simp
    · rw [if_neg z, if_neg z, if_neg z]
  · rw [q 19 (by omega)]
    funext j
    show (if j = 40 * ρ 16 0 + ρ1 17 (ρ 16 0) then kd else ρ1 19 j) = u19 ρ (L ++ [(kd, sb, mi)]) j
    rw [k17, r19]
    unfold u19
    rw [List.map_append, List.map_singleton, lnF_push, List.length_map]
  · rw [q 21 (by omega)]
    funext j
    show (if j = 40 * ρ 16 0 + ρ1 17 (ρ 16 0) then sb else ρ1 21 j) = u21 ρ (L ++ [(kd, sb, mi)]) j
    rw [k17, r21]
    unfold u21
    rw [List.map_append, List.map_singleton, lnF_push, List.length_map]
  · rw [q 20 (by omega)]
    funext j
    show (if j = 40 * ρ 16 0 + ρ1 17 (ρ 16 0) then mi else ρ1 20 j) = u20 ρ (L ++ [(kd, sb, mi)]) j
    rw [k17, r20]
    unfold u20
    rw [List.map_append, List.map_singleton, lnF_push, List.length_map]
  · rw [q 22 (by omega)]
    funext j
    show (if j = 40 * ρ 16 0 + ρ1 17 (ρ 16 0) then fi (amt mi (ρ1 6 (ρ1 18 (ρ 16 0)))) else ρ1 22 j) = u22 ρ (ρ 6 c) (L ++ [(kd, sb, mi)]) j
    rw [k17, kA, r22]
    unfold u22
    rw [List.map_append, List.map_singleton, lnF_push, List.length_map]
  · rw [q 23 (by omega)]
    funext j
    show (if j = ρ 16 0 then fi (FP.fadd (fb (ρ1 23 (ρ 16 0))) (amt mi (ρ1 6 (ρ1 18 (ρ 16 0))))) else ρ1 23 j) = u23 ρ (ρ 6 c) (L ++ [(kd, sb, mi)]) j
    rw [kA, k23, fb_fi, r23]
    unfold u23
    rw [totL_push]
    by_cases z : j = ρ 16 0
    · rw [if_pos z, if_pos z]
    · rw [if_neg z, if_neg z, if_neg z]
  · rw [q 31 (by omega)]
    funext j
    show (if j = ρ 16 0 then ρ1 31 (ρ 16 0) + mi else ρ1 31 j) = (if j = ρ 16 0 then lSum (L ++ [(kd, sb, mi)]) else ρ 31 j)
    rw [k31, lSum_push, r31]
    by_cases z : j = ρ 16 0
    · rw [if_pos z, if_pos z]
    · rw [if_neg z, if_neg z]; exact if_neg z
  · rw [o1 j (by rw [k17]; omega)]
    exact r41 j hj
  · obtain ⟨m1, m2, m3, m4, m5⟩ := rr j hj
    obtain ⟨n1, n2, n3⟩ := o2 j hj
    refine ⟨?_, ?_, n1.trans m3, n2.trans m4, n3.trans m5⟩
    · rw [q 42 (by omega)]; exact m1
    · rw [q 43 (by omega)]; exact m2
/-- what a line needs -/
def IH (ρ : Sg) (c : Int) : Prop := (0 ≤ c ∧ c < ρ 2 0 ∧ ρ 2 0 ≤ 5) ∧ (0 ≤ ρ 6 c ∧ ρ 6 c ≤ 50000) ∧ (0 ≤ ρ 16 0 ∧ ρ 16 0 < 8) ∧ ρ 39 0 = ρ 16 0 ∧ ∀ x, 0 ≤ x → x < ρ 39 0 → 0 ≤ ρ 17 x ∧ ρ 17 x ≤ 40
theorem MC.ih {ρ : Sg} (hV : MC ρ) {c : Int} (hc : 0 ≤ c ∧ c < ρ 2 0) (h16 : ρ 16 0 < 8) : IH ρ c := by
  obtain ⟨v0, v1, v2, v8, v16, v24, v39, vC, vE, vJ, vK, vB, vO⟩ := hV
  exact ⟨⟨hc.1, hc.2, v2.2⟩, (vC c hc.1 hc.2).2.2.2.1, ⟨v16.1, h16⟩, v39.1, fun x x0 x1 => (vJ x x0 (by omega)).1⟩
/-- the invoice at a0 under construction -/
def IJ (G : GG) (g : Int → Nat) (ρ : Sg) (c : Int) (L : List Ln) (a0 : Nat) (ρ1 : Sg) (h : Hp) : Prop := IR ρ c L ρ1 ∧ CI G g ρ1 h ∧ aI ρ1 (ρ 16 0) = a0 ∧ LB L
section IJ
variable {G : GG} {g : Int → Nat} {ρ ρ1 : Sg} {h : Hp} {c : Int} {L : List Ln} {a0 : Nat}
theorem IJ.ci (J : IJ G g ρ c L a0 ρ1 h) (H : IH ρ c) : CI G g ρ h := J.1.sub J.2.1 H.2.2.2.1 (fun i i0 i1 => (H.2.2.2.2 i i0 i1).2)
theorem IJ.obj (J : IJ G g ρ c L a0 ρ1 h) (H : IH ρ c) : h a0 = some (eO 8 [vR (aC ρ c), vR (aL ρ1 (ρ 16 0)), vI (ρ1 31 (ρ 16 0)), vF (fb (ρ1 23 (ρ 16 0)))]) := by
  obtain ⟨R, K, ha, hB⟩ := J
  obtain ⟨r0, r39, r18, r17, r1, r31, r41, rr⟩ := R
  have r39 : ρ1 39 0 = ρ 16 0 + 1 := by rw [r39]; exact if_pos rfl
  have := ci_i K (i := ρ 16 0) ⟨H.2.2.1.1, by omega, by have := H.2.2.1; omega⟩
  rw [ha] at this
  rw [this]
  have k18 : ρ1 18 (ρ 16 0) = c := by rw [r18]; exact if_pos rfl
  have e45 : ρ1 45 = ρ 45 := r0 45 rfl
  show some (eO 8 [vR (ρ1 45 (ρ1 18 (ρ 16 0))).toNat, _, _, _]) = _
  rw [k18, e45]
theorem cLine (l : Launch) (N0 : Nat) (J : IJ G g ρ c L a0 ρ1 h) (H : IH ρ c) {kd sb mi : Int} (hL : L.length < 40) (hx : (0 ≤ kd ∧ kd < 65536) ∧ (-2147483648 ≤ sb ∧ sb < 2147483648) ∧ (-100000 ≤ mi ∧ mi ≤ 100000)) : Ct l G N0 yX3_addLine (Cond.code yX3_addLine cX3_addLine 5 none :: LW) ({ frames := 8, cells := 2, slots := 104, locals := 440 }) [vR a0, vI kd, vI mi, vI sb] h (fun r h' => r = none ∧ ∃ ρ2, IJ G g ρ c (L ++ [(kd, sb, mi)]) a0 ρ2 h') := by
  obtain ⟨R, K, ha, hB⟩ := J
  obtain ⟨r0, r39, r18, r17, ⟨r19, r21, r20, r22, r23⟩, r31, r41, rr⟩ := id R
  obtain ⟨h1, h2, h3, h4, h5⟩ := H
  have r39 : ρ1 39 0 = ρ 16 0 + 1 := by rw [r39]; exact if_pos rfl
  have k17 : ρ1 17 (ρ 16 0) = L.length := by rw [r17]; exact if_pos rfl
  have k23 : ρ1 23 (ρ 16 0) = fi (totL (ρ 6 c) L) := by rw [r23]; exact if_pos rfl
  have k18 : ρ1 18 (ρ 16 0) = c := by rw [r18]; exact if_pos rfl
  have k6 : ρ1 6 = ρ 6 := r0 6 rfl
  have k2 : ρ1 2 = ρ 2 := r0 2 rfl
  subst ha
  have hT : MG 239 (fb (ρ1 23 (ρ 16 0))) := by
    rw [k23, fb_fi]
    exact (totL_mg h2 L.length L rfl hB (by omega)).le (by omega)
  refine Ct.mono (mX3_addLine l G N0 h g ρ1 (ρ 16 0) kd mi sb 239 K ⟨h3.1, h3.2, by omega⟩ (by omega) ⟨by omega, by omega⟩ (fun x x0 x1 => ?_) ⟨by rw [k18]; omega, by rw [k18, k2]; omega, by rw [k2]; omega⟩ (by rw [k18, k6]; exact h2) hx.2.2 hx.1 hT (by omega)) (fun r h' hq => ?_)
  · rw [r17]
    unfold u17
    by_cases z : x = ρ 16 0
    · rw [if_pos z]; omega
    · rw [if_neg z]; exact (h5 x x0 (by omega)).2
  · obtain ⟨hr, ρ2, q, ⟨o1, o2⟩, I2⟩ := hq
    refine ⟨hr, ρ2, IR_push R q o1 o2, I2, ?_, hB.push hx⟩
    unfold aI
    rw [q 42 (by decide) (by decide) (by decide) (by decide)]
    rfl
theorem IJ.set27 {f f' : Int → Int} {i : Int} {x : AE} (J : IJ G g (sw ρ 27 f) c L a0 ρ1 h) (hi : 0 ≤ i ∧ i < ρ 24 0 ∧ i < 100) (hx : x = eO 6 [vR (aE ρ (ρ 25 i)), vI (ρ 26 i), vI 1]) (hf : f' = fun j => if j = i then 1 else f j) : IJ G g (sw ρ 27 f') c L a0 (su ρ1 27 i 1) (hu h (aK ρ i) x) := by
  obtain ⟨R, K, ha, hB⟩ := J
  obtain ⟨r0, r39, r18, r17, ⟨r19, r21, r20, r22, r23⟩, r31, r41, rr⟩ := R
  have e27 : ρ1 27 = f := (r0 27 rfl).trans sw_e
  have e46 : ρ1 46 = ρ 46 := r0 46 rfl
  have e44 : ρ1 44 = ρ 44 := r0 44 rfl
  have e25 : ρ1 25 = ρ 25 := r0 25 rfl
  have e26 : ρ1 26 = ρ 26 := r0 26 rfl
  have e24 : ρ1 24 = ρ 24 := r0 24 rfl
  refine ⟨⟨fun k hk => ?_, r39, r18, r17, ⟨r19, r21, r20, r22, r23⟩, r31, r41, rr⟩, ?_, ha, hB⟩
  · funext j
    by_cases z : k = 27
    · subst z
      rw [sw_e, hf]
      show (if j = i then 1 else ρ1 27 j) = _
      rw [e27]
    · rw [su_n z]
      have := congrFun (r0 k hk) j
      rw [this]
      show (if k = 27 then f j else ρ k j) = (if k = 27 then f' j else ρ k j)
      rw [if_neg z, if_neg z]
  · have := cP27 K (i := i) (v := 1) (x := x) ⟨hi.1, by rw [e24]; exact hi.2.1, hi.2.2⟩ (by
      rw [hx]
      show eO 6 [vR (ρ1 44 (ρ1 25 i)).toNat, vI (ρ1 26 i), vI (su ρ1 27 i 1 27 i)] = _
      rw [su_e, e44, e25, e26])
    unfold aK at this
    rw [e46] at this
    exact this
end IJ
theorem bl27_0 (ρ : Sg) (c : Int) : sw ρ 27 (bl27 ρ c 0) = ρ := by
  funext k j
  unfold sw
  by_cases z : k = 27
  · rw [if_pos z, z]; unfold bl27; rw [if_neg (by omega)]
  · rw [if_neg z]
theorem bl27_s {ρ : Sg} {c n : Int} (h0 : 0 ≤ n) (h1 : ρ 27 n = 0) (h2 : ρ 9 (ρ 25 n) = c) : bl27 ρ c (n + 1) = fun j => if j = n then 1 else bl27 ρ c n j := by
  funext j
  unfold bl27
  by_cases q : j = n
  · subst q; rw [if_pos ⟨h0, by omega, h1, h2⟩, if_pos rfl]
  · rw [if_neg q]
    by_cases w : 0 ≤ j ∧ j < n ∧ ρ 27 j = 0 ∧ ρ 9 (ρ 25 j) = c
    · rw [if_pos w, if_pos ⟨w.1, by omega, w.2.2⟩]
    · rw [if_neg w, if_neg (fun z => w ⟨z.1, by omega, z.2.2⟩)]
theorem bl27_n (ρ : Sg) (c n : Int) : bl27 ρ c n n = ρ 27 n := by unfold bl27; rw [if_neg (by omega)]
theorem MC_27 {ρ : Sg} (hV : MC ρ) (c : Int) {n : Int} (hn : n ≤ ρ 24 0) : MC (sw ρ 27 (bl27 ρ c n)) := by
  obtain ⟨v0, v1, v2, v8, v16, v24, v39, vC, vE, vJ, vK, vB, vO⟩ := hV
  have l1 : lnS (sw ρ 27 (bl27 ρ c n)) = lnS ρ := lnS_c rfl
  have l2 : amS (sw ρ 27 (bl27 ρ c n)) = amS ρ := amS_c rfl
  have l3 : cst (sw ρ 27 (bl27 ρ c n)) = cst ρ := cst_c rfl
  refine ⟨v0, v1, v2, v8, v16, v24, (by rw [l3]; exact v39), vC, vE, (by rw [l1, l2]; exact vJ), (fun i i0 i1 => ?_), ⟨vB.1, vB.2.1, (fun i i0 => ?_), vB.2.2.2⟩, vO⟩
  · have := vK i i0 i1
    refine ⟨?_, this.2⟩
    show bl27 ρ c n i = 0 ∨ bl27 ρ c n i = 1
    unfold bl27
    split
    · exact Or.inr rfl
    · exact this.1
  · show bl27 ρ c n i = 0
    have i0 : ρ 24 0 ≤ i := i0
    unfold bl27
    rw [if_neg (by omega)]
    exact vB.2.2.1 i i0
theorem cLn_len (bil own cor chg : Int → Int) (c : Int) : ∀ n : Nat, (cLn bil own cor chg c n).length ≤ n
  | 0 => Nat.le_refl _
  | n + 1 => by
    have := cLn_len bil own cor chg c n
    rw [cLn, List.length_append]
    split
    · show _ + 1 ≤ _; omega
    · show _ + 0 ≤ _; omega
theorem dLn_len (ow sa D : Int → Int) (u mo c : Int) (N : Nat) : ∀ n : Nat, (dLn ow sa D u mo c N n).length ≤ n
  | 0 => Nat.le_refl _
  | n + 1 => by
    have := dLn_len ow sa D u mo c N n
    rw [dLn, List.length_append]
    split
    · show _ + 1 ≤ _; omega
    · show _ + 0 ≤ _; omega
/-- an entry's line -/
abbrev eR (ρ : Sg) (c : Int) : Int → Int := fun x => rdO (ρ 9) (ρ 12) (ρ 10) (secS ρ) (ρ 5 c) (ρ 3 c) (ρ 4 c) c x 0 (ρ 8 0).toNat
theorem OT.ivE {ρ : Sg} {c : Int} (hV : MC ρ) (H : OT ρ c 0) (h5 : ¬ ρ 5 c = 100) : ivE ρ c = eP (eR ρ c) (ρ 35) (ρ 36 0).toNat := by
  have h8 := hV.2.2.2.1
  have P := H.pk h8.1
  have hm := P.1
  show (if ρ 5 c = 100 then _ else _) = _
  rw [if_neg h5]
  have hb := P.bh (k := -1) (by omega) (by omega) (e := -1) (by rw [if_pos rfl]; decide)
  rw [hb]
  have := P.eLis (secS ρ) (ρ 5 c) (ρ 3 c) (ρ 4 c) (ρ 8 0).toNat 0 (by omega) (by omega) (by omega)
  exact this
theorem OT.dyE {ρ : Sg} {c wr : Int} (hV : MC ρ) (H : OT ρ c wr) {d : Int} (d0 : 0 ≤ d) (d1 : d < 5) : sumI (fun x => ρ 14 (5 * ρ 35 x + d)) 0 (ρ 36 0).toNat = dyO (ρ 9) (ρ 12) (dyF ρ) c d wr (ρ 8 0).toNat := by
  have h8 := hV.2.2.2.1
  have hm := H.1.1
  rw [(H.pk h8.1).day (dyF ρ) d]
  exact sumI_g _ (fun m m0 m1 => by
    have w := (H.ow m0 (show m < ρ 36 0 by omega)).1
    show ρ 14 (5 * ρ 35 m + d) = _
    rw [H.2.2 _ d w.1 w.2 d0 d1, dyF_at ρ d0 d1])
theorem eR_hi {ρ : Sg} (hV : MC ρ) {c e : Int} (hc : 0 ≤ c ∧ c < ρ 2 0) (h0 : 0 ≤ e) (h1 : e < ρ 8 0) : -4000 ≤ eR ρ c e ∧ eR ρ c e ≤ 4000 := by
  obtain ⟨v0, v1, v2, v8, v16, v24, v39, vC, vE, vJ, vK, vB, vO⟩ := id hV
  have C := vC c hc.1 hc.2
  exact rdO_hi (N := (ρ 8 0).toNat) (by omega) C.1 (fun x x0 x1 => secS_b hV x0 (by omega)) h0 (by omega)
set_option maxRecDepth 100000 in
set_option maxHeartbeats 4000000 in
theorem mX8_addEntryLines (l : Launch) (G : GG) (N0 : Nat) (h : Hp) (g : Int → Nat) (ρ ρ1 : Sg) (c9 : Int) (a0 : Nat) (hV : MC ρ) (hc : 0 ≤ c9 ∧ c9 < ρ 2 0) (h16 : ρ 16 0 < 8) (hJ : IJ G g ρ c9 ([]) a0 ρ1 h) (hO : OT ρ c9 0) (h5 : ¬ ρ 5 c9 = 100) : Ct l G N0 yX8_addEntryLines (Cond.code yX8_addEntryLines cX8_addEntryLines 4 none :: LW) ({ frames := 9, cells := 48, slots := 2496, locals := 520 }) [vR (g 0), vR a0] h (fun r h' => r = none ∧ ∃ r9, IJ G g ρ c9 (ivE ρ c9) a0 r9 h') := by
  refine ct_of rfl rfl ?_
  intro p e s m args below meth c F hr hnm
  have F : Fx p s m args meth c RX8 cX8_addEntryLines 4 G N0 (cA h s.heap.size) := F
  obtain ⟨v0, v1, v2, v8, v16, v24, v39, vC, vE, vJ, vK, vB, vO⟩ := id hV
  have hH := hV.ih hc h16
  have hI := hJ.ci hH
  have C9 := vC c9 hc.1 hc.2
  have hm9 := hO.1.1
  obtain ⟨Q, hQ⟩ : ∃ z, z = MQ below (cQc G N0 h s.heap.size (fun r h' => r = none ∧ ∃ r9, IJ G g ρ c9 (ivE ρ c9) a0 r9 h')) args s 48 2496 (cA h s.heap.size) := ⟨_, rfl⟩
  rw [← hQ]
  show Z _ _ _ _ _ _ _ _ _ _ _ _ _ _ _ _ _ _ _ [(0, vR (g 0)), (1, vR a0)] []
  refine z_iconst F dX8_addEntryLines_0 ?_
  refine z_istore_n (lv' := [(2, vI 0), (0, vR (g 0)), (1, vR a0)]) F dX8_addEntryLines_1 rfl (by decide) rfl ?_
  refine z_widen (k' := 2 * (0 : Int).toNat) (n' := 104 * (0 : Int).toNat) (by (try simp only []); omega) (by (try simp only []); omega) ?_
  have L2 : ∀ (fuel : Nat) (i9 : Int) (h8 : Hp) (a9 : Sg), (IJ G g ρ c9 (eP (eR ρ c9) (ρ 35) i9.toNat) a0 a9 h8) → (0 ≤ i9 ∧ i9 ≤ ρ 36 0) → ρ 36 0 - i9 < (fuel : Int) → Z p l e ({ frames := 9, cells := 48, slots := 2496, locals := 520 }) s m args below meth c 4 G N0 (cA h s.heap.size) Q h8 (2 * i9.toNat) (104 * i9.toNat) 2 [(2, vI i9), (0, vR (g 0)), (1, vR a0)] [] := by
    intro fuel
    induction fuel with
    | zero => intro i9 h8  a9  hJ8 ha hm; exact absurd hm (by omega)
    | succ fuel ih2 =>
      intro i9 h8  a9  hJ8 ha hm
      have hI8 := hJ8.ci hH
      have hA8 : h8 a0 = some (eO 8 [vR (aC ρ c9), vR (aL a9 (ρ 16 0)), vI (a9 31 (ρ 16 0)), vF (fb (a9 23 (ρ 16 0)))]) := hJ8.obj hH
      have hP9 := hO.ow (q := i9) ha.1
      refine z_iload_n F dX8_addEntryLines_2 rfl 0 rfl ?_
      refine z_aload_n F dX8_addEntryLines_3 rfl 1 rfl ?_
      refine z_get (v := vR (g 6)) F (ci_0 hI8) fX8_33 rfl dX8_addEntryLines_4 ?_
      refine z_get (v := vR (g 17)) F (ci_6 hI8) fX8_251 rfl dX8_addEntryLines_7 ?_
      refine z_callV (As := []) (st := [vI i9]) F (mJx4a65c_size_8abf5 l G N0 h8 (g 17) ((ρ 40 4).toNat) 0 (ρ 32 4) (ρ 36 0) (fun _ => none) (ci_17 hI8)) cvX8_90 (ci_17 hI8) (fun r9 h9 => by cases h9; rfl) rfl rfl ⟨Nat.le_of_ble_eq_true rfl, Nat.le_of_ble_eq_true rfl⟩ rfl ⟨by (try simp only []); omega, by (try simp only []); omega⟩ dX8_addEntryLines_10 ?_
      rintro _ h9 ⟨rfl, hh9⟩
      rw [hh9]
      clear hh9 h9
      show Z _ _ _ _ _ _ _ _ _ _ _ _ _ _ _ _ _ _ _ _ [vI (ρ 36 0), vI i9]
      refine z_icmp_ge (tgt := 55) F dX8_addEntryLines_13 (by decide) (by omega) (by omega) (fun c13 => ?_) (fun c13 => ?_)
      · rw [hQ]
        exact z_vret F hr (by (try simp only []); omega) (by (try simp only []); omega) dX8_addEntryLines_55 (⟨rfl, a9, by rw [hO.ivE hV h5, show ρ 36 0 = i9 by omega]; exact hJ8⟩)
      · have hw9 := hO.ow (q := i9) ha.1 (by omega)
        refine z_aload_n F dX8_addEntryLines_16 rfl 1 rfl ?_
        refine z_get (v := vR (g 6)) F (ci_0 hI8) fX8_33 rfl dX8_addEntryLines_17 ?_
        refine z_get (v := vR (g 17)) F (ci_6 hI8) fX8_251 rfl dX8_addEntryLines_20 ?_
        refine z_iload_n F dX8_addEntryLines_23 rfl 0 rfl ?_
        refine z_callV (As := [vI i9]) (st := []) F (cGet4 l G N0 h8 g ρ i9 hI8 (show 0 ≤ i9 ∧ i9 < ρ 36 0 from by omega)) cvX8_373 (ci_17 hI8) (fun r9 h9 => by cases h9; rfl) rfl rfl ⟨Nat.le_of_ble_eq_true rfl, Nat.le_of_ble_eq_true rfl⟩ rfl ⟨by (try simp only []); omega, by (try simp only []); omega⟩ dX8_addEntryLines_24 ?_
        rintro _ h9 ⟨rfl, hh9⟩
        rw [hh9]
        clear hh9 h9
        show Z _ _ _ _ _ _ _ _ _ _ _ _ _ _ _ _ _ _ _ _ [vR (aE ρ (ρ 35 i9))]
        refine z_cast F (ci_e hI8 (show 0 ≤ ρ 35 i9 ∧ ρ 35 i9 < ρ 8 0 ∧ ρ 35 i9 < 100 from by omega)) q237 (fun r9 h9 => by cases h9; rfl) dX8_addEntryLines_27 ?_
        refine z_get (v := vI (ρ 35 i9)) F (ci_e hI8 (show 0 ≤ ρ 35 i9 ∧ ρ 35 i9 < ρ 8 0 ∧ ρ 35 i9 < 100 from by omega)) fX8_187 rfl dX8_addEntryLines_30 ?_
        refine z_istore_n (lv' := [(3, vI (ρ 35 i9)), (2, vI i9), (0, vR (g 0)), (1, vR a0)]) F dX8_addEntryLines_33 rfl (by decide) rfl ?_
        refine z_aload_n F dX8_addEntryLines_34 rfl 3 rfl ?_
        refine z_bipush F dX8_addEntryLines_35 (by decide) ?_
        refine z_aload_n F dX8_addEntryLines_37 rfl 2 rfl ?_
        refine z_get (v := vR (g 6)) F (ci_0 hI8) fX8_33 rfl dX8_addEntryLines_38 ?_
        refine z_iload_n F dX8_addEntryLines_41 rfl 1 rfl ?_
        refine z_callV (As := [vI i9]) (st := [vI 101, vR a0]) F (mX5_minutesAt l G N0 h8 g ρ c9 0 i9 hI8 hV hO hc (show 0 ≤ i9 ∧ i9 < ρ 36 0 from by omega)) cvX8_225 (ci_6 hI8) (fun r9 h9 => by cases h9; rfl) rfl rfl ⟨Nat.le_of_ble_eq_true rfl, Nat.le_of_ble_eq_true rfl⟩ rfl ⟨by (try simp only []); omega, by (try simp only []); omega⟩ dX8_addEntryLines_42 ?_
        rintro _ h9 ⟨rfl, hh9⟩
        rw [hh9]
        clear hh9 h9
        show Z _ _ _ _ _ _ _ _ _ _ _ _ _ _ _ _ _ _ _ _ [vI (mAt ρ c9 i9), vI 101, vR a0]
        have hm8 := hO.mAts hV (q := i9) ha.1 (by omega)
        have hr8 := eR_hi hV hc hw9.1.1 hw9.1.2
        have hx8 : mAt ρ c9 i9 = eR ρ c9 (ρ 35 i9) := hm8
        refine z_iload_n F dX8_addEntryLines_45 rfl 0 rfl ?_
        refine z_callV (As := [vI 101, vI (mAt ρ c9 i9), vI (ρ 35 i9)]) (st := []) F (cLine l N0 hJ8 hH (by rw [eP_len]; omega) (by rw [hx8]; omega)) cvX8_407 hA8 (fun r9 h9 => by cases h9; rfl) rfl rfl ⟨Nat.le_of_ble_eq_true rfl, Nat.le_of_ble_eq_true rfl⟩ rfl ⟨by (try simp only []); omega, by (try simp only []); omega⟩ dX8_addEntryLines_46 ?_
        rintro _ h6 ⟨rfl, r6, J6⟩
        have I6 := J6.ci hH
        show Z _ _ _ _ _ _ _ _ _ _ _ _ _ _ _ _ _ _ _ _ []
        refine z_iinc (lv' := [(2, vI (i9 + 1)), (3, vI (ρ 35 i9)), (0, vR (g 0)), (1, vR a0)]) F dX8_addEntryLines_49 1 rfl (by decide) rfl ?_
        refine z_goto (tgt := 2) F dX8_addEntryLines_52 (by decide) ?_
        refine z_widen (k' := 2 * (i9 + 1).toNat) (n' := 104 * (i9 + 1).toNat) (by (try simp only []); omega) (by (try simp only []); omega) ?_
        refine z_pick (lv' := [(2, vI (i9 + 1)), (0, vR (g 0)), (1, vR a0)]) [0, 2, 3] rfl ?_
        refine z_widen (k' := 2 * (i9 + 1).toNat) (n' := 104 * (i9 + 1).toNat) (by (try simp only []); omega) (by (try simp only []); omega) ?_
        exact ih2 (i9 + 1) h6 r6 (by
          rw [eP_s _ _ ha.1, ← hx8]
          exact J6) (by omega) (by omega)
  exact L2 ((ρ 36 0 - 0 : Int).toNat + 1) 0 h ρ1 (hJ) (by omega) (by omega)
set_option maxRecDepth 100000 in
set_option maxHeartbeats 4000000 in
theorem mX8_addDayLines (l : Launch) (G : GG) (N0 : Nat) (h : Hp) (g : Int → Nat) (ρ ρ1 : Sg) (c9 : Int) (a0 : Nat) (hV : MC ρ) (hc : 0 ≤ c9 ∧ c9 < ρ 2 0) (h16 : ρ 16 0 < 8) (hJ : IJ G g ρ c9 ([]) a0 ρ1 h) (hO : OT ρ c9 0) (h5 : ρ 5 c9 = 100) : Ct l G N0 yX8_addDayLines (Cond.code yX8_addDayLines cX8_addDayLines 4 none :: LW) ({ frames := 9, cells := 10, slots := 520, locals := 520 }) [vR (g 0), vR a0] h (fun r h' => r = none ∧ ∃ r9, IJ G g ρ c9 (ivE ρ c9) a0 r9 h') := by
  refine ct_of rfl rfl ?_
  intro p e s m args below meth c F hr hnm
  have F : Fx p s m args meth c RX8 cX8_addDayLines 4 G N0 (cA h s.heap.size) := F
  obtain ⟨v0, v1, v2, v8, v16, v24, v39, vC, vE, vJ, vK, vB, vO⟩ := id hV
  have hH := hV.ih hc h16
  have hI := hJ.ci hH
  have C9 := vC c9 hc.1 hc.2
  have hm9 := hO.1.1
  obtain ⟨Q, hQ⟩ : ∃ z, z = MQ below (cQc G N0 h s.heap.size (fun r h' => r = none ∧ ∃ r9, IJ G g ρ c9 (ivE ρ c9) a0 r9 h')) args s 10 520 (cA h s.heap.size) := ⟨_, rfl⟩
  rw [← hQ]
  show Z _ _ _ _ _ _ _ _ _ _ _ _ _ _ _ _ _ _ _ [(0, vR (g 0)), (1, vR a0)] []
  refine z_iconst F dX8_addDayLines_0 ?_
  refine z_istore_n (lv' := [(2, vI 0), (0, vR (g 0)), (1, vR a0)]) F dX8_addDayLines_1 rfl (by decide) rfl ?_
  refine z_widen (k' := 2 * (0 : Int).toNat) (n' := 104 * (0 : Int).toNat) (by (try simp only []); omega) (by (try simp only []); omega) ?_
  have L2 : ∀ (fuel : Nat) (d9 : Int) (h8 : Hp) (a9 : Sg), (IJ G g ρ c9 (dLn (ρ 9) (ρ 12) (dyF ρ) (ρ 3 c9) (ρ 4 c9) c9 (ρ 8 0).toNat d9.toNat) a0 a9 h8) → (0 ≤ d9 ∧ d9 ≤ 5) → 5 - d9 < (fuel : Int) → Z p l e ({ frames := 9, cells := 10, slots := 520, locals := 520 }) s m args below meth c 4 G N0 (cA h s.heap.size) Q h8 (2 * d9.toNat) (104 * d9.toNat) 2 [(2, vI d9), (0, vR (g 0)), (1, vR a0)] [] := by
    intro fuel
    induction fuel with
    | zero => intro d9 h8  a9  hJ8 ha hm; exact absurd hm (by omega)
    | succ fuel ih2 =>
      intro d9 h8  a9  hJ8 ha hm
      have hI8 := hJ8.ci hH
      have hA8 : h8 a0 = some (eO 8 [vR (aC ρ c9), vR (aL a9 (ρ 16 0)), vI (a9 31 (ρ 16 0)), vF (fb (a9 23 (ρ 16 0)))]) := hJ8.obj hH
      have hl8 := dLn_len (ρ 9) (ρ 12) (dyF ρ) (ρ 3 c9) (ρ 4 c9) c9 (ρ 8 0).toNat d9.toNat
      refine z_iload_n F dX8_addDayLines_2 rfl 0 rfl ?_
      refine z_iconst F dX8_addDayLines_3 ?_
      refine z_icmp_ge (tgt := 41) F dX8_addDayLines_4 (by decide) (by omega) (by decide) (fun c4 => ?_) (fun c4 => ?_)
      · rw [hQ]
        exact z_vret F hr (by (try simp only []); omega) (by (try simp only []); omega) dX8_addDayLines_41 (⟨rfl, a9, by
          unfold ivE
          rw [if_pos h5]
          rw [show d9 = 5 by omega] at hJ8
          exact hJ8⟩)
      · refine z_aload_n F dX8_addDayLines_7 rfl 1 rfl ?_
        refine z_get (v := vR (g 6)) F (ci_0 hI8) fX8_33 rfl dX8_addDayLines_8 ?_
        refine z_iload_n F dX8_addDayLines_11 rfl 0 rfl ?_
        refine z_callV (As := [vI d9]) (st := []) F (mX5_secondsInDay l G N0 h8 g ρ c9 0 d9 hI8 hV hO hc (by omega)) cvX8_411 (ci_6 hI8) (fun r9 h9 => by cases h9; rfl) rfl rfl ⟨Nat.le_of_ble_eq_true rfl, Nat.le_of_ble_eq_true rfl⟩ rfl ⟨by (try simp only []); omega, by (try simp only []); omega⟩ dX8_addDayLines_12 ?_
        rintro _ h9 ⟨rfl, hh9⟩
        rw [hh9]
        clear hh9 h9
        have hds := hO.dsum hV (d := d9) (by omega) (by omega)
        show Z _ _ _ _ _ _ _ _ _ _ _ _ _ _ _ _ _ _ _ _ [vI (sumI (fun x => ρ 14 (5 * ρ 35 x + d9)) 0 (ρ 36 0).toNat)]
        refine z_istore_n (lv' := [(3, vI (sumI (fun x => ρ 14 (5 * ρ 35 x + d9)) 0 (ρ 36 0).toNat)), (2, vI d9), (0, vR (g 0)), (1, vR a0)]) F dX8_addDayLines_15 rfl (by decide) rfl ?_
        refine z_iload_n F dX8_addDayLines_16 rfl 0 rfl ?_
        refine z_if_le (tgt := 35) F dX8_addDayLines_17 (by decide) (by omega) (fun c17 => ?_) (fun c17 => ?_)
        · refine z_iinc (lv' := [(2, vI (d9 + 1)), (3, vI (sumI (fun x => ρ 14 (5 * ρ 35 x + d9)) 0 (ρ 36 0).toNat)), (0, vR (g 0)), (1, vR a0)]) F dX8_addDayLines_35 1 rfl (by decide) rfl ?_
          refine z_goto (tgt := 2) F dX8_addDayLines_38 (by decide) ?_
          refine z_widen (k' := 2 * (d9 + 1).toNat) (n' := 104 * (d9 + 1).toNat) (by (try simp only []); omega) (by (try simp only []); omega) ?_
          refine z_pick (lv' := [(2, vI (d9 + 1)), (0, vR (g 0)), (1, vR a0)]) [0, 2, 3] rfl ?_
          refine z_widen (k' := 2 * (d9 + 1).toNat) (n' := 104 * (d9 + 1).toNat) (by (try simp only []); omega) (by (try simp only []); omega) ?_
          exact ih2 (d9 + 1) h8 a9 (by
            have hy8 := hO.dyE hV (d := d9) ha.1 (by omega)
            rw [dLn_s _ _ _ _ _ _ _ ha.1, ← hy8, if_neg (by omega), List.append_nil]
            exact hJ8) (by omega) (by omega)
        · refine z_aload_n F dX8_addDayLines_20 rfl 3 rfl ?_
          refine z_bipush F dX8_addDayLines_21 (by decide) ?_
          refine z_aload_n F dX8_addDayLines_23 rfl 3 rfl ?_
          refine z_get (v := vR (aC ρ c9)) F hA8 fX8_414 rfl dX8_addDayLines_24 ?_
          refine z_iload_n F dX8_addDayLines_27 rfl 0 rfl ?_
          refine z_callV (As := [vI (sumI (fun x => ρ 14 (5 * ρ 35 x + d9)) 0 (ρ 36 0).toNat)]) (st := [vI 100, vR a0]) F (mX0_roundSeconds l G N0 h8 (aC ρ c9) c9 (ρ 3 c9) (ρ 4 c9) (ρ 5 c9) (ρ 6 c9) (ρ 7 c9) (sumI (fun x => ρ 14 (5 * ρ 35 x + d9)) 0 (ρ 36 0).toNat) (ci_c hI8 (show 0 ≤ c9 ∧ c9 < ρ 2 0 ∧ c9 < 100 from by omega)) (by omega) (by omega) (by omega)) cvX8_415 (ci_c hI8 (show 0 ≤ c9 ∧ c9 < ρ 2 0 ∧ c9 < 100 from by omega)) (fun r9 h9 => by cases h9; rfl) rfl rfl ⟨Nat.le_of_ble_eq_true rfl, Nat.le_of_ble_eq_true rfl⟩ rfl ⟨by (try simp only []); omega, by (try simp only []); omega⟩ dX8_addDayLines_28 ?_
          rintro _ h9 ⟨rfl, hh9⟩
          rw [hh9]
          clear hh9 h9
          show Z _ _ _ _ _ _ _ _ _ _ _ _ _ _ _ _ _ _ _ _ [vI (rndS (ρ 3 c9) (ρ 4 c9) (sumI (fun x => ρ 14 (5 * ρ 35 x + d9)) 0 (ρ 36 0).toNat)), vI 100, vR a0]
          have hd8 := rndS_hi (u := ρ 3 c9) (mo := ρ 4 c9) (s := sumI (fun x => ρ 14 (5 * ρ 35 x + d9)) 0 (ρ 36 0).toNat) C9.1 (by omega)
          refine z_iload_n F dX8_addDayLines_31 rfl 1 rfl ?_
          refine z_callV (As := [vI 100, vI (rndS (ρ 3 c9) (ρ 4 c9) (sumI (fun x => ρ 14 (5 * ρ 35 x + d9)) 0 (ρ 36 0).toNat)), vI d9]) (st := []) F (cLine l N0 hJ8 hH (by omega) (by omega)) cvX8_407 hA8 (fun r9 h9 => by cases h9; rfl) rfl rfl ⟨Nat.le_of_ble_eq_true rfl, Nat.le_of_ble_eq_true rfl⟩ rfl ⟨by (try simp only []); omega, by (try simp only []); omega⟩ dX8_addDayLines_32 ?_
          rintro _ h6 ⟨rfl, r6, J6⟩
          have I6 := J6.ci hH
          show Z _ _ _ _ _ _ _ _ _ _ _ _ _ _ _ _ _ _ _ _ []
          refine z_iinc (lv' := [(2, vI (d9 + 1)), (3, vI (sumI (fun x => ρ 14 (5 * ρ 35 x + d9)) 0 (ρ 36 0).toNat)), (0, vR (g 0)), (1, vR a0)]) F dX8_addDayLines_35 1 rfl (by decide) rfl ?_
          refine z_goto (tgt := 2) F dX8_addDayLines_38 (by decide) ?_
          refine z_widen (k' := 2 * (d9 + 1).toNat) (n' := 104 * (d9 + 1).toNat) (by (try simp only []); omega) (by (try simp only []); omega) ?_
          refine z_pick (lv' := [(2, vI (d9 + 1)), (0, vR (g 0)), (1, vR a0)]) [0, 2, 3] rfl ?_
          refine z_widen (k' := 2 * (d9 + 1).toNat) (n' := 104 * (d9 + 1).toNat) (by (try simp only []); omega) (by (try simp only []); omega) ?_
          exact ih2 (d9 + 1) h6 r6 (by
            have hy8 := hO.dyE hV (d := d9) ha.1 (by omega)
            rw [dLn_s _ _ _ _ _ _ _ ha.1, ← hy8, if_pos (by omega)]
            exact J6) (by omega) (by omega)
  exact L2 ((5 - 0 : Int).toNat + 1) 0 h ρ1 (hJ) (by omega) (by omega)
set_option maxRecDepth 100000 in
set_option maxHeartbeats 4000000 in
theorem mX8_addCorrectionLines (l : Launch) (G : GG) (N0 : Nat) (h : Hp) (g : Int → Nat) (ρ ρ1 : Sg) (c9 : Int) (a0 : Nat) (L0 : List Ln) (hV : MC ρ) (hc : 0 ≤ c9 ∧ c9 < ρ 2 0) (h16 : ρ 16 0 < 8) (hJ : IJ G g ρ c9 L0 a0 ρ1 h) (hL0 : L0.length ≤ 24) : Ct l G N0 yX8_addCorrectionLines (Cond.code yX8_addCorrectionLines cX8_addCorrectionLines 4 none :: LW) ({ frames := 9, cells := 32, slots := 1664, locals := 520 }) [vR (g 0), vR a0] h (fun r h' => r = none ∧ ∃ r9, IJ G g (sw ρ 27 (bl27 ρ c9 (ρ 24 0))) c9 (L0 ++ cLn (ρ 27) (ρ 9) (ρ 25) (ρ 26) c9 (ρ 24 0).toNat) a0 r9 h') := by
  refine ct_of rfl rfl ?_
  intro p e s m args below meth c F hr hnm
  have F : Fx p s m args meth c RX8 cX8_addCorrectionLines 4 G N0 (cA h s.heap.size) := F
  obtain ⟨v0, v1, v2, v8, v16, v24, v39, vC, vE, vJ, vK, vB, vO⟩ := id hV
  have hH := hV.ih hc h16
  have hI := hJ.ci hH
  have C9 := vC c9 hc.1 hc.2
  obtain ⟨Q, hQ⟩ : ∃ z, z = MQ below (cQc G N0 h s.heap.size (fun r h' => r = none ∧ ∃ r9, IJ G g (sw ρ 27 (bl27 ρ c9 (ρ 24 0))) c9 (L0 ++ cLn (ρ 27) (ρ 9) (ρ 25) (ρ 26) c9 (ρ 24 0).toNat) a0 r9 h')) args s 32 1664 (cA h s.heap.size) := ⟨_, rfl⟩
  rw [← hQ]
  show Z _ _ _ _ _ _ _ _ _ _ _ _ _ _ _ _ _ _ _ [(0, vR (g 0)), (1, vR a0)] []
  refine z_iconst F dX8_addCorrectionLines_0 ?_
  refine z_istore_n (lv' := [(2, vI 0), (0, vR (g 0)), (1, vR a0)]) F dX8_addCorrectionLines_1 rfl (by decide) rfl ?_
  refine z_widen (k' := 2 * (0 : Int).toNat) (n' := 104 * (0 : Int).toNat) (by (try simp only []); omega) (by (try simp only []); omega) ?_
  have L2 : ∀ (fuel : Nat) (i9 : Int) (h8 : Hp) (a9 : Sg), (IJ G g (sw ρ 27 (bl27 ρ c9 i9)) c9 (L0 ++ cLn (ρ 27) (ρ 9) (ρ 25) (ρ 26) c9 i9.toNat) a0 a9 h8) → (0 ≤ i9 ∧ i9 ≤ ρ 24 0) → ρ 24 0 - i9 < (fuel : Int) → Z p l e ({ frames := 9, cells := 32, slots := 1664, locals := 520 }) s m args below meth c 4 G N0 (cA h s.heap.size) Q h8 (2 * i9.toNat) (104 * i9.toNat) 2 [(2, vI i9), (0, vR (g 0)), (1, vR a0)] [] := by
    intro fuel
    induction fuel with
    | zero => intro i9 h8  a9  hJ8 ha hm; exact absurd hm (by omega)
    | succ fuel ih2 =>
      intro i9 h8  a9  hJ8 ha hm
      have hI8 := hJ8.ci (show IH (sw ρ 27 (bl27 ρ c9 i9)) c9 from hH)
      have hA8 : h8 a0 = some (eO 8 [vR (aC ρ c9), vR (aL a9 (ρ 16 0)), vI (a9 31 (ρ 16 0)), vF (fb (a9 23 (ρ 16 0)))]) := hJ8.obj (show IH (sw ρ 27 (bl27 ρ c9 i9)) c9 from hH)
      have hl8 := cLn_len (ρ 27) (ρ 9) (ρ 25) (ρ 26) c9 i9.toNat
      have hb8 := bl27_n ρ c9 i9
      have hV8 := MC_27 hV c9 (n := i9) (by omega)
      have hz8 : (L0 ++ cLn (ρ 27) (ρ 9) (ρ 25) (ρ 26) c9 i9.toNat).length = L0.length + (cLn (ρ 27) (ρ 9) (ρ 25) (ρ 26) c9 i9.toNat).length := List.length_append
      refine z_iload_n F dX8_addCorrectionLines_2 rfl 0 rfl ?_
      refine z_aload_n F dX8_addCorrectionLines_3 rfl 1 rfl ?_
      refine z_get (v := vR (g 11)) F (ci_0 (ρ := (sw ρ 27 (bl27 ρ c9 i9))) hI8) fX8_47 rfl dX8_addCorrectionLines_4 ?_
      refine z_callV (As := []) (st := [vI i9]) F (mJx4a65c_size_8abf5 l G N0 h8 (g 11) ((ρ 40 2).toNat) 0 (ρ 32 2) (ρ 24 0) (fun _ => none) (ci_11 (ρ := (sw ρ 27 (bl27 ρ c9 i9))) hI8)) cvX8_90 (ci_11 (ρ := (sw ρ 27 (bl27 ρ c9 i9))) hI8) (fun r9 h9 => by cases h9; rfl) rfl rfl ⟨Nat.le_of_ble_eq_true rfl, Nat.le_of_ble_eq_true rfl⟩ rfl ⟨by (try simp only []); omega, by (try simp only []); omega⟩ dX8_addCorrectionLines_7 ?_
      rintro _ h9 ⟨rfl, hh9⟩
      rw [hh9]
      clear hh9 h9
      show Z _ _ _ _ _ _ _ _ _ _ _ _ _ _ _ _ _ _ _ _ [vI (ρ 24 0), vI i9]
      refine z_icmp_ge (tgt := 64) F dX8_addCorrectionLines_10 (by decide) (by omega) (by omega) (fun c10 => ?_) (fun c10 => ?_)
      · rw [hQ]
        exact z_vret F hr (by (try simp only []); omega) (by (try simp only []); omega) dX8_addCorrectionLines_64 (⟨rfl, a9, by rw [show ρ 24 0 = i9 by omega]; exact hJ8⟩)
      · have K9 := vK i9 ha.1 (by omega)
        have E9 := vE (ρ 25 i9) (by omega) (by omega)
        refine z_aload_n F dX8_addCorrectionLines_13 rfl 1 rfl ?_
        refine z_get (v := vR (g 11)) F (ci_0 (ρ := (sw ρ 27 (bl27 ρ c9 i9))) hI8) fX8_47 rfl dX8_addCorrectionLines_14 ?_
        refine z_iload_n F dX8_addCorrectionLines_17 rfl 0 rfl ?_
        refine z_callV (As := [vI i9]) (st := []) F (cGet2 l G N0 h8 g (sw ρ 27 (bl27 ρ c9 i9)) i9 hI8 (show 0 ≤ i9 ∧ i9 < ρ 24 0 from by omega)) cvX8_373 (ci_11 (ρ := (sw ρ 27 (bl27 ρ c9 i9))) hI8) (fun r9 h9 => by cases h9; rfl) rfl rfl ⟨Nat.le_of_ble_eq_true rfl, Nat.le_of_ble_eq_true rfl⟩ rfl ⟨by (try simp only []); omega, by (try simp only []); omega⟩ dX8_addCorrectionLines_18 ?_
        rintro _ h9 ⟨rfl, hh9⟩
        rw [hh9]
        clear hh9 h9
        show Z _ _ _ _ _ _ _ _ _ _ _ _ _ _ _ _ _ _ _ _ [vR (aK ρ i9)]
        refine z_cast F (ci_k (ρ := (sw ρ 27 (bl27 ρ c9 i9))) hI8 (show 0 ≤ i9 ∧ i9 < ρ 24 0 ∧ i9 < 100 from by omega)) q695 (fun r9 h9 => by cases h9; rfl) dX8_addCorrectionLines_21 ?_
        refine z_astore_n (lv' := [(3, vR (aK ρ i9)), (2, vI i9), (0, vR (g 0)), (1, vR a0)]) F dX8_addCorrectionLines_24 rfl (by decide) rfl ?_
        refine z_aload_n F dX8_addCorrectionLines_25 rfl 0 rfl ?_
        refine z_aload_n F dX8_addCorrectionLines_26 rfl 3 rfl ?_
        refine z_get (v := vR (aC ρ c9)) F hA8 fX8_414 rfl dX8_addCorrectionLines_27 ?_
        refine z_callV (As := [vR (aC ρ c9)]) (st := []) F (mX1_waitsFor l G N0 h8 g (sw ρ 27 (bl27 ρ c9 i9)) i9 c9 hI8 hV8 (show 0 ≤ i9 ∧ i9 < ρ 24 0 from by omega) (show 0 ≤ c9 ∧ c9 < ρ 2 0 from hc)) cvX8_418 (ci_k (ρ := (sw ρ 27 (bl27 ρ c9 i9))) hI8 (show 0 ≤ i9 ∧ i9 < ρ 24 0 ∧ i9 < 100 from by omega)) (fun r9 h9 => by cases h9; rfl) rfl rfl ⟨Nat.le_of_ble_eq_true rfl, Nat.le_of_ble_eq_true rfl⟩ rfl ⟨by (try simp only []); omega, by (try simp only []); omega⟩ dX8_addCorrectionLines_30 ?_
        rintro _ h9 ⟨rfl, hh9⟩
        rw [hh9]
        clear hh9 h9
        show Z _ _ _ _ _ _ _ _ _ _ _ _ _ _ _ _ _ _ _ _ [vI (if (bl27 ρ c9 i9) i9 = 0 ∧ ρ 9 (ρ 25 i9) = c9 then 1 else 0)]
        generalize ex1 : (if (bl27 ρ c9 i9) i9 = 0 ∧ ρ 9 (ρ 25 i9) = c9 then (1 : Int) else 0) = x1
        show Z _ _ _ _ _ _ _ _ _ _ _ _ _ _ _ _ _ _ _ _ [vI x1]
        refine z_if_eq (tgt := 58) F dX8_addCorrectionLines_33 (by decide) (by omega) (fun c33 => ?_) (fun c33 => ?_)
        · refine z_iinc (lv' := [(2, vI (i9 + 1)), (3, vR (aK ρ i9)), (0, vR (g 0)), (1, vR a0)]) F dX8_addCorrectionLines_58 1 rfl (by decide) rfl ?_
          refine z_goto (tgt := 2) F dX8_addCorrectionLines_61 (by decide) ?_
          refine z_widen (k' := 2 * (i9 + 1).toNat) (n' := 104 * (i9 + 1).toNat) (by (try simp only []); omega) (by (try simp only []); omega) ?_
          refine z_pick (lv' := [(2, vI (i9 + 1)), (0, vR (g 0)), (1, vR a0)]) [0, 2, 3] rfl ?_
          refine z_widen (k' := 2 * (i9 + 1).toNat) (n' := 104 * (i9 + 1).toNat) (by (try simp only []); omega) (by (try simp only []); omega) ?_
          exact ih2 (i9 + 1) h8 a9 (by
            rw [cLn_s _ _ _ _ _ ha.1, if_neg (by omega), List.append_nil]
            have e8 : bl27 ρ c9 (i9 + 1) = bl27 ρ c9 i9 := bl_skip (by omega)
            rw [e8]
            exact hJ8) (by omega) (by omega)
        · refine z_aload_n F dX8_addCorrectionLines_36 rfl 3 rfl ?_
          refine z_bipush F dX8_addCorrectionLines_37 (by decide) ?_
          refine z_aload_n F dX8_addCorrectionLines_39 rfl 0 rfl ?_
          refine z_get (v := vI (ρ 26 i9)) F (ci_k (ρ := (sw ρ 27 (bl27 ρ c9 i9))) hI8 (show 0 ≤ i9 ∧ i9 < ρ 24 0 ∧ i9 < 100 from by omega)) fX8_421 rfl dX8_addCorrectionLines_40 ?_
          refine z_aload_n F dX8_addCorrectionLines_43 rfl 0 rfl ?_
          refine z_get (v := vR (aE ρ (ρ 25 i9))) F (ci_k (ρ := (sw ρ 27 (bl27 ρ c9 i9))) hI8 (show 0 ≤ i9 ∧ i9 < ρ 24 0 ∧ i9 < 100 from by omega)) fX8_422 rfl dX8_addCorrectionLines_44 ?_
          refine z_get (v := vI (ρ 25 i9)) F (ci_e (ρ := (sw ρ 27 (bl27 ρ c9 i9))) hI8 (show 0 ≤ ρ 25 i9 ∧ ρ 25 i9 < ρ 8 0 ∧ ρ 25 i9 < 100 from by omega)) fX8_187 rfl dX8_addCorrectionLines_47 ?_
          refine z_callV (As := [vI 99, vI (ρ 26 i9), vI (ρ 25 i9)]) (st := []) F (cLine l N0 hJ8 (show IH (sw ρ 27 (bl27 ρ c9 i9)) c9 from hH) (by omega) (by omega)) cvX8_407 hA8 (fun r9 h9 => by cases h9; rfl) rfl rfl ⟨Nat.le_of_ble_eq_true rfl, Nat.le_of_ble_eq_true rfl⟩ rfl ⟨by (try simp only []); omega, by (try simp only []); omega⟩ dX8_addCorrectionLines_50 ?_
          rintro _ h6 ⟨rfl, r6, J6⟩
          have I6 := J6.ci (show IH (sw ρ 27 (bl27 ρ c9 i9)) c9 from hH)
          show Z _ _ _ _ _ _ _ _ _ _ _ _ _ _ _ _ _ _ _ _ []
          refine z_aload_n F dX8_addCorrectionLines_53 rfl 0 rfl ?_
          refine z_iconst F dX8_addCorrectionLines_54 ?_
          obtain ⟨h2, eh2, Ih2⟩ : ∃ z : Hp, hu h6 (aK ρ i9) (eO 6 [vR (aE ρ (ρ 25 i9)), vI (ρ 26 i9), vI 1]) = z ∧ CI G g (su (sw ρ 27 (bl27 ρ c9 i9)) 27 i9 1) z := ⟨_, rfl, cP27 I6 (show 0 ≤ i9 ∧ i9 < ρ 24 0 ∧ i9 < 100 from by omega) (by first | (simp [su, sw, fb_fi]; done) | (simp [su, sw, fb_fi]; rfl) | (simp [su, sw, fb_fi]; exact ⟨rfl, rfl⟩))⟩
          refine z_put (fs := [vR (aE ρ (ρ 25 i9)), vI (ρ 26 i9), vI ((bl27 ρ c9 i9) i9)]) (fs' := [vR (aE ρ (ρ 25 i9)), vI (ρ 26 i9), vI 1]) (h' := h2) F (ci_k (ρ := (sw ρ 27 (bl27 ρ c9 i9))) I6 (show 0 ≤ i9 ∧ i9 < ρ 24 0 ∧ i9 < 100 from by omega)) fX8_426 ftX1_2 (nf_z (by omega)) (Nat.le_of_ble_eq_true rfl) rfl dX8_addCorrectionLines_55 eh2 ?_
          refine z_iinc (lv' := [(2, vI (i9 + 1)), (3, vR (aK ρ i9)), (0, vR (g 0)), (1, vR a0)]) F dX8_addCorrectionLines_58 1 rfl (by decide) rfl ?_
          refine z_goto (tgt := 2) F dX8_addCorrectionLines_61 (by decide) ?_
          refine z_widen (k' := 2 * (i9 + 1).toNat) (n' := 104 * (i9 + 1).toNat) (by (try simp only []); omega) (by (try simp only []); omega) ?_
          refine z_pick (lv' := [(2, vI (i9 + 1)), (0, vR (g 0)), (1, vR a0)]) [0, 2, 3] rfl ?_
          refine z_widen (k' := 2 * (i9 + 1).toNat) (n' := 104 * (i9 + 1).toNat) (by (try simp only []); omega) (by (try simp only []); omega) ?_
          exact ih2 (i9 + 1) h2 (su r6 27 i9 1) (by
            have J7 := J6.set27 (ρ := ρ) (i := i9) (by omega) rfl (bl27_s (ρ := ρ) (c := c9) (n := i9) ha.1 (by omega) (by omega))
            rw [cLn_s _ _ _ _ _ ha.1, if_pos (by omega), ← List.append_assoc]
            rw [← eh2]
            exact J7) (by omega) (by omega)
  exact L2 ((ρ 24 0 - 0 : Int).toNat + 1) 0 h ρ1 (by
    rw [bl27_0, show cLn (ρ 27) (ρ 9) (ρ 25) (ρ 26) c9 (0 : Int).toNat = [] from rfl, List.append_nil]
    exact hJ) (by omega) (by omega)
