theorem fuq (g : Int → Option Nat) (i : Int) (v : Option Nat) : fu (fun j => vQ (g j)) i (vQ v) = fun j => vQ (if j = i then v else g j) := by
  funext j
  unfold fu
  split <;> rfl
/-- a list: its object a, its array e0 (of N places; N = 0: the common empty one), n elements f -/
def LI (G : GG) (h : Hp) (a e0 N : Nat) (mc n : Int) (f : Int → Option Nat) : Prop := h a = some (eO 4 [vI mc, vR e0, vI n]) ∧ ((N = 0 ∧ n = 0 ∧ e0 = G.2.2 0) ∨ (h e0 = some (eA 5 N (fun j => vQ (f j))) ∧ 0 < N)) ∧ (0 ≤ n ∧ n ≤ N ∧ N ≤ 60) ∧ (∀ j, n ≤ j → f j = none) ∧ OB5 h f n
/-- behind an add of b -/
def PA (G : GG) (h : Hp) (a e0 N b : Nat) (mc n : Int) (f : Int → Option Nat) (h' : Hp) : Prop := ∃ e1 N1 f1, LI G h' a e1 N1 mc (n + 1) f1 ∧ (∀ j, 0 ≤ j → f1 j = if j = n then some b else f j) ∧ ((e1 = e0 ∧ N1 = N ∧ 0 < N) ∨ h e1 = none) ∧ (∀ x, x ≠ a → x ≠ e1 → h' x = h x) ∧ 0 < N1
theorem OB5.kept {h h' : Hp} {a e1 : Nat} {fs0 : List AV} {f : Int → Option Nat} {n : Int} (H : OB5 h f n) (hx : ∀ x, x ≠ a → x ≠ e1 → h' x = h x) (ha : h a = some (eO 4 fs0)) (he : h e1 = none ∨ ∃ M g, h e1 = some (eA 5 M g)) : OB5 h' f n := fun i h0 h1 y hy => by
  obtain ⟨ci, fs, g1, g2⟩ := H i h0 h1 y hy
  refine ⟨ci, fs, ?_, g2⟩
  rw [hx y ?_ ?_]
  · exact g1
  · intro z
    rw [z, ha] at g1
    cases g1
    exact absurd (g2 (RJx4a65c, TJx4a65c, 3) rfl) (by decide)
  · intro z
    rw [z] at g1
    rcases he with he | ⟨M, g, he⟩
    · rw [he] at g1; cases g1
    · rw [he] at g1; cases g1
theorem OB5.push {h : Hp} {f f1 : Int → Option Nat} {n : Int} {b cb : Nat} {fb : List AV} (H : OB5 h f n) (hb : h b = some (eO cb fb)) (hc : ∀ r : vw_C, kCl[cb]? = some r → (r.1, "java/lang/Object") ∈ castL) (h1 : ∀ j, 0 ≤ j → f1 j = if j = n then some b else f j) : OB5 h f1 (n + 1) := fun i q0 q1 y hy => by
  rw [h1 i q0] at hy
  by_cases w : i = n
  · rw [if_pos w] at hy
    cases hy
    exact ⟨cb, fb, hb, hc⟩
  · rw [if_neg w] at hy
    exact H i q0 (by omega) y hy
set_option maxRecDepth 100000 in
set_option maxHeartbeats 4000000 in
theorem mAddA2 (l : Launch) (G : GG) (N0 : Nat) (h : Hp) (a e0 N b cb : Nat) (fb : List AV) (mc n : Int) (f : Int → Option Nat) (ha : h a = some (eO 4 [vI mc, vR e0, vI n])) (he : h e0 = some (eA 5 N (fun j => vQ (f j)))) (hN : 0 ≤ n ∧ n < N ∧ N ≤ 60) (hz : ∀ j, n ≤ j → f j = none) (hO : OB5 h f n) (hb : h b = some (eO cb fb)) (hc : ∀ r : vw_C, kCl[cb]? = some r → (r.1, "java/lang/Object") ∈ castL) (hba : b ≠ a) : Ct l G N0 yJx4a65c_add_72be8 (Cond.code yJx4a65c_add_72be8 cJx4a65c_add_72be8 4 none :: LW) ({ frames := 5, cells := 1, slots := 100, locals := 300 }) [vR a, vR b, vR e0, vI n] h (fun r h' => r = none ∧ PA G h a e0 N b mc n f h') := by
  refine ct_of rfl rfl ?_
  intro p e s m args below meth c F hr hnm
  have F : Fx p s m args meth c RJx4a65c cJx4a65c_add_72be8 4 G N0 (cA h s.heap.size) := F
  have ne_bA : b ≠ e0 := fun z => by rw [z, he] at hb; cases hb
  show Z _ _ _ _ _ _ _ _ _ _ _ _ _ _ _ _ _ _ _ [(0, vR a), (1, vR b), (2, vR e0), (3, vI n)] []
  refine z_iload_n F dJx4a65c_add_72be8_0 rfl 3 rfl ?_
  refine z_aload_n F dJx4a65c_add_72be8_1 rfl 2 rfl ?_
  refine z_alen F he (by decide) dJx4a65c_add_72be8_2 ?_
  refine z_icmp_ne (tgt := 11) F dJx4a65c_add_72be8_3 (by decide) (by omega) (by omega) (fun c3 => ?_) (fun c3 => ?_)
  · refine z_aload_n F dJx4a65c_add_72be8_11 rfl 2 rfl ?_
    refine z_iload_n F dJx4a65c_add_72be8_12 rfl 3 rfl ?_
    refine z_aload_n F dJx4a65c_add_72be8_13 rfl 1 rfl ?_
    refine z_aastore (N := N) (f := fun j => vQ (f j)) F (he) (hb) hc (by omega) (by omega) (by omega) dJx4a65c_add_72be8_14 ?_
    rw [fuq]
    obtain ⟨h1, eh1⟩ : ∃ z : Hp, hu h e0 (eA 5 N (fun j => vQ (if j = n then some b else f j))) = z := ⟨_, rfl⟩
    rw [eh1]
    have g2 : h1 e0 = some (eA 5 N (fun j => vQ (if j = n then some b else f j))) := by rw [← eh1]; exact hu_s _ _ _
    have g3 : h1 a = some (eO 4 [vI mc, vR e0, vI n]) := s_hu eh1 (ne_tg (ha) (he) rfl) (ha)
    refine z_aload_n F dJx4a65c_add_72be8_15 rfl 0 rfl ?_
    refine z_iload_n F dJx4a65c_add_72be8_16 rfl 3 rfl ?_
    refine z_iconst F dJx4a65c_add_72be8_17 ?_
    refine z_iadd F dJx4a65c_add_72be8_18 ?_
    obtain ⟨h4, eh4⟩ : ∃ z : Hp, hu h1 a (eO 4 [vI mc, vR e0, vI (n + 1)]) = z := ⟨_, rfl⟩
    refine z_put (fs := [vI mc, vR e0, vI n]) (fs' := [vI mc, vR e0, vI (n + 1)]) (h' := h4) F g3 fJx4a65c_48 ftJx4a65c_2 (nf_i _) (Nat.le_of_ble_eq_true rfl) rfl dJx4a65c_add_72be8_19 eh4 ?_
    have g5 : h4 a = some (eO 4 [vI mc, vR e0, vI (n + 1)]) := by rw [← eh4]; exact hu_s _ _ _
    have g6 : h4 e0 = some (eA 5 N (fun j => vQ (if j = n then some b else f j))) := s_hu eh4 (ne_tg (g2) (g3) rfl) (g2)
    have hfr : ∀ x, x ≠ a → x ≠ e0 → h4 x = h x := fun x q1 q2 => by rw [← eh4, hu_n _ _ (q1), ← eh1, hu_n _ _ (q2)]
    have hf1 : ∀ j : Int, 0 ≤ j → (fun j => if j = n then some b else f j) j = if j = n then some b else f j := fun j _ => rfl
    have hob1 : OB5 h4 f n := OB5.kept hO hfr ha (Or.inr ⟨_, _, he⟩)
    have hbb : h4 b = some (eO cb fb) := by rw [hfr b hba (ne_bA)]; exact hb
    exact z_vret F hr (by first | exact Nat.le_of_ble_eq_true rfl | omega | (simp only []; omega)) (by first | exact Nat.le_of_ble_eq_true rfl | omega | (simp only []; omega)) dJx4a65c_add_72be8_22 (⟨rfl, e0, N, fun j => if j = n then some b else f j, ⟨(by first | exact g5 | (rw [hn0]; exact g5)), Or.inr ⟨g6, by omega⟩, by omega, fun j hj => by rw [hf1 j (by omega), if_neg (by omega)]; exact hz j (by omega), hob1.push hbb hc hf1⟩, hf1, Or.inl ⟨rfl, rfl, by omega⟩, hfr, by omega⟩)
  · exfalso; omega
set_option maxRecDepth 100000 in
set_option maxHeartbeats 4000000 in
theorem mAddA1 (l : Launch) (G : GG) (N0 : Nat) (h : Hp) (a e0 N b cb : Nat) (fb : List AV) (mc n : Int) (f : Int → Option Nat) (ha : h a = some (eO 4 [vI mc, vR e0, vI n])) (he : h e0 = some (eA 5 N (fun j => vQ (f j)))) (hN : n = N ∧ 0 < N ∧ N ≤ 40) (hz : ∀ j, n ≤ j → f j = none) (hO : OB5 h f n) (hb : h b = some (eO cb fb)) (hc : ∀ r : vw_C, kCl[cb]? = some r → (r.1, "java/lang/Object") ∈ castL) (hba : b ≠ a) : Ct l G N0 yJx4a65c_add_72be8 (Cond.code yJx4a65c_add_72be8 cJx4a65c_add_72be8 4 none :: LW) ({ frames := 5, cells := 1, slots := 100, locals := 300 }) [vR a, vR b, vR e0, vI n] h (fun r h' => r = none ∧ PA G h a e0 N b mc n f h') := by
  refine ct_of rfl rfl ?_
  intro p e s m args below meth c F hr hnm
  have F : Fx p s m args meth c RJx4a65c cJx4a65c_add_72be8 4 G N0 (cA h s.heap.size) := F
  show Z _ _ _ _ _ _ _ _ _ _ _ _ _ _ _ _ _ _ _ [(0, vR a), (1, vR b), (2, vR e0), (3, vI n)] []
  refine z_iload_n F dJx4a65c_add_72be8_0 rfl 3 rfl ?_
  refine z_aload_n F dJx4a65c_add_72be8_1 rfl 2 rfl ?_
  refine z_alen F he (by decide) dJx4a65c_add_72be8_2 ?_
  refine z_icmp_ne (tgt := 11) F dJx4a65c_add_72be8_3 (by decide) (by omega) (by omega) (fun c3 => ?_) (fun c3 => ?_)
  · exfalso; omega
  · refine z_aload_n F dJx4a65c_add_72be8_6 rfl 0 rfl ?_
    refine z_callV (As := []) (st := []) F (mGrowN1 l G N0 h a e0 N mc n f ha he ⟨hN.2.1, by omega⟩ (fun i q0 q1 => hO i q0 (by omega)) hN.1) cvJx4a65c_129 ha (fun r9 h9 => by cases h9; rfl) rfl rfl ⟨Nat.le_of_ble_eq_true rfl, Nat.le_of_ble_eq_true rfl⟩ rfl ⟨Nat.le_of_ble_eq_true rfl, Nat.le_of_ble_eq_true rfl⟩ dJx4a65c_add_72be8_7 ?_
    rintro _ h1 ⟨q, rfl, fq, k1⟩
    have neqa : a ≠ q := fresh_ne fq ha
    have neqb : b ≠ q := fresh_ne fq hb
    have ga1 : h1 a = some (eO 4 [vI mc, vR q, vI n]) := by rw [k1, hu_s]
    have gq1 : h1 q = some (eA 5 (N + (if 1 < N / 2 then N / 2 else 1)) (fun j => vQ (cpI f (fun _ => none) 0 0 (N : Int) j))) := by rw [k1, hu_n _ _ neqa.symm, hu_s]
    have gx1 : ∀ x, x ≠ a → x ≠ q → h1 x = h x := fun x q1 q2 => by rw [k1, hu_n _ _ q1, hu_n _ _ q2]
    have gb1 : h1 b = some (eO cb fb) := by rw [gx1 b hba neqb]; exact hb
    obtain ⟨N1, hN1⟩ : ∃ z, z = (N + (if 1 < N / 2 then N / 2 else 1)) := ⟨_, rfl⟩
    rw [← hN1] at gq1
    have hN2 : N < N1 ∧ N1 ≤ 60 := by rw [hN1]; split <;> omega
    refine z_astore_n (lv' := [(2, vR q), (0, vR a), (1, vR b), (3, vI n)]) F dJx4a65c_add_72be8_10 rfl (by decide) rfl ?_
    refine z_aload_n F dJx4a65c_add_72be8_11 rfl 0 rfl ?_
    refine z_iload_n F dJx4a65c_add_72be8_12 rfl 3 rfl ?_
    refine z_aload_n F dJx4a65c_add_72be8_13 rfl 2 rfl ?_
    refine z_aastore (N := N1) (f := fun j => vQ (cpI f (fun _ => none) 0 0 (N : Int) j)) F (gq1) (gb1) hc (by omega) (by omega) (by omega) dJx4a65c_add_72be8_14 ?_
    rw [fuq]
    obtain ⟨h1, eh1⟩ : ∃ z : Hp, hu h1 q (eA 5 N1 (fun j => vQ (if j = n then some b else cpI f (fun _ => none) 0 0 (N : Int) j))) = z := ⟨_, rfl⟩
    rw [eh1]
    have g2 : h1 q = some (eA 5 N1 (fun j => vQ (if j = n then some b else cpI f (fun _ => none) 0 0 (N : Int) j))) := by rw [← eh1]; exact hu_s _ _ _
    have g3 : h1 a = some (eO 4 [vI mc, vR q, vI n]) := s_hu eh1 (neqa) (ga1)
    refine z_aload_n F dJx4a65c_add_72be8_15 rfl 1 rfl ?_
    refine z_iload_n F dJx4a65c_add_72be8_16 rfl 3 rfl ?_
    refine z_iconst F dJx4a65c_add_72be8_17 ?_
    refine z_iadd F dJx4a65c_add_72be8_18 ?_
    obtain ⟨h4, eh4⟩ : ∃ z : Hp, hu h1 a (eO 4 [vI mc, vR q, vI (n + 1)]) = z := ⟨_, rfl⟩
    refine z_put (fs := [vI mc, vR q, vI n]) (fs' := [vI mc, vR q, vI (n + 1)]) (h' := h4) F g3 fJx4a65c_48 ftJx4a65c_2 (nf_i _) (Nat.le_of_ble_eq_true rfl) rfl dJx4a65c_add_72be8_19 eh4 ?_
    have g5 : h4 a = some (eO 4 [vI mc, vR q, vI (n + 1)]) := by rw [← eh4]; exact hu_s _ _ _
    have g6 : h4 q = some (eA 5 N1 (fun j => vQ (if j = n then some b else cpI f (fun _ => none) 0 0 (N : Int) j))) := s_hu eh4 (Ne.symm (neqa)) (g2)
    have hfr : ∀ x, x ≠ a → x ≠ q → h4 x = h x := fun x q1 q2 => by rw [← eh4, hu_n _ _ (q1), ← eh1, hu_n _ _ (q2), gx1 x q1 q2]
    have hf1 : ∀ j : Int, 0 ≤ j → (fun j => if j = n then some b else cpI f (fun _ => none) 0 0 (N : Int) j) j = if j = n then some b else f j := fun j hj => by
      by_cases q1 : j = n
      · simp only [if_pos q1]
      · simp only [if_neg q1]
        unfold cpI
        by_cases q2 : 0 ≤ j ∧ j < 0 + (N : Int)
        · rw [if_pos q2]; congr 1; omega
        · rw [if_neg q2, hz j (by omega)]
    have hob1 : OB5 h4 f n := OB5.kept hO hfr ha (Or.inl fq)
    have hbb : h4 b = some (eO cb fb) := by rw [hfr b hba (neqb)]; exact hb
    exact z_vret F hr (by first | exact Nat.le_of_ble_eq_true rfl | omega | (simp only []; omega)) (by first | exact Nat.le_of_ble_eq_true rfl | omega | (simp only []; omega)) dJx4a65c_add_72be8_22 (⟨rfl, q, N1, fun j => if j = n then some b else cpI f (fun _ => none) 0 0 (N : Int) j, ⟨(by first | exact g5 | (rw [hn0]; exact g5)), Or.inr ⟨g6, by omega⟩, by omega, fun j hj => by rw [hf1 j (by omega), if_neg (by omega)]; exact hz j (by omega), hob1.push hbb hc hf1⟩, hf1, Or.inr fq, hfr, by omega⟩)
set_option maxRecDepth 100000 in
set_option maxHeartbeats 4000000 in
theorem mAddA0 (l : Launch) (G : GG) (N0 : Nat) (h : Hp) (a e0 N b cb : Nat) (fb : List AV) (mc n : Int) (f : Int → Option Nat) (ha : h a = some (eO 4 [vI mc, vR (G.2.2 0), vI 0])) (hn0 : n = 0) (hz : ∀ j, n ≤ j → f j = none) (hO : OB5 h f n) (hb : h b = some (eO cb fb)) (hc : ∀ r : vw_C, kCl[cb]? = some r → (r.1, "java/lang/Object") ∈ castL) (hba : b ≠ a) : Ct l G N0 yJx4a65c_add_72be8 (Cond.code yJx4a65c_add_72be8 cJx4a65c_add_72be8 4 none :: LW) ({ frames := 5, cells := 1, slots := 100, locals := 300 }) [vR a, vR b, vR (G.2.2 0), vI 0] h (fun r h' => r = none ∧ PA G h a e0 N b mc n f h') := by
  refine ct_of rfl rfl ?_
  intro p e s m args below meth c F hr hnm
  have F : Fx p s m args meth c RJx4a65c cJx4a65c_add_72be8 4 G N0 (cA h s.heap.size) := F
  show Z _ _ _ _ _ _ _ _ _ _ _ _ _ _ _ _ _ _ _ [(0, vR a), (1, vR b), (2, vR (G.2.2 0)), (3, vI 0)] []
  refine z_iload_n F dJx4a65c_add_72be8_0 rfl 3 rfl ?_
  refine z_aload_n F dJx4a65c_add_72be8_1 rfl 2 rfl ?_
  refine z_alenE F dJx4a65c_add_72be8_2 ?_
  refine z_icmp_ne (tgt := 11) F dJx4a65c_add_72be8_3 (by decide) (by decide) (by decide) (fun c3 => ?_) (fun c3 => ?_)
  · exact absurd c3 (by decide)
  · refine z_aload_n F dJx4a65c_add_72be8_6 rfl 0 rfl ?_
    refine z_callV (As := []) (st := []) F (mGrowN0 l G N0 h a mc ha) cvJx4a65c_129 ha (fun r9 h9 => by cases h9; rfl) rfl rfl ⟨Nat.le_of_ble_eq_true rfl, Nat.le_of_ble_eq_true rfl⟩ rfl ⟨Nat.le_of_ble_eq_true rfl, Nat.le_of_ble_eq_true rfl⟩ dJx4a65c_add_72be8_7 ?_
    rintro _ h1 ⟨q, rfl, fq, k1⟩
    have neqa : a ≠ q := fresh_ne fq ha
    have neqb : b ≠ q := fresh_ne fq hb
    have ga1 : h1 a = some (eO 4 [vI mc, vR q, vI 0]) := by rw [k1, hu_s]
    have gq1 : h1 q = some (eA 5 10 (fun j => vQ (none))) := by rw [k1, hu_n _ _ neqa.symm, hu_s]
    have gx1 : ∀ x, x ≠ a → x ≠ q → h1 x = h x := fun x q1 q2 => by rw [k1, hu_n _ _ q1, hu_n _ _ q2]
    have gb1 : h1 b = some (eO cb fb) := by rw [gx1 b hba neqb]; exact hb
    refine z_astore_n (lv' := [(2, vR q), (0, vR a), (1, vR b), (3, vI 0)]) F dJx4a65c_add_72be8_10 rfl (by decide) rfl ?_
    refine z_aload_n F dJx4a65c_add_72be8_11 rfl 0 rfl ?_
    refine z_iload_n F dJx4a65c_add_72be8_12 rfl 3 rfl ?_
    refine z_aload_n F dJx4a65c_add_72be8_13 rfl 2 rfl ?_
    refine z_aastore (N := 10) (f := fun j => vQ (none)) F (gq1) (gb1) hc (by omega) (by omega) (by omega) dJx4a65c_add_72be8_14 ?_
    rw [fuq]
    obtain ⟨h1, eh1⟩ : ∃ z : Hp, hu h1 q (eA 5 10 (fun j => vQ (if j = 0 then some b else none))) = z := ⟨_, rfl⟩
    rw [eh1]
    have g2 : h1 q = some (eA 5 10 (fun j => vQ (if j = 0 then some b else none))) := by rw [← eh1]; exact hu_s _ _ _
    have g3 : h1 a = some (eO 4 [vI mc, vR q, vI 0]) := s_hu eh1 (neqa) (ga1)
    refine z_aload_n F dJx4a65c_add_72be8_15 rfl 1 rfl ?_
    refine z_iload_n F dJx4a65c_add_72be8_16 rfl 3 rfl ?_
    refine z_iconst F dJx4a65c_add_72be8_17 ?_
    refine z_iadd F dJx4a65c_add_72be8_18 ?_
    obtain ⟨h4, eh4⟩ : ∃ z : Hp, hu h1 a (eO 4 [vI mc, vR q, vI (0 + 1)]) = z := ⟨_, rfl⟩
    refine z_put (fs := [vI mc, vR q, vI 0]) (fs' := [vI mc, vR q, vI (0 + 1)]) (h' := h4) F g3 fJx4a65c_48 ftJx4a65c_2 (nf_i _) (Nat.le_of_ble_eq_true rfl) rfl dJx4a65c_add_72be8_19 eh4 ?_
    have g5 : h4 a = some (eO 4 [vI mc, vR q, vI (0 + 1)]) := by rw [← eh4]; exact hu_s _ _ _
    have g6 : h4 q = some (eA 5 10 (fun j => vQ (if j = 0 then some b else none))) := s_hu eh4 (Ne.symm (neqa)) (g2)
    have hfr : ∀ x, x ≠ a → x ≠ q → h4 x = h x := fun x q1 q2 => by rw [← eh4, hu_n _ _ (q1), ← eh1, hu_n _ _ (q2), gx1 x q1 q2]
    have hf1 : ∀ j : Int, 0 ≤ j → (fun j => if j = 0 then some b else none) j = if j = n then some b else f j := fun j hj => by
      subst hn0
      by_cases q1 : j = 0
      · simp only [if_pos q1]
      · simp only [if_neg q1]
        exact (hz j (by omega)).symm
    have hob1 : OB5 h4 f n := OB5.kept hO hfr ha (Or.inl fq)
    have hbb : h4 b = some (eO cb fb) := by rw [hfr b hba (neqb)]; exact hb
    exact z_vret F hr (by first | exact Nat.le_of_ble_eq_true rfl | omega | (simp only []; omega)) (by first | exact Nat.le_of_ble_eq_true rfl | omega | (simp only []; omega)) dJx4a65c_add_72be8_22 (⟨rfl, q, 10, fun j => if j = 0 then some b else none, ⟨(by first | exact g5 | (rw [hn0]; exact g5)), Or.inr ⟨g6, by omega⟩, by omega, fun j hj => by rw [hf1 j (by omega), if_neg (by omega)]; exact hz j (by omega), hob1.push hbb hc hf1⟩, hf1, Or.inr fq, hfr, by omega⟩)
theorem mAddA (l : Launch) (G : GG) (N0 : Nat) (h : Hp) (a e0 N b cb : Nat) (fb : List AV) (mc n : Int) (f : Int → Option Nat) (H : LI G h a e0 N mc n f) (hn : n ≤ 40) (hb : h b = some (eO cb fb)) (hc : ∀ r : vw_C, kCl[cb]? = some r → (r.1, "java/lang/Object") ∈ castL) (hba : b ≠ a) : Ct l G N0 yJx4a65c_add_72be8 (Cond.code yJx4a65c_add_72be8 cJx4a65c_add_72be8 4 none :: LW) ({ frames := 5, cells := 1, slots := 100, locals := 300 }) [vR a, vR b, vR e0, vI n] h (fun r h' => r = none ∧ PA G h a e0 N b mc n f h') := by
  obtain ⟨ha, he, hN, hz, hO⟩ := H
  rcases he with ⟨q1, q2, q3⟩ | ⟨he, hp⟩
  · subst q3
    subst q2
    exact mAddA0 l G N0 h a (G.2.2 0) N b cb fb mc 0 f ha rfl hz hO hb hc hba
  · by_cases q : n = N
    · exact mAddA1 l G N0 h a e0 N b cb fb mc n f ha he ⟨q, hp, by omega⟩ hz hO hb hc hba
    · exact mAddA2 l G N0 h a e0 N b cb fb mc n f ha he ⟨hN.1, by omega, hN.2.2⟩ hz hO hb hc hba
