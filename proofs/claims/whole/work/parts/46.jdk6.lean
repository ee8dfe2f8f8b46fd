theorem ins_f {F f : Int → Option Nat} {n i : Int} {b : Nat} (hF : ∀ j, 0 ≤ j → F j = f j) (hz : ∀ j, n ≤ j → f j = none) (hi : 0 ≤ i ∧ i ≤ n) : ∀ j : Int, 0 ≤ j → (if j = i then some b else cpI F F i (i + 1) (n - i) j) = if j < i then f j else if j = i then some b else f (j - 1) := fun j hj => by
  unfold cpI
  by_cases q1 : j < i
  · rw [if_neg (by omega), if_neg (by omega), if_pos q1]
    exact hF j hj
  · by_cases q2 : j = i
    · rw [if_pos q2, if_neg q1, if_pos q2]
    · rw [if_neg q2, if_neg q1, if_neg q2]
      by_cases q3 : i + 1 ≤ j ∧ j < i + 1 + (n - i)
      · rw [if_pos q3, hF _ (by omega)]
        congr 1
        omega
      · rw [if_neg q3, hF j hj, hz (j - 1) (by omega), hz j (by omega)]
theorem cpf {f : Int → Option Nat} {N : Nat} (hz : ∀ j, (N : Int) ≤ j → f j = none) (j : Int) (hj : 0 ≤ j) : cpI f (fun _ => none) 0 0 (N : Int) j = f j := by
  unfold cpI
  by_cases q : 0 ≤ j ∧ j < 0 + (N : Int)
  · rw [if_pos q]
    congr 1
    omega
  · rw [if_neg q, hz j (by omega)]
/-- behind an insertion of b at i -/
def PI (G : GG) (h : Hp) (a e0 N b : Nat) (mc n i : Int) (f : Int → Option Nat) (h' : Hp) : Prop := ∃ e1 N1 f1, LI G h' a e1 N1 mc (n + 1) f1 ∧ (∀ j, 0 ≤ j → f1 j = if j < i then f j else if j = i then some b else f (j - 1)) ∧ ((e1 = e0 ∧ N1 = N ∧ 0 < N) ∨ h e1 = none) ∧ (∀ x, x ≠ a → x ≠ e1 → h' x = h x) ∧ 0 < N1
theorem OB5.ins {h : Hp} {f f1 : Int → Option Nat} {n p : Int} {b cb : Nat} {fb : List AV} (H : OB5 h f n) (hp : 0 ≤ p) (hb : h b = some (eO cb fb)) (hc : ∀ r : vw_C, kCl[cb]? = some r → (r.1, "java/lang/Object") ∈ castL) (h1 : ∀ j, 0 ≤ j → f1 j = if j < p then f j else if j = p then some b else f (j - 1)) (hpn : p ≤ n) : OB5 h f1 (n + 1) := fun i q0 q1 y hy => by
  rw [h1 i q0] at hy
  by_cases w : i < p
  · rw [if_pos w] at hy
    exact H i q0 (by omega) y hy
  · rw [if_neg w] at hy
    by_cases v : i = p
    · rw [if_pos v] at hy
      cases hy
      exact ⟨cb, fb, hb, hc⟩
    · rw [if_neg v] at hy
      exact H (i - 1) (by omega) (by omega) y hy
set_option maxRecDepth 100000 in
set_option maxHeartbeats 4000000 in
theorem mAddI2 (l : Launch) (G : GG) (N0 : Nat) (h : Hp) (a e0 N b cb : Nat) (fb : List AV) (mc n i : Int) (f : Int → Option Nat) (ha : h a = some (eO 4 [vI mc, vR e0, vI n])) (he : h e0 = some (eA 5 N (fun j => vQ (f j)))) (hN : 0 ≤ n ∧ n < N ∧ N ≤ 60) (hi : 0 ≤ i ∧ i ≤ n) (hz : ∀ j, n ≤ j → f j = none) (hO : OB5 h f n) (hb : h b = some (eO cb fb)) (hc : ∀ r : vw_C, kCl[cb]? = some r → (r.1, "java/lang/Object") ∈ castL) (hba : b ≠ a) : Ct l G N0 yJx4a65c_add_7a177 (Cond.code yJx4a65c_add_7a177 cJx4a65c_add_7a177 5 none :: LW) ({ frames := 5, cells := 1, slots := 100, locals := 300 }) [vR a, vI i, vR b] h (fun r h' => r = none ∧ PI G h a e0 N b (mc + 1) n i f h') := by
  refine ct_of rfl rfl ?_
  intro p e s m args below meth c F hr hnm
  have F : Fx p s m args meth c RJx4a65c cJx4a65c_add_7a177 5 G N0 (cA h s.heap.size) := F
  have ne_bA : b ≠ e0 := fun z => by rw [z, he] at hb; cases hb
  show Z _ _ _ _ _ _ _ _ _ _ _ _ _ _ _ _ _ _ _ [(0, vR a), (1, vI i), (2, vR b)] []
  refine z_aload_n F dJx4a65c_add_7a177_0 rfl 0 rfl ?_
  refine z_iload_n F dJx4a65c_add_7a177_1 rfl 1 rfl ?_
  refine z_callV (As := [vI i]) (st := []) F (mJx4a65c_rangeCheckForAdd_d00df l G N0 h a e0 mc n i ha (by omega)) cvJx4a65c_135 ha (fun r9 h9 => by cases h9; rfl) rfl rfl ⟨Nat.le_of_ble_eq_true rfl, Nat.le_of_ble_eq_true rfl⟩ rfl ⟨Nat.le_of_ble_eq_true rfl, Nat.le_of_ble_eq_true rfl⟩ dJx4a65c_add_7a177_2 ?_
  rintro _ h9 ⟨rfl, hh9⟩
  rw [hh9]
  clear hh9 h9
  show Z _ _ _ _ _ _ _ _ _ _ _ _ _ _ _ _ _ _ _ _ []
  refine z_aload_n F dJx4a65c_add_7a177_5 rfl 0 rfl ?_
  refine z_dup F dJx4a65c_add_7a177_6 rfl ?_
  refine z_get (v := vI mc) F ha fJx4a65c_63 rfl dJx4a65c_add_7a177_7 ?_
  refine z_iconst F dJx4a65c_add_7a177_10 ?_
  refine z_iadd F dJx4a65c_add_7a177_11 ?_
  obtain ⟨h1, eh1⟩ : ∃ z : Hp, hu h a (eO 4 [vI (mc + 1), vR e0, vI n]) = z := ⟨_, rfl⟩
  refine z_put (fs := [vI mc, vR e0, vI n]) (fs' := [vI (mc + 1), vR e0, vI n]) (h' := h1) F ha fJx4a65c_63 ftJx4a65c_0 (nf_i _) (Nat.le_of_ble_eq_true rfl) rfl dJx4a65c_add_7a177_12 eh1 ?_
  have g2 : h1 a = some (eO 4 [vI (mc + 1), vR e0, vI n]) := by rw [← eh1]; exact hu_s _ _ _
  have g3 : h1 e0 = some (eA 5 N (fun j => vQ (f j))) := s_hu eh1 (ne_tg (he) (ha) rfl) (he)
  have hO1 : OB5 h1 f n := by rw [← eh1]; exact hO.li ha
  have hb1 : h1 b = some (eO cb fb) := by rw [← eh1, hu_n _ _ hba]; exact hb
  have ha1 := g2
  have he1 := g3
  have hx1 : ∀ x, x ≠ a → h1 x = h x := fun x q1 => by rw [← eh1, hu_n _ _ q1]
  refine z_aload_n F dJx4a65c_add_7a177_15 rfl 0 rfl ?_
  refine z_get (v := vI n) F g2 fJx4a65c_48 rfl dJx4a65c_add_7a177_16 ?_
  refine z_dup F dJx4a65c_add_7a177_19 rfl ?_
  refine z_istore_n (lv' := [(3, vI n), (0, vR a), (1, vI i), (2, vR b)]) F dJx4a65c_add_7a177_20 rfl (by decide) rfl ?_
  refine z_aload_n F dJx4a65c_add_7a177_21 rfl 1 rfl ?_
  refine z_get (v := vR e0) F g2 fJx4a65c_9 rfl dJx4a65c_add_7a177_22 ?_
  refine z_dup F dJx4a65c_add_7a177_25 rfl ?_
  refine z_astore (lv' := [(4, vR e0), (3, vI n), (0, vR a), (1, vI i), (2, vR b)]) F dJx4a65c_add_7a177_26 (by decide) rfl ?_
  refine z_alen F g3 (by decide) dJx4a65c_add_7a177_28 ?_
  refine z_icmp_ne (tgt := 38) F dJx4a65c_add_7a177_29 (by decide) (by omega) (by omega) (fun c29 => ?_) (fun c29 => ?_)
  · refine z_aload F dJx4a65c_add_7a177_38 0 rfl ?_
    refine z_iload_n F dJx4a65c_add_7a177_40 rfl 3 rfl ?_
    refine z_aload F dJx4a65c_add_7a177_41 0 rfl ?_
    refine z_iload_n F dJx4a65c_add_7a177_43 rfl 3 rfl ?_
    refine z_iconst F dJx4a65c_add_7a177_44 ?_
    refine z_iadd F dJx4a65c_add_7a177_45 ?_
    refine z_iload_n F dJx4a65c_add_7a177_46 rfl 1 rfl ?_
    refine z_iload_n F dJx4a65c_add_7a177_47 rfl 3 rfl ?_
    refine z_isub F dJx4a65c_add_7a177_48 ?_
    show Z _ _ _ _ _ _ _ _ _ _ _ _ _ _ _ _ _ _ _ _ [vI (n - i), vI (i + 1), vR e0, vI i, vR e0]
    refine z_acopy (f := (fun j => f j)) (g := (fun j => f j)) (M0 := N) (M1 := N) F (g3) (g3) (by omega) (fun i2 q1 q2 y hy => hO1 (i + i2) (by omega) (by omega) y hy) ⟨q621, q370, q369, q24⟩ ⟨Nat.le_of_ble_eq_true rfl, Nat.le_of_ble_eq_true rfl⟩ dJx4a65c_add_7a177_49 ?_
    obtain ⟨h4, eh4⟩ : ∃ z : Hp, hu h1 e0 (eA 5 N (fun j => vQ (cpI (fun j => f j) (fun j => f j) i (i + 1) (n - i) j))) = z := ⟨_, rfl⟩
    rw [eh4]
    have gbh4 : h4 b = some (eO cb fb) := by rw [← eh4, hu_n _ _ (ne_bA)]; exact hb1
    have g5 : h4 e0 = some (eA 5 N (fun j => vQ (cpI (fun j => f j) (fun j => f j) i (i + 1) (n - i) j))) := by rw [← eh4]; exact hu_s _ _ _
    have g6 : h4 a = some (eO 4 [vI (mc + 1), vR e0, vI n]) := s_hu eh4 (ne_tg (g2) (g3) rfl) (g2)
    refine z_aload F dJx4a65c_add_7a177_52 0 rfl ?_
    refine z_iload_n F dJx4a65c_add_7a177_54 rfl 3 rfl ?_
    refine z_aload_n F dJx4a65c_add_7a177_55 rfl 4 rfl ?_
    refine z_aastore (N := N) (f := fun j => vQ (cpI (fun j => f j) (fun j => f j) i (i + 1) (n - i) j)) F (g5) (gbh4) hc (by omega) (by omega) (by omega) dJx4a65c_add_7a177_56 ?_
    rw [fuq]
    obtain ⟨h7, eh7⟩ : ∃ z : Hp, hu h4 e0 (eA 5 N (fun j => vQ (if j = i then some b else cpI (fun j => f j) (fun j => f j) i (i + 1) (n - i) j))) = z := ⟨_, rfl⟩
    rw [eh7]
    have g8 : h7 e0 = some (eA 5 N (fun j => vQ (if j = i then some b else cpI (fun j => f j) (fun j => f j) i (i + 1) (n - i) j))) := by rw [← eh7]; exact hu_s _ _ _
    have g9 : h7 a = some (eO 4 [vI (mc + 1), vR e0, vI n]) := s_hu eh7 (ne_tg (g6) (g5) rfl) (g6)
    refine z_aload_n F dJx4a65c_add_7a177_57 rfl 2 rfl ?_
    refine z_iload_n F dJx4a65c_add_7a177_58 rfl 1 rfl ?_
    refine z_iconst F dJx4a65c_add_7a177_59 ?_
    refine z_iadd F dJx4a65c_add_7a177_60 ?_
    obtain ⟨h10, eh10⟩ : ∃ z : Hp, hu h7 a (eO 4 [vI (mc + 1), vR e0, vI (n + 1)]) = z := ⟨_, rfl⟩
    refine z_put (fs := [vI (mc + 1), vR e0, vI n]) (fs' := [vI (mc + 1), vR e0, vI (n + 1)]) (h' := h10) F g9 fJx4a65c_48 ftJx4a65c_2 (nf_i _) (Nat.le_of_ble_eq_true rfl) rfl dJx4a65c_add_7a177_61 eh10 ?_
    have g11 : h10 a = some (eO 4 [vI (mc + 1), vR e0, vI (n + 1)]) := by rw [← eh10]; exact hu_s _ _ _
    have g12 : h10 e0 = some (eA 5 N (fun j => vQ (if j = i then some b else cpI (fun j => f j) (fun j => f j) i (i + 1) (n - i) j))) := s_hu eh10 (ne_tg (g8) (g9) rfl) (g8)
    have hfr : ∀ x, x ≠ a → x ≠ e0 → h10 x = h x := fun x q1 q2 => by rw [← eh10, hu_n _ _ (q1), ← eh7, hu_n _ _ (q2), ← eh4, hu_n _ _ (q2), hx1 x q1]
    have hf1 : ∀ j : Int, 0 ≤ j → (fun j => if j = i then some b else cpI (fun j => f j) (fun j => f j) i (i + 1) (n - i) j) j = if j < i then f j else if j = i then some b else f (j - 1) := by first | exact ins_f (F := fun j => f j) (fun _ _ => rfl) hz hi | (subst hn0; exact ins_f (F := fun j => f j) (fun _ _ => rfl) hz hi)
    have hob1 : OB5 h10 f n := OB5.kept hO hfr ha (Or.inr ⟨_, _, he⟩)
    have hbb : h10 b = some (eO cb fb) := by rw [hfr b hba (ne_bA)]; exact hb
    exact z_vret F hr (by first | exact Nat.le_of_ble_eq_true rfl | omega | (simp only []; omega)) (by first | exact Nat.le_of_ble_eq_true rfl | omega | (simp only []; omega)) dJx4a65c_add_7a177_64 (⟨rfl, e0, N, fun j => if j = i then some b else cpI (fun j => f j) (fun j => f j) i (i + 1) (n - i) j, ⟨(by first | exact g11 | (rw [hn0]; exact g11)), Or.inr ⟨g12, by omega⟩, by omega, fun j hj => by rw [hf1 j (by omega), if_neg (by omega), if_neg (by omega)]; exact hz (j - 1) (by omega), hob1.ins hi.1 hbb hc hf1 hi.2⟩, hf1, Or.inl ⟨rfl, rfl, by omega⟩, hfr, by omega⟩)
  · exfalso; omega
set_option maxRecDepth 100000 in
set_option maxHeartbeats 4000000 in
theorem mAddI1 (l : Launch) (G : GG) (N0 : Nat) (h : Hp) (a e0 N b cb : Nat) (fb : List AV) (mc n i : Int) (f : Int → Option Nat) (ha : h a = some (eO 4 [vI mc, vR e0, vI n])) (he : h e0 = some (eA 5 N (fun j => vQ (f j)))) (hN : n = N ∧ 0 < N ∧ N ≤ 40) (hi : 0 ≤ i ∧ i ≤ n) (hz : ∀ j, n ≤ j → f j = none) (hO : OB5 h f n) (hb : h b = some (eO cb fb)) (hc : ∀ r : vw_C, kCl[cb]? = some r → (r.1, "java/lang/Object") ∈ castL) (hba : b ≠ a) : Ct l G N0 yJx4a65c_add_7a177 (Cond.code yJx4a65c_add_7a177 cJx4a65c_add_7a177 5 none :: LW) ({ frames := 5, cells := 1, slots := 100, locals := 300 }) [vR a, vI i, vR b] h (fun r h' => r = none ∧ PI G h a e0 N b (mc + 1) n i f h') := by
  refine ct_of rfl rfl ?_
  intro p e s m args below meth c F hr hnm
  have F : Fx p s m args meth c RJx4a65c cJx4a65c_add_7a177 5 G N0 (cA h s.heap.size) := F
  show Z _ _ _ _ _ _ _ _ _ _ _ _ _ _ _ _ _ _ _ [(0, vR a), (1, vI i), (2, vR b)] []
  refine z_aload_n F dJx4a65c_add_7a177_0 rfl 0 rfl ?_
  refine z_iload_n F dJx4a65c_add_7a177_1 rfl 1 rfl ?_
  refine z_callV (As := [vI i]) (st := []) F (mJx4a65c_rangeCheckForAdd_d00df l G N0 h a e0 mc n i ha (by omega)) cvJx4a65c_135 ha (fun r9 h9 => by cases h9; rfl) rfl rfl ⟨Nat.le_of_ble_eq_true rfl, Nat.le_of_ble_eq_true rfl⟩ rfl ⟨Nat.le_of_ble_eq_true rfl, Nat.le_of_ble_eq_true rfl⟩ dJx4a65c_add_7a177_2 ?_
  rintro _ h9 ⟨rfl, hh9⟩
  rw [hh9]
  clear hh9 h9
  show Z _ _ _ _ _ _ _ _ _ _ _ _ _ _ _ _ _ _ _ _ []
  refine z_aload_n F dJx4a65c_add_7a177_5 rfl 0 rfl ?_
  refine z_dup F dJx4a65c_add_7a177_6 rfl ?_
  refine z_get (v := vI mc) F ha fJx4a65c_63 rfl dJx4a65c_add_7a177_7 ?_
  refine z_iconst F dJx4a65c_add_7a177_10 ?_
  refine z_iadd F dJx4a65c_add_7a177_11 ?_
  obtain ⟨h1, eh1⟩ : ∃ z : Hp, hu h a (eO 4 [vI (mc + 1), vR e0, vI n]) = z := ⟨_, rfl⟩
  refine z_put (fs := [vI mc, vR e0, vI n]) (fs' := [vI (mc + 1), vR e0, vI n]) (h' := h1) F ha fJx4a65c_63 ftJx4a65c_0 (nf_i _) (Nat.le_of_ble_eq_true rfl) rfl dJx4a65c_add_7a177_12 eh1 ?_
  have g2 : h1 a = some (eO 4 [vI (mc + 1), vR e0, vI n]) := by rw [← eh1]; exact hu_s _ _ _
  have g3 : h1 e0 = some (eA 5 N (fun j => vQ (f j))) := s_hu eh1 (ne_tg (he) (ha) rfl) (he)
  have hO1 : OB5 h1 f n := by rw [← eh1]; exact hO.li ha
  have hb1 : h1 b = some (eO cb fb) := by rw [← eh1, hu_n _ _ hba]; exact hb
  have ha1 := g2
  have he1 := g3
  have hx1 : ∀ x, x ≠ a → h1 x = h x := fun x q1 => by rw [← eh1, hu_n _ _ q1]
  refine z_aload_n F dJx4a65c_add_7a177_15 rfl 0 rfl ?_
  refine z_get (v := vI n) F g2 fJx4a65c_48 rfl dJx4a65c_add_7a177_16 ?_
  refine z_dup F dJx4a65c_add_7a177_19 rfl ?_
  refine z_istore_n (lv' := [(3, vI n), (0, vR a), (1, vI i), (2, vR b)]) F dJx4a65c_add_7a177_20 rfl (by decide) rfl ?_
  refine z_aload_n F dJx4a65c_add_7a177_21 rfl 1 rfl ?_
  refine z_get (v := vR e0) F g2 fJx4a65c_9 rfl dJx4a65c_add_7a177_22 ?_
  refine z_dup F dJx4a65c_add_7a177_25 rfl ?_
  refine z_astore (lv' := [(4, vR e0), (3, vI n), (0, vR a), (1, vI i), (2, vR b)]) F dJx4a65c_add_7a177_26 (by decide) rfl ?_
  refine z_alen F g3 (by decide) dJx4a65c_add_7a177_28 ?_
  refine z_icmp_ne (tgt := 38) F dJx4a65c_add_7a177_29 (by decide) (by omega) (by omega) (fun c29 => ?_) (fun c29 => ?_)
  · exfalso; omega
  · refine z_aload_n F dJx4a65c_add_7a177_32 rfl 2 rfl ?_
    refine z_callV (As := []) (st := []) F (mGrowN1 l G N0 h1 a e0 N (mc + 1) n f ha1 he1 ⟨hN.2.1, by omega⟩ (fun i q0 q1 => hO1 i q0 (by omega)) hN.1) cvJx4a65c_129 g2 (fun r9 h9 => by cases h9; rfl) rfl rfl ⟨Nat.le_of_ble_eq_true rfl, Nat.le_of_ble_eq_true rfl⟩ rfl ⟨Nat.le_of_ble_eq_true rfl, Nat.le_of_ble_eq_true rfl⟩ dJx4a65c_add_7a177_33 ?_
    rintro _ h7 ⟨q, rfl, fq, k7⟩
    have neqa : a ≠ q := fresh_ne fq ha1
    have neqb : b ≠ q := fresh_ne fq hb1
    have ga1 : h7 a = some (eO 4 [vI (mc + 1), vR q, vI n]) := by rw [k7, hu_s]
    have gq1 : h7 q = some (eA 5 (N + (if 1 < N / 2 then N / 2 else 1)) (fun j => vQ (cpI f (fun _ => none) 0 0 (N : Int) j))) := by rw [k7, hu_n _ _ neqa.symm, hu_s]
    have gx1 : ∀ x, x ≠ a → x ≠ q → h7 x = h1 x := fun x q1 q2 => by rw [k7, hu_n _ _ q1, hu_n _ _ q2]
    have gb1 : h7 b = some (eO cb fb) := by rw [gx1 b hba neqb]; exact hb1
    have hO7 : OB5 h7 f n := OB5.kept hO1 gx1 ha1 (Or.inl fq)
    have fq0 : h q = none := by rw [← hx1 q neqa.symm]; exact fq
    obtain ⟨N1, hN1⟩ : ∃ z, z = (N + (if 1 < N / 2 then N / 2 else 1)) := ⟨_, rfl⟩
    rw [← hN1] at gq1
    have hN2 : N < N1 ∧ N1 ≤ 60 := by rw [hN1]; split <;> omega
    refine z_astore (lv' := [(4, vR q), (3, vI n), (0, vR a), (1, vI i), (2, vR b)]) F dJx4a65c_add_7a177_36 (by decide) rfl ?_
    refine z_aload F dJx4a65c_add_7a177_38 0 rfl ?_
    refine z_iload_n F dJx4a65c_add_7a177_40 rfl 3 rfl ?_
    refine z_aload F dJx4a65c_add_7a177_41 0 rfl ?_
    refine z_iload_n F dJx4a65c_add_7a177_43 rfl 3 rfl ?_
    refine z_iconst F dJx4a65c_add_7a177_44 ?_
    refine z_iadd F dJx4a65c_add_7a177_45 ?_
    refine z_iload_n F dJx4a65c_add_7a177_46 rfl 1 rfl ?_
    refine z_iload_n F dJx4a65c_add_7a177_47 rfl 3 rfl ?_
    refine z_isub F dJx4a65c_add_7a177_48 ?_
    show Z _ _ _ _ _ _ _ _ _ _ _ _ _ _ _ _ _ _ _ _ [vI (n - i), vI (i + 1), vR q, vI i, vR q]
    refine z_acopy (f := (fun j => cpI f (fun _ => none) 0 0 (N : Int) j)) (g := (fun j => cpI f (fun _ => none) 0 0 (N : Int) j)) (M0 := N1) (M1 := N1) F (gq1) (gq1) (by omega) (fun i2 q1 q2 y hy => hO7 (i + i2) (by omega) (by omega) y (by rw [← cpf (N := N) (fun j q => hz j (by omega)) (i + i2) (by omega)]; exact hy)) ⟨q621, q370, q369, q24⟩ ⟨Nat.le_of_ble_eq_true rfl, Nat.le_of_ble_eq_true rfl⟩ dJx4a65c_add_7a177_49 ?_
    obtain ⟨h4, eh4⟩ : ∃ z : Hp, hu h7 q (eA 5 N1 (fun j => vQ (cpI (fun j => cpI f (fun _ => none) 0 0 (N : Int) j) (fun j => cpI f (fun _ => none) 0 0 (N : Int) j) i (i + 1) (n - i) j))) = z := ⟨_, rfl⟩
    rw [eh4]
    have gbh4 : h4 b = some (eO cb fb) := by rw [← eh4, hu_n _ _ (neqb)]; exact gb1
    have g5 : h4 q = some (eA 5 N1 (fun j => vQ (cpI (fun j => cpI f (fun _ => none) 0 0 (N : Int) j) (fun j => cpI f (fun _ => none) 0 0 (N : Int) j) i (i + 1) (n - i) j))) := by rw [← eh4]; exact hu_s _ _ _
    have g6 : h4 a = some (eO 4 [vI (mc + 1), vR q, vI n]) := s_hu eh4 (neqa) (ga1)
    refine z_aload F dJx4a65c_add_7a177_52 0 rfl ?_
    refine z_iload_n F dJx4a65c_add_7a177_54 rfl 3 rfl ?_
    refine z_aload_n F dJx4a65c_add_7a177_55 rfl 4 rfl ?_
    refine z_aastore (N := N1) (f := fun j => vQ (cpI (fun j => cpI f (fun _ => none) 0 0 (N : Int) j) (fun j => cpI f (fun _ => none) 0 0 (N : Int) j) i (i + 1) (n - i) j)) F (g5) (gbh4) hc (by omega) (by omega) (by omega) dJx4a65c_add_7a177_56 ?_
    rw [fuq]
    obtain ⟨h7, eh7⟩ : ∃ z : Hp, hu h4 q (eA 5 N1 (fun j => vQ (if j = i then some b else cpI (fun j => cpI f (fun _ => none) 0 0 (N : Int) j) (fun j => cpI f (fun _ => none) 0 0 (N : Int) j) i (i + 1) (n - i) j))) = z := ⟨_, rfl⟩
    rw [eh7]
    have g8 : h7 q = some (eA 5 N1 (fun j => vQ (if j = i then some b else cpI (fun j => cpI f (fun _ => none) 0 0 (N : Int) j) (fun j => cpI f (fun _ => none) 0 0 (N : Int) j) i (i + 1) (n - i) j))) := by rw [← eh7]; exact hu_s _ _ _
    have g9 : h7 a = some (eO 4 [vI (mc + 1), vR q, vI n]) := s_hu eh7 (neqa) (g6)
    refine z_aload_n F dJx4a65c_add_7a177_57 rfl 2 rfl ?_
    refine z_iload_n F dJx4a65c_add_7a177_58 rfl 1 rfl ?_
    refine z_iconst F dJx4a65c_add_7a177_59 ?_
    refine z_iadd F dJx4a65c_add_7a177_60 ?_
    obtain ⟨h10, eh10⟩ : ∃ z : Hp, hu h7 a (eO 4 [vI (mc + 1), vR q, vI (n + 1)]) = z := ⟨_, rfl⟩
    refine z_put (fs := [vI (mc + 1), vR q, vI n]) (fs' := [vI (mc + 1), vR q, vI (n + 1)]) (h' := h10) F g9 fJx4a65c_48 ftJx4a65c_2 (nf_i _) (Nat.le_of_ble_eq_true rfl) rfl dJx4a65c_add_7a177_61 eh10 ?_
    have g11 : h10 a = some (eO 4 [vI (mc + 1), vR q, vI (n + 1)]) := by rw [← eh10]; exact hu_s _ _ _
    have g12 : h10 q = some (eA 5 N1 (fun j => vQ (if j = i then some b else cpI (fun j => cpI f (fun _ => none) 0 0 (N : Int) j) (fun j => cpI f (fun _ => none) 0 0 (N : Int) j) i (i + 1) (n - i) j))) := s_hu eh10 (Ne.symm (neqa)) (g8)
    have hfr : ∀ x, x ≠ a → x ≠ q → h10 x = h x := fun x q1 q2 => by rw [← eh10, hu_n _ _ (q1), ← eh7, hu_n _ _ (q2), ← eh4, hu_n _ _ (q2), gx1 x q1 q2, hx1 x q1]
    have hf1 : ∀ j : Int, 0 ≤ j → (fun j => if j = i then some b else cpI (fun j => cpI f (fun _ => none) 0 0 (N : Int) j) (fun j => cpI f (fun _ => none) 0 0 (N : Int) j) i (i + 1) (n - i) j) j = if j < i then f j else if j = i then some b else f (j - 1) := by first | exact ins_f (F := fun j => cpI f (fun _ => none) 0 0 (N : Int) j) (fun j hj => cpf (fun j q => hz j (by omega)) j hj) hz hi | (subst hn0; exact ins_f (F := fun j => cpI f (fun _ => none) 0 0 (N : Int) j) (fun j hj => cpf (fun j q => hz j (by omega)) j hj) hz hi)
    have hob1 : OB5 h10 f n := OB5.kept hO hfr ha (Or.inl fq0)
    have hbb : h10 b = some (eO cb fb) := by rw [hfr b hba (neqb)]; exact hb
    exact z_vret F hr (by first | exact Nat.le_of_ble_eq_true rfl | omega | (simp only []; omega)) (by first | exact Nat.le_of_ble_eq_true rfl | omega | (simp only []; omega)) dJx4a65c_add_7a177_64 (⟨rfl, q, N1, fun j => if j = i then some b else cpI (fun j => cpI f (fun _ => none) 0 0 (N : Int) j) (fun j => cpI f (fun _ => none) 0 0 (N : Int) j) i (i + 1) (n - i) j, ⟨(by first | exact g11 | (rw [hn0]; exact g11)), Or.inr ⟨g12, by omega⟩, by omega, fun j hj => by rw [hf1 j (by omega), if_neg (by omega), if_neg (by omega)]; exact hz (j - 1) (by omega), hob1.ins hi.1 hbb hc hf1 hi.2⟩, hf1, Or.inr fq0, hfr, by omega⟩)
set_option maxRecDepth 100000 in
set_option maxHeartbeats 4000000 in
theorem mAddI0 (l : Launch) (G : GG) (N0 : Nat) (h : Hp) (a e0 N b cb : Nat) (fb : List AV) (mc n i : Int) (f : Int → Option Nat) (ha : h a = some (eO 4 [vI mc, vR (G.2.2 0), vI 0])) (hn0 : n = 0) (hi : 0 ≤ i ∧ i ≤ n) (hz : ∀ j, n ≤ j → f j = none) (hO : OB5 h f n) (hb : h b = some (eO cb fb)) (hc : ∀ r : vw_C, kCl[cb]? = some r → (r.1, "java/lang/Object") ∈ castL) (hba : b ≠ a) : Ct l G N0 yJx4a65c_add_7a177 (Cond.code yJx4a65c_add_7a177 cJx4a65c_add_7a177 5 none :: LW) ({ frames := 5, cells := 1, slots := 100, locals := 300 }) [vR a, vI i, vR b] h (fun r h' => r = none ∧ PI G h a e0 N b (mc + 1) n i f h') := by
  refine ct_of rfl rfl ?_
  intro p e s m args below meth c F hr hnm
  have F : Fx p s m args meth c RJx4a65c cJx4a65c_add_7a177 5 G N0 (cA h s.heap.size) := F
  show Z _ _ _ _ _ _ _ _ _ _ _ _ _ _ _ _ _ _ _ [(0, vR a), (1, vI i), (2, vR b)] []
  refine z_aload_n F dJx4a65c_add_7a177_0 rfl 0 rfl ?_
  refine z_iload_n F dJx4a65c_add_7a177_1 rfl 1 rfl ?_
  refine z_callV (As := [vI i]) (st := []) F (mJx4a65c_rangeCheckForAdd_d00df l G N0 h a (G.2.2 0) mc 0 i ha (by omega)) cvJx4a65c_135 ha (fun r9 h9 => by cases h9; rfl) rfl rfl ⟨Nat.le_of_ble_eq_true rfl, Nat.le_of_ble_eq_true rfl⟩ rfl ⟨Nat.le_of_ble_eq_true rfl, Nat.le_of_ble_eq_true rfl⟩ dJx4a65c_add_7a177_2 ?_
  rintro _ h9 ⟨rfl, hh9⟩
  rw [hh9]
  clear hh9 h9
  show Z _ _ _ _ _ _ _ _ _ _ _ _ _ _ _ _ _ _ _ _ []
  refine z_aload_n F dJx4a65c_add_7a177_5 rfl 0 rfl ?_
  refine z_dup F dJx4a65c_add_7a177_6 rfl ?_
  refine z_get (v := vI mc) F ha fJx4a65c_63 rfl dJx4a65c_add_7a177_7 ?_
  refine z_iconst F dJx4a65c_add_7a177_10 ?_
  refine z_iadd F dJx4a65c_add_7a177_11 ?_
  obtain ⟨h1, eh1⟩ : ∃ z : Hp, hu h a (eO 4 [vI (mc + 1), vR (G.2.2 0), vI 0]) = z := ⟨_, rfl⟩
  refine z_put (fs := [vI mc, vR (G.2.2 0), vI 0]) (fs' := [vI (mc + 1), vR (G.2.2 0), vI 0]) (h' := h1) F ha fJx4a65c_63 ftJx4a65c_0 (nf_i _) (Nat.le_of_ble_eq_true rfl) rfl dJx4a65c_add_7a177_12 eh1 ?_
  have g2 : h1 a = some (eO 4 [vI (mc + 1), vR (G.2.2 0), vI 0]) := by rw [← eh1]; exact hu_s _ _ _
  have hO1 : OB5 h1 f n := by rw [← eh1]; exact hO.li ha
  have hb1 : h1 b = some (eO cb fb) := by rw [← eh1, hu_n _ _ hba]; exact hb
  have ha1 := g2
  have hx1 : ∀ x, x ≠ a → h1 x = h x := fun x q1 => by rw [← eh1, hu_n _ _ q1]
  refine z_aload_n F dJx4a65c_add_7a177_15 rfl 0 rfl ?_
  refine z_get (v := vI 0) F g2 fJx4a65c_48 rfl dJx4a65c_add_7a177_16 ?_
  refine z_dup F dJx4a65c_add_7a177_19 rfl ?_
  refine z_istore_n (lv' := [(3, vI 0), (0, vR a), (1, vI i), (2, vR b)]) F dJx4a65c_add_7a177_20 rfl (by decide) rfl ?_
  refine z_aload_n F dJx4a65c_add_7a177_21 rfl 1 rfl ?_
  refine z_get (v := vR (G.2.2 0)) F g2 fJx4a65c_9 rfl dJx4a65c_add_7a177_22 ?_
  refine z_dup F dJx4a65c_add_7a177_25 rfl ?_
  refine z_astore (lv' := [(4, vR (G.2.2 0)), (3, vI 0), (0, vR a), (1, vI i), (2, vR b)]) F dJx4a65c_add_7a177_26 (by decide) rfl ?_
  refine z_alenE F dJx4a65c_add_7a177_28 ?_
  refine z_icmp_ne (tgt := 38) F dJx4a65c_add_7a177_29 (by decide) (by decide) (by decide) (fun c29 => ?_) (fun c29 => ?_)
  · exact absurd c29 (by decide)
  · refine z_aload_n F dJx4a65c_add_7a177_32 rfl 2 rfl ?_
    refine z_callV (As := []) (st := []) F (mGrowN0 l G N0 h1 a (mc + 1) ha1) cvJx4a65c_129 g2 (fun r9 h9 => by cases h9; rfl) rfl rfl ⟨Nat.le_of_ble_eq_true rfl, Nat.le_of_ble_eq_true rfl⟩ rfl ⟨Nat.le_of_ble_eq_true rfl, Nat.le_of_ble_eq_true rfl⟩ dJx4a65c_add_7a177_33 ?_
    rintro _ h7 ⟨q, rfl, fq, k7⟩
    have neqa : a ≠ q := fresh_ne fq ha1
    have neqb : b ≠ q := fresh_ne fq hb1
    have ga1 : h7 a = some (eO 4 [vI (mc + 1), vR q, vI 0]) := by rw [k7, hu_s]
    have gq1 : h7 q = some (eA 5 10 (fun j => vQ (none))) := by rw [k7, hu_n _ _ neqa.symm, hu_s]
    have gx1 : ∀ x, x ≠ a → x ≠ q → h7 x = h1 x := fun x q1 q2 => by rw [k7, hu_n _ _ q1, hu_n _ _ q2]
    have gb1 : h7 b = some (eO cb fb) := by rw [gx1 b hba neqb]; exact hb1
    have hO7 : OB5 h7 f n := OB5.kept hO1 gx1 ha1 (Or.inl fq)
    have fq0 : h q = none := by rw [← hx1 q neqa.symm]; exact fq
    refine z_astore (lv' := [(4, vR q), (3, vI 0), (0, vR a), (1, vI i), (2, vR b)]) F dJx4a65c_add_7a177_36 (by decide) rfl ?_
    refine z_aload F dJx4a65c_add_7a177_38 0 rfl ?_
    refine z_iload_n F dJx4a65c_add_7a177_40 rfl 3 rfl ?_
    refine z_aload F dJx4a65c_add_7a177_41 0 rfl ?_
    refine z_iload_n F dJx4a65c_add_7a177_43 rfl 3 rfl ?_
    refine z_iconst F dJx4a65c_add_7a177_44 ?_
    refine z_iadd F dJx4a65c_add_7a177_45 ?_
    refine z_iload_n F dJx4a65c_add_7a177_46 rfl 1 rfl ?_
    refine z_iload_n F dJx4a65c_add_7a177_47 rfl 3 rfl ?_
    refine z_isub F dJx4a65c_add_7a177_48 ?_
    show Z _ _ _ _ _ _ _ _ _ _ _ _ _ _ _ _ _ _ _ _ [vI (0 - i), vI (i + 1), vR q, vI i, vR q]
    refine z_acopy (f := (fun j => none)) (g := (fun j => none)) (M0 := 10) (M1 := 10) F (gq1) (gq1) (by omega) (fun i2 q1 q2 y hy => absurd hy (by simp)) ⟨q621, q370, q369, q24⟩ ⟨Nat.le_of_ble_eq_true rfl, Nat.le_of_ble_eq_true rfl⟩ dJx4a65c_add_7a177_49 ?_
    obtain ⟨h3, eh3⟩ : ∃ z : Hp, hu h7 q (eA 5 10 (fun j => vQ (cpI (fun j => none) (fun j => none) i (i + 1) (0 - i) j))) = z := ⟨_, rfl⟩
    rw [eh3]
    have gbh3 : h3 b = some (eO cb fb) := by rw [← eh3, hu_n _ _ (neqb)]; exact gb1
    have g4 : h3 q = some (eA 5 10 (fun j => vQ (cpI (fun j => none) (fun j => none) i (i + 1) (0 - i) j))) := by rw [← eh3]; exact hu_s _ _ _
    have g5 : h3 a = some (eO 4 [vI (mc + 1), vR q, vI 0]) := s_hu eh3 (neqa) (ga1)
    refine z_aload F dJx4a65c_add_7a177_52 0 rfl ?_
    refine z_iload_n F dJx4a65c_add_7a177_54 rfl 3 rfl ?_
    refine z_aload_n F dJx4a65c_add_7a177_55 rfl 4 rfl ?_
    refine z_aastore (N := 10) (f := fun j => vQ (cpI (fun j => none) (fun j => none) i (i + 1) (0 - i) j)) F (g4) (gbh3) hc (by omega) (by omega) (by omega) dJx4a65c_add_7a177_56 ?_
    rw [fuq]
    obtain ⟨h6, eh6⟩ : ∃ z : Hp, hu h3 q (eA 5 10 (fun j => vQ (if j = i then some b else cpI (fun j => none) (fun j => none) i (i + 1) (0 - i) j))) = z := ⟨_, rfl⟩
    rw [eh6]
    have g7 : h6 q = some (eA 5 10 (fun j => vQ (if j = i then some b else cpI (fun j => none) (fun j => none) i (i + 1) (0 - i) j))) := by rw [← eh6]; exact hu_s _ _ _
    have g8 : h6 a = some (eO 4 [vI (mc + 1), vR q, vI 0]) := s_hu eh6 (neqa) (g5)
    refine z_aload_n F dJx4a65c_add_7a177_57 rfl 2 rfl ?_
    refine z_iload_n F dJx4a65c_add_7a177_58 rfl 1 rfl ?_
    refine z_iconst F dJx4a65c_add_7a177_59 ?_
    refine z_iadd F dJx4a65c_add_7a177_60 ?_
    obtain ⟨h9, eh9⟩ : ∃ z : Hp, hu h6 a (eO 4 [vI (mc + 1), vR q, vI (0 + 1)]) = z := ⟨_, rfl⟩
    refine z_put (fs := [vI (mc + 1), vR q, vI 0]) (fs' := [vI (mc + 1), vR q, vI (0 + 1)]) (h' := h9) F g8 fJx4a65c_48 ftJx4a65c_2 (nf_i _) (Nat.le_of_ble_eq_true rfl) rfl dJx4a65c_add_7a177_61 eh9 ?_
    have g10 : h9 a = some (eO 4 [vI (mc + 1), vR q, vI (0 + 1)]) := by rw [← eh9]; exact hu_s _ _ _
    have g11 : h9 q = some (eA 5 10 (fun j => vQ (if j = i then some b else cpI (fun j => none) (fun j => none) i (i + 1) (0 - i) j))) := s_hu eh9 (Ne.symm (neqa)) (g7)
    have hfr : ∀ x, x ≠ a → x ≠ q → h9 x = h x := fun x q1 q2 => by rw [← eh9, hu_n _ _ (q1), ← eh6, hu_n _ _ (q2), ← eh3, hu_n _ _ (q2), gx1 x q1 q2, hx1 x q1]
    have hf1 : ∀ j : Int, 0 ≤ j → (fun j => if j = i then some b else cpI (fun j => none) (fun j => none) i (i + 1) (0 - i) j) j = if j < i then f j else if j = i then some b else f (j - 1) := by first | exact ins_f (F := fun j => none) (fun j hj => (hz j (by omega)).symm) hz hi | (subst hn0; exact ins_f (F := fun j => none) (fun j hj => (hz j (by omega)).symm) hz hi)
    have hob1 : OB5 h9 f n := OB5.kept hO hfr ha (Or.inl fq0)
    have hbb : h9 b = some (eO cb fb) := by rw [hfr b hba (neqb)]; exact hb
    exact z_vret F hr (by first | exact Nat.le_of_ble_eq_true rfl | omega | (simp only []; omega)) (by first | exact Nat.le_of_ble_eq_true rfl | omega | (simp only []; omega)) dJx4a65c_add_7a177_64 (⟨rfl, q, 10, fun j => if j = i then some b else cpI (fun j => none) (fun j => none) i (i + 1) (0 - i) j, ⟨(by first | exact g10 | (rw [hn0]; exact g10)), Or.inr ⟨g11, by omega⟩, by omega, fun j hj => by rw [hf1 j (by omega), if_neg (by omega), if_neg (by omega)]; exact hz (j - 1) (by omega), hob1.ins hi.1 hbb hc hf1 hi.2⟩, hf1, Or.inr fq0, hfr, by omega⟩)
theorem mAddI (l : Launch) (G : GG) (N0 : Nat) (h : Hp) (a e0 N b cb : Nat) (fb : List AV) (mc n i : Int) (f : Int → Option Nat) (H : LI G h a e0 N mc n f) (hn : n ≤ 40) (hi : 0 ≤ i ∧ i ≤ n) (hb : h b = some (eO cb fb)) (hc : ∀ r : vw_C, kCl[cb]? = some r → (r.1, "java/lang/Object") ∈ castL) (hba : b ≠ a) : Ct l G N0 yJx4a65c_add_7a177 (Cond.code yJx4a65c_add_7a177 cJx4a65c_add_7a177 5 none :: LW) ({ frames := 5, cells := 1, slots := 100, locals := 300 }) [vR a, vI i, vR b] h (fun r h' => r = none ∧ PI G h a e0 N b (mc + 1) n i f h') := by
  obtain ⟨ha, he, hN, hz, hO⟩ := H
  rcases he with ⟨q1, q2, q3⟩ | ⟨he, hp⟩
  · subst q3
    subst q2
    exact mAddI0 l G N0 h a (G.2.2 0) N b cb fb mc 0 i f ha rfl hi hz hO hb hc hba
  · by_cases q : n = N
    · exact mAddI1 l G N0 h a e0 N b cb fb mc n i f ha he ⟨q, hp, by omega⟩ hi hz hO hb hc hba
    · exact mAddI2 l G N0 h a e0 N b cb fb mc n i f ha he ⟨hN.1, by omega, hN.2.2⟩ hi hz hO hb hc hba
