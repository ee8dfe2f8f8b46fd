/-! SPEC OF THE CLASS: a client's entries in their order, as a list p of m places -/
def PK (ow sa st : Int → Int) (c wr n : Int) (p : Int → Int) (m : Int) : Prop :=
  (0 ≤ m ∧ m ≤ n) ∧ (∀ q, 0 ≤ q → q < m → (0 ≤ p q ∧ p q < n) ∧ blI ow sa (p q) c wr = 1) ∧ (∀ a b, 0 ≤ a → a < b → b < m → ahI st (p a) (p b) = 1) ∧ ∀ e, 0 ≤ e → e < n → blI ow sa e c wr = 1 → ∃ q, (0 ≤ q ∧ q < m) ∧ p q = e
theorem ah_iff {st : Int → Int} {a b : Int} : ahI st a b = 1 ↔ (st a < st b ∨ (st a = st b ∧ a < b)) := by
  unfold ahI
  by_cases q : st a < st b ∨ (st a = st b ∧ a < b)
  · rw [if_pos q]; exact ⟨fun _ => q, fun _ => rfl⟩
  · rw [if_neg q]; exact ⟨fun z => absurd z (by decide), fun z => absurd z q⟩
theorem PK_0 {ow sa st : Int → Int} {c wr : Int} {p : Int → Int} : PK ow sa st c wr 0 p 0 := ⟨by omega, fun q h0 h1 => by omega, fun a b h0 h1 h2 => by omega, fun e h0 h1 => by omega⟩
theorem PK_skip {ow sa st : Int → Int} {c wr i m : Int} {p : Int → Int} (H : PK ow sa st c wr i p m) (hb : ¬ blI ow sa i c wr = 1) : PK ow sa st c wr (i + 1) p m := by
  obtain ⟨h1, h2, h3, h4⟩ := H
  refine ⟨by omega, fun q q0 q1 => ?_, h3, fun e e0 e1 he => ?_⟩
  · have := h2 q q0 q1
    exact ⟨by omega, this.2⟩
  · by_cases z : e = i
    · subst z; exact absurd he hb
    · exact h4 e e0 (by omega) he
theorem PK_ins {ow sa st : Int → Int} {c wr i m pl : Int} {p : Int → Int} (H : PK ow sa st c wr i p m) (hi : 0 ≤ i) (hb : blI ow sa i c wr = 1) (hp : 0 ≤ pl ∧ pl ≤ m) (hgt : ∀ q, pl ≤ q → q < m → st i < st (p q)) (hle : pl = 0 ∨ st (p (pl - 1)) ≤ st i) : PK ow sa st c wr (i + 1) (inP p pl i) (m + 1) := by
  obtain ⟨h1, h2, h3, h4⟩ := H
  have hlt : ∀ q, 0 ≤ q → q < pl → ahI st (p q) i = 1 := fun q q0 q1 => by
    have b := h2 q q0 (by omega)
    rw [ah_iff]
    by_cases z : q = pl - 1
    · subst z; omega
    · have := ah_iff.mp (h3 q (pl - 1) q0 (by omega) (by omega))
      omega
  have hgt2 : ∀ q, pl ≤ q → q < m → ahI st i (p q) = 1 := fun q q0 q1 => by
    rw [ah_iff]
    exact Or.inl (hgt q q0 q1)
  have v1 : ∀ j, j < pl → inP p pl i j = p j := fun j hj => if_pos hj
  have v2 : inP p pl i pl = i := by unfold inP; rw [if_neg (by omega), if_pos rfl]
  have v3 : ∀ j, pl < j → inP p pl i j = p (j - 1) := fun j hj => by unfold inP; rw [if_neg (by omega), if_neg (by omega)]
  refine ⟨by omega, fun q q0 q1 => ?_, fun a b a0 ab bm => ?_, fun e e0 e1 he => ?_⟩
  · by_cases w : q < pl
    · rw [v1 q w]
      have := h2 q q0 (by omega)
      exact ⟨by omega, this.2⟩
    · by_cases z : q = pl
      · rw [z, v2]; exact ⟨by omega, hb⟩
      · rw [v3 q (by omega)]
        have := h2 (q - 1) (by omega) (by omega)
        exact ⟨by omega, this.2⟩
  · by_cases wa : a < pl
    · rw [v1 a wa]
      by_cases wb : b < pl
      · rw [v1 b wb]; exact h3 a b a0 ab (by omega)
      · by_cases zb : b = pl
        · rw [zb, v2]; exact hlt a a0 wa
        · rw [v3 b (by omega)]; exact h3 a (b - 1) a0 (by omega) (by omega)
    · by_cases za : a = pl
      · rw [za, v2, v3 b (by omega)]; exact hgt2 (b - 1) (by omega) (by omega)
      · rw [v3 a (by omega), v3 b (by omega)]; exact h3 (a - 1) (b - 1) (by omega) (by omega) (by omega)
  · by_cases z : e = i
    · exact ⟨pl, by omega, by rw [v2, z]⟩
    · obtain ⟨q, q1, q2⟩ := h4 e e0 (by omega) he
      by_cases w : q < pl
      · exact ⟨q, by omega, by rw [v1 q w]; exact q2⟩
      · exact ⟨q + 1, by omega, by rw [v3 (q + 1) (by omega), show q + 1 - 1 = q by omega]; exact q2⟩
/-- the sum of f over the first n that χ marks -/
def gS (χ f : Int → Int) : Nat → Int
  | 0 => 0
  | n + 1 => gS χ f n + (if χ (n : Int) = 1 then f (n : Int) else 0)
theorem gS_c {χ χ' f f' : Int → Int} : ∀ n : Nat, (∀ x : Int, 0 ≤ x → x < n → (χ x = 1 ↔ χ' x = 1) ∧ f x = f' x) → gS χ f n = gS χ' f' n
  | 0, _ => rfl
  | n + 1, h => by
    have a := h (n : Int) (by omega) (by omega)
    rw [gS, gS, gS_c n (fun x h0 h1 => h x h0 (by omega)), a.2]
    by_cases q : χ (n : Int) = 1
    · rw [if_pos q, if_pos (a.1.mp q)]
    · rw [if_neg q, if_neg (fun z => q (a.1.mpr z))]
theorem gS_one {χ χ' f : Int → Int} {a : Int} (ha : 0 ≤ a) (h1 : χ' a = 1) (h2 : ¬ χ a = 1) (ho : ∀ x, x ≠ a → χ' x = χ x) : ∀ n : Nat, gS χ' f n = gS χ f n + (if a < n then f a else 0)
  | 0 => by rw [if_neg (by omega)]; rfl
  | n + 1 => by
    rw [gS, gS, gS_one ha h1 h2 ho n]
    by_cases q : (n : Int) = a
    · rw [q, if_pos h1, if_neg h2, if_neg (by omega), if_pos (by omega)]
    · rw [ho _ q]
      by_cases w : a < n
      · rw [if_pos w, if_pos (show a < ((n + 1 : Nat) : Int) by omega)]; omega
      · rw [if_neg w, if_neg (show ¬ a < ((n + 1 : Nat) : Int) by omega)]; omega
/-- x stands among the first k of p -/
def inK (p : Int → Int) : Nat → Int → Int
  | 0, _ => 0
  | k + 1, x => if x = p (k : Int) then 1 else inK p k x
theorem inK_iff {p : Int → Int} {x : Int} : ∀ k : Nat, inK p k x = 1 ↔ ∃ q : Int, (0 ≤ q ∧ q < k) ∧ p q = x
  | 0 => ⟨fun h => absurd h (by unfold inK; decide), fun ⟨q, h, _⟩ => by omega⟩
  | k + 1 => by
    unfold inK
    by_cases e : x = p (k : Int)
    · rw [if_pos e]
      exact ⟨fun _ => ⟨k, by omega, e.symm⟩, fun _ => rfl⟩
    · rw [if_neg e, inK_iff k]
      constructor
      · rintro ⟨q, h, hq⟩
        exact ⟨q, by omega, hq⟩
      · rintro ⟨q, h, hq⟩
        by_cases z : q = k
        · subst z; exact absurd hq.symm e
        · exact ⟨q, by omega, hq⟩
section PKS
variable {ow sa st : Int → Int} {c wr : Int} {N : Nat} {p : Int → Int} {m : Int}
theorem ah_irr {st : Int → Int} {a : Int} : ¬ ahI st a a = 1 := fun h => by have := ah_iff.mp h; omega
theorem PK.inj (H : PK ow sa st c wr N p m) {a b : Int} (a0 : 0 ≤ a) (ab : a < b) (bm : b < m) : p a ≠ p b := fun e => by
  have := H.2.2.1 a b a0 ab bm
  rw [e] at this
  exact ah_irr this
/-- the sum over the first k places -/
theorem PK.sum (H : PK ow sa st c wr N p m) (f : Int → Int) : ∀ k : Nat, (k : Int) ≤ m → sumI (fun q => f (p q)) 0 k = gS (inK p k) f N
  | 0, _ => by
    have z : ∀ n : Nat, gS (inK p 0) f n = 0 := fun n => by
      induction n with
      | zero => rfl
      | succ n ih =>
        rw [gS, ih]
        unfold inK
        rfl
    rw [z]; rfl
  | k + 1, h => by
    have hk := H.2.1 (k : Int) (by omega) (by omega)
    have hz : ¬ inK p k (p (k : Int)) = 1 := fun z => by
      obtain ⟨q, q1, q2⟩ := (inK_iff k).mp z
      exact H.inj q1.1 q1.2 (by omega) q2
    have h1 : inK p (k + 1) (p (k : Int)) = 1 := by
      show (if p (k : Int) = p (k : Int) then 1 else inK p k (p (k : Int))) = 1
      exact if_pos rfl
    have ho : ∀ x, x ≠ p (k : Int) → inK p (k + 1) x = inK p k x := fun x hx => by
      show (if x = p (k : Int) then 1 else inK p k x) = _
      exact if_neg hx
    rw [sumI, PK.sum H f k (by omega), gS_one (χ := inK p k) (χ' := inK p (k + 1)) hk.1.1 h1 hz ho N, if_pos hk.1.2, Int.zero_add]
theorem PK.all (H : PK ow sa st c wr N p m) (f : Int → Int) : sumI (fun q => f (p q)) 0 m.toNat = gS (fun x => blI ow sa x c wr) f N := by
  have h1 := H.1
  rw [H.sum f m.toNat (by omega)]
  refine gS_c N (fun x x0 x1 => ⟨?_, rfl⟩)
  rw [inK_iff]
  constructor
  · rintro ⟨q, q1, q2⟩
    rw [← q2]
    exact (H.2.1 q q1.1 (by omega)).2
  · intro hb
    obtain ⟨q, q1, q2⟩ := H.2.2.2 x x0 x1 hb
    exact ⟨q, by omega, q2⟩
theorem PK.ah (H : PK ow sa st c wr N p m) (f : Int → Int) {k : Int} (k0 : 0 ≤ k) (k1 : k < m) : ahS ow sa st f c (p k) wr N = sumI (fun q => f (p q)) 0 k.toNat := by
  rw [H.sum f k.toNat (by omega)]
  have e : ∀ n : Nat, ahS ow sa st f c (p k) wr n = gS (fun x => if blI ow sa x c wr = 1 ∧ ahI st x (p k) = 1 then 1 else 0) f n := fun n => by
    induction n with
    | zero => rfl
    | succ n ih =>
      rw [ahS, gS, ih]
      by_cases q : blI ow sa (n : Int) c wr = 1 ∧ ahI st (n : Int) (p k) = 1
      · simp only [if_pos q]; rfl
      · simp only [if_neg q]; rfl
  rw [e]
  refine gS_c N (fun x x0 x1 => ⟨?_, rfl⟩)
  rw [inK_iff]
  constructor
  · intro h
    have h : blI ow sa x c wr = 1 ∧ ahI st x (p k) = 1 := by
      by_cases q : blI ow sa x c wr = 1 ∧ ahI st x (p k) = 1
      · exact q
      · rw [if_neg q] at h; exact absurd h (by decide)
    obtain ⟨q, q1, q2⟩ := H.2.2.2 x x0 x1 h.1
    refine ⟨q, ?_, q2⟩
    have hlt : q < k := by
      by_cases z : q = k
      · subst z; rw [q2] at h; exact absurd h.2 ah_irr
      · by_cases w : k < q
        · have a := H.2.2.1 k q k0 w q1.2
          rw [q2] at a
          exact absurd (ah_tr a h.2) ah_irr
        · omega
    omega
  · rintro ⟨q, q1, q2⟩
    have a := H.2.1 q q1.1 (by omega)
    have b := H.2.2.1 q k q1.1 (by omega) k1
    rw [q2] at a b
    exact if_pos ⟨a.2, b⟩
/-- an open entry's rounded minutes, by its place -/
theorem PK.rd (H : PK ow sa st c wr N p m) (f : Int → Int) (lv u mo : Int) {k : Int} (k0 : 0 ≤ k) (k1 : k < m) : rdO ow sa st f lv u mo c (p k) wr N = if lv = 101 then rndS u mo (f (p k)) else rndS u mo (sumI (fun q => f (p q)) 0 k.toNat + f (p k)) - rndS u mo (sumI (fun q => f (p q)) 0 k.toNat) := by
  unfold rdO
  rw [H.ah f k0 k1]
theorem PK.day (H : PK ow sa st c wr N p m) (D : Int → Int) (d : Int) : dyO ow sa D c d wr N = sumI (fun q => D (5 * p q + d)) 0 m.toNat := by
  rw [H.all (fun x => D (5 * x + d))]
  have e : ∀ n : Nat, dyO ow sa D c d wr n = gS (fun x => blI ow sa x c wr) (fun x => D (5 * x + d)) n := fun n => by
    induction n with
    | zero => rfl
    | succ n ih => rw [dyO, gS, ih]
  exact e N
theorem tele (F : Int → Int) (s : Int → Int) : ∀ k : Nat, sumI (fun q => F (sumI s 0 q.toNat + s q) - F (sumI s 0 q.toNat)) 0 k = F (sumI s 0 k) - F 0
  | 0 => by simp [sumI]
  | k + 1 => by
    rw [sumI, tele F s k, sumI, Int.zero_add, Int.toNat_natCast]
    omega
end PKS
section PKO
variable {ow sa st : Int → Int} {c : Int} {N : Nat} {p : Int → Int} {m : Int}
theorem PK.opEs (H : PK ow sa st c 1 N p m) (f : Int → Int) (lv u mo : Int) : opE ow sa st f lv u mo c N N = sumI (fun q => rdO ow sa st f lv u mo c (p q) 1 N) 0 m.toNat := by
  rw [H.all (fun x => rdO ow sa st f lv u mo c x 1 N)]
  have e : ∀ n : Nat, opE ow sa st f lv u mo c N n = gS (fun x => blI ow sa x c 1) (fun x => rdO ow sa st f lv u mo c x 1 N) n := fun n => by
    induction n with
    | zero => rfl
    | succ n ih => rw [opE, gS, ih]
  exact e N
/-- with carried remainders: the rounded sum of all -/
theorem PK.opC (H : PK ow sa st c 1 N p m) (f D : Int → Int) {lv u mo : Int} (hl : lv = 99) (hu : 1 ≤ u ∧ u ≤ 60) : opO ow sa st f D lv u mo c N = rndS u mo (sumI (fun q => f (p q)) 0 m.toNat) := by
  have h1 := H.1
  unfold opO
  rw [if_neg (by omega), H.opEs, sumI_g (f' := fun q => rndS u mo (sumI (fun q => f (p q)) 0 q.toNat + f (p q)) - rndS u mo (sumI (fun q => f (p q)) 0 q.toNat)) m.toNat (fun q q0 q1 => by
    show rdO _ _ _ _ _ _ _ _ _ _ _ = _
    rw [H.rd f lv u mo q0 (by omega), if_neg (by omega)]), tele (rndS u mo) (fun q => f (p q)) m.toNat, rndS_0 hu]
  omega
/-- the next one behind: what it is -/
theorem bh_spec (ow sa st : Int → Int) (c wr e : Int) : ∀ n : Nat, (bhF ow sa st c e wr n = -1 ∧ ∀ y : Int, 0 ≤ y → y < n → blI ow sa y c wr = 1 → ¬ (e < 0 ∨ ahI st e y = 1)) ∨ ((0 ≤ bhF ow sa st c e wr n ∧ bhF ow sa st c e wr n < n) ∧ blI ow sa (bhF ow sa st c e wr n) c wr = 1 ∧ (e < 0 ∨ ahI st e (bhF ow sa st c e wr n) = 1) ∧ ∀ y : Int, 0 ≤ y → y < n → blI ow sa y c wr = 1 → (e < 0 ∨ ahI st e y = 1) → y = bhF ow sa st c e wr n ∨ ahI st (bhF ow sa st c e wr n) y = 1)
  | 0 => Or.inl ⟨rfl, fun y h0 h1 => by omega⟩
  | n + 1 => by
    have ih := bh_spec ow sa st c wr e n
    rw [bhF]
    by_cases q : blI ow sa (n : Int) c wr = 1 ∧ (e < 0 ∨ ahI st e (n : Int) = 1) ∧ (bhF ow sa st c e wr n < 0 ∨ ahI st (n : Int) (bhF ow sa st c e wr n) = 1)
    · rw [if_pos q]
      refine Or.inr ⟨by omega, q.1, q.2.1, fun y y0 y1 hb hy => ?_⟩
      by_cases z : y = n
      · exact Or.inl z
      · rcases ih with ⟨i1, i2⟩ | ⟨i1, i2, i3, i4⟩
        · exact absurd hy (i2 y y0 (by omega) hb)
        · have hn : ahI st (n : Int) (bhF ow sa st c e wr n) = 1 := by
            rcases q.2.2 with w | w
            · omega
            · exact w
          rcases i4 y y0 (by omega) hb hy with w | w
          · rw [w]; exact Or.inr hn
          · exact Or.inr (ah_tr hn w)
    · rw [if_neg q]
      rcases ih with ⟨i1, i2⟩ | ⟨i1, i2, i3, i4⟩
      · refine Or.inl ⟨i1, fun y y0 y1 hb hy => ?_⟩
        by_cases z : y = n
        · subst z
          exact q ⟨hb, hy, Or.inl (by omega)⟩
        · exact i2 y y0 (by omega) hb hy
      · refine Or.inr ⟨by omega, i2, i3, fun y y0 y1 hb hy => ?_⟩
        by_cases z : y = n
        · subst z
          have w : ¬ ahI st (n : Int) (bhF ow sa st c e wr n) = 1 := fun w => q ⟨hb, hy, Or.inr w⟩
          rw [ah_iff] at w ⊢
          omega
        · exact i4 y y0 (by omega) hb hy
theorem PK.bh {wr : Int} (H : PK ow sa st c wr N p m) {k : Int} (k0 : -1 ≤ k) (k1 : k < m) {e : Int} (he : if k = -1 then e < 0 else e = p k) : bhF ow sa st c e wr N = if k + 1 < m then p (k + 1) else -1 := by
  have hcand : ∀ q, 0 ≤ q → q < m → ((e < 0 ∨ ahI st e (p q) = 1) ↔ k < q) := fun q q0 q1 => by
    by_cases z : k = -1
    · rw [if_pos z] at he
      exact ⟨fun _ => by omega, fun _ => Or.inl he⟩
    · rw [if_neg z] at he
      have hk := (H.2.1 k (by omega) k1).1
      constructor
      · rintro (w | w)
        · omega
        · rw [he] at w
          by_cases v : k < q
          · exact v
          · by_cases x : q = k
            · subst x; exact absurd w ah_irr
            · exact absurd (ah_tr w (H.2.2.1 q k q0 (by omega) k1)) ah_irr
      · intro v
        rw [he]
        exact Or.inr (H.2.2.1 k q (by omega) v q1)
  rcases bh_spec ow sa st c wr e N with ⟨i1, i2⟩ | ⟨i1, i2, i3, i4⟩
  · rw [i1]
    by_cases z : k + 1 < m
    · have a := H.2.1 (k + 1) (by omega) z
      exact absurd ((hcand (k + 1) (by omega) z).mpr (by omega)) (i2 _ a.1.1 a.1.2 a.2)
    · rw [if_neg z]
  · obtain ⟨q, q1, q2⟩ := H.2.2.2 _ i1.1 i1.2 i2
    have hq : k < q := (hcand q q1.1 q1.2).mp (by rw [q2]; exact i3)
    rw [if_pos (by omega)]
    by_cases z : q = k + 1
    · rw [← z]; exact q2.symm
    · have a := H.2.1 (k + 1) (by omega) (by omega)
      rcases i4 (p (k + 1)) a.1.1 a.1.2 a.2 ((hcand (k + 1) (by omega) (by omega)).mpr (by omega)) with w | w
      · exact w.symm
      · rw [← q2] at w
        exact absurd (ah_tr w (H.2.2.1 (k + 1) q (by omega) (by omega) q1.2)) ah_irr
/-- the lines of the first k places -/
def eP (F : Int → Int) (p : Int → Int) : Nat → List Ln
  | 0 => []
  | k + 1 => eP F p k ++ [(101, p (k : Int), F (p (k : Int)))]
theorem eP_s (F p : Int → Int) {i : Int} (h : 0 ≤ i) : eP F p (i + 1).toNat = eP F p i.toNat ++ [(101, p i, F (p i))] := by
  rw [(toN_s h).1, eP, (toN_s h).2]
theorem eP_len (F p : Int → Int) : ∀ k : Nat, (eP F p k).length = k
  | 0 => rfl
  | k + 1 => by rw [eP, List.length_append, eP_len F p k]; rfl
theorem PK.eLis (H : PK ow sa st c 0 N p m) (f : Int → Int) (lv u mo : Int) : ∀ (K : Nat) (k : Int), 0 ≤ k → k ≤ m → m - k ≤ K → eP (fun x => rdO ow sa st f lv u mo c x 0 N) p k.toNat ++ eLi ow sa st f lv u mo c N K (if k < m then p k else -1) = eP (fun x => rdO ow sa st f lv u mo c x 0 N) p m.toNat
  | 0, k, k0, k1, k2 => by
    rw [show k = m by omega]
    show _ ++ [] = _
    rw [List.append_nil]
  | K + 1, k, k0, k1, k2 => by
    by_cases z : k < m
    · have a := (H.2.1 k k0 z).1
      rw [if_pos z, eLi, if_neg (by omega), H.bh (k := k) (by omega) z (by rw [if_neg (by omega)]), ← PK.eLis H f lv u mo K (k + 1) (by omega) (by omega) (by omega), eP_s _ _ k0, List.append_assoc]
      rfl
    · rw [if_neg z, eLi_neg _ _ _ _ _ _ _ _ _ _ (by decide), List.append_nil, show k = m by omega]
end PKO
