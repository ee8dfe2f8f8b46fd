/-! SPEC 2: texts, rounding, open time (over single fields, so that a chain of stores reduces) -/
/-- f's first n cells are the text L -/
def TX (f : Int → Int) (n : Int) (L : List Int) : Prop := n = (L.length : Int) ∧ ∀ i : Nat, i < L.length → f (i : Int) = L.getD i 0
theorem TX.nil {f : Int → Int} : TX f 0 [] := ⟨rfl, fun i h => absurd h (Nat.not_lt_zero i)⟩
theorem TX.push {f : Int → Int} {n : Int} {L : List Int} (h : TX f n L) (c : Int) : TX (fun j => if j = n then c else f j) (n + 1) (L ++ [c]) := by
  obtain ⟨h1, h2⟩ := h
  refine ⟨by rw [List.length_append]; simp; omega, fun i hi => ?_⟩
  rw [List.length_append] at hi
  simp at hi
  show (if (i : Int) = n then c else f (i : Int)) = _
  by_cases q : i = L.length
  · subst q
    rw [if_pos h1.symm]
    simp [List.getD]
  · rw [if_neg (by omega), h2 i (by omega)]
    simp only [List.getD]
    rw [List.getElem?_append_left (by omega)]
/-- an int's decimal text -/
def decL (v : Int) : List Int :=
  if v < 10 then [48 + v / 1 % 10] else if v < 100 then [48 + v / 10 % 10, 48 + v / 1 % 10] else if v < 1000 then [48 + v / 100 % 10, 48 + v / 10 % 10, 48 + v / 1 % 10]
  else if v < 10000 then [48 + v / 1000 % 10, 48 + v / 100 % 10, 48 + v / 10 % 10, 48 + v / 1 % 10] else if v < 100000 then [48 + v / 10000 % 10, 48 + v / 1000 % 10, 48 + v / 100 % 10, 48 + v / 10 % 10, 48 + v / 1 % 10]
  else [48 + v / 100000 % 10, 48 + v / 10000 % 10, 48 + v / 1000 % 10, 48 + v / 100 % 10, 48 + v / 10 % 10, 48 + v / 1 % 10]
theorem decL_len (v : Int) : (decL v).length ≤ 6 := by
  unfold decL
  repeat' split
  all_goals simp
/-- every place of a text is a sign -/
def CH (f : Int → Int) : Prop := ∀ j, 0 ≤ j → j < 60 → 0 ≤ f j ∧ f j < 65536
def RF (f : Int → Int) : Prop := ∀ j, -2147483648 ≤ f j ∧ f j < 2147483648
theorem RF.set {f : Int → Int} (h : RF f) {i v : Int} (hv : -2147483648 ≤ v ∧ v < 2147483648) : RF (fun j => if j = i then v else f j) := fun j => by
  show -2147483648 ≤ (if j = i then v else f j) ∧ (if j = i then v else f j) < 2147483648
  have := h j
  split <;> omega
theorem CH.set {f : Int → Int} (h : CH f) {i v : Int} (hv : 0 ≤ v ∧ v < 65536) : CH (fun j => if j = i then v else f j) := fun j h1 h2 => by
  show 0 ≤ (if j = i then v else f j) ∧ (if j = i then v else f j) < 65536
  have := h j h1 h2
  split <;> omega
theorem i2c_id {x : Int} (h : 0 ≤ x ∧ x < 65536) : ((iI x).toUInt32 % 65536).toInt32 = iI x := by
  rw [iI_nI h.1, pk_char, pk_tn (by omega), Nat.mod_eq_of_lt (by omega)]
/-- seconds rounded to minutes -/
def rndS (u mo s : Int) : Int := if (mo = 117 ∧ 0 < s % (60 * u)) ∨ (mo ≠ 117 ∧ mo = 110 ∧ 60 * u ≤ 2 * (s % (60 * u))) then u * (s / (60 * u) + 1) else u * (s / (60 * u))
theorem rndS_in {u mo s : Int} (hu : 1 ≤ u ∧ u ≤ 60) (hs : 0 ≤ s) : 0 ≤ rndS u mo s ∧ rndS u mo s ≤ s + 60 := by
  have h0 : 0 ≤ s / (60 * u) := Int.ediv_nonneg hs (by omega)
  have h1 : u * (s / (60 * u)) * 60 ≤ s := by
    have := Int.mul_ediv_add_emod s (60 * u)
    have h2 : 0 ≤ s % (60 * u) := Int.emod_nonneg _ (by omega)
    have e : u * (s / (60 * u)) * 60 = 60 * u * (s / (60 * u)) := by
      rw [Int.mul_comm _ 60, ← Int.mul_assoc]
    omega
  have h3 : 0 ≤ u * (s / (60 * u)) := Int.mul_nonneg (by omega) h0
  have h4 : u * (s / (60 * u) + 1) = u * (s / (60 * u)) + u := by rw [Int.mul_add, Int.mul_one]
  unfold rndS
  rw [h4]
  split <;> omega
theorem rndS_0 {u mo : Int} (hu : 1 ≤ u ∧ u ≤ 60) : rndS u mo 0 = 0 := by
  unfold rndS
  simp
  omega
def blI (ow sa : Int → Int) (e c wr : Int) : Int := if ow e = c ∧ (sa e = 101 ∨ (wr ≠ 0 ∧ sa e = 114)) then 1 else 0
theorem blI_in (ow sa : Int → Int) (e c wr : Int) : blI ow sa e c wr = 0 ∨ blI ow sa e c wr = 1 := by unfold blI; split <;> simp
def ahI (st : Int → Int) (a b : Int) : Int := if st a < st b ∨ (st a = st b ∧ a < b) then 1 else 0
theorem ahI_in (st : Int → Int) (a b : Int) : ahI st a b = 0 ∨ ahI st a b = 1 := by unfold ahI; split <;> simp
/-- the next entry behind e among the first n; -1 if there is none -/
def bhF (ow sa st : Int → Int) (c e wr : Int) : Nat → Int
  | 0 => -1
  | n + 1 => if blI ow sa (n : Int) c wr = 1 ∧ (e < 0 ∨ ahI st e (n : Int) = 1) ∧ (bhF ow sa st c e wr n < 0 ∨ ahI st (n : Int) (bhF ow sa st c e wr n) = 1) then (n : Int) else bhF ow sa st c e wr n
theorem bhF_in (ow sa st : Int → Int) (c e wr : Int) : ∀ n : Nat, -1 ≤ bhF ow sa st c e wr n ∧ bhF ow sa st c e wr n < n
  | 0 => ⟨Int.le_refl _, by rw [bhF]; decide⟩
  | n + 1 => by
    have := bhF_in ow sa st c e wr n
    rw [bhF]
    split <;> omega
theorem bhF_s (ow sa st : Int → Int) (c e wr : Int) {i : Int} (h : 0 ≤ i) : bhF ow sa st c e wr (i + 1).toNat = if blI ow sa i c wr = 1 ∧ (e < 0 ∨ ahI st e i = 1) ∧ (bhF ow sa st c e wr i.toNat < 0 ∨ ahI st i (bhF ow sa st c e wr i.toNat) = 1) then i else bhF ow sa st c e wr i.toNat := by
  rw [(toN_s h).1, bhF, (toN_s h).2]
/-- the sum of f over the client's entries, among the first n, ahead of e -/
def ahS (ow sa st f : Int → Int) (c e wr : Int) : Nat → Int
  | 0 => 0
  | n + 1 => ahS ow sa st f c e wr n + (if blI ow sa (n : Int) c wr = 1 ∧ ahI st (n : Int) e = 1 then f (n : Int) else 0)
theorem ahS_s (ow sa st f : Int → Int) (c e wr : Int) {i : Int} (h : 0 ≤ i) : ahS ow sa st f c e wr (i + 1).toNat = ahS ow sa st f c e wr i.toNat + (if blI ow sa i c wr = 1 ∧ ahI st i e = 1 then f i else 0) := by
  rw [(toN_s h).1, ahS, (toN_s h).2]
theorem ahS_in {ow sa st f : Int → Int} {c e wr M : Int} {N : Nat} (hM : 0 ≤ M) (hf : ∀ x : Int, 0 ≤ x → x < N → 0 ≤ f x ∧ f x ≤ M) : ∀ n : Nat, n ≤ N → 0 ≤ ahS ow sa st f c e wr n ∧ ahS ow sa st f c e wr n ≤ M * n
  | 0, _ => by simp [ahS]
  | n + 1, h => by
    have h1 := ahS_in (ow := ow) (sa := sa) (st := st) (c := c) (e := e) (wr := wr) hM hf n (by omega)
    have h2 := hf (n : Int) (by omega) (by omega)
    rw [ahS]
    have e2 : M * ((n + 1 : Nat) : Int) = M * n + M := by rw [Int.natCast_add, Int.mul_add]; simp
    rw [e2]
    split <;> omega
theorem ahS_c {ow sa st f f' : Int → Int} {c e wr : Int} : ∀ n : Nat, (∀ x : Int, 0 ≤ x → x < n → f x = f' x) → ahS ow sa st f c e wr n = ahS ow sa st f' c e wr n
  | 0, _ => rfl
  | n + 1, h => by rw [ahS, ahS, ahS_c n (fun x h1 h2 => h x h1 (by omega)), h (n : Int) (by omega) (by omega)]
/-- the sum of a day's cells over the client's entries -/
def dyO (ow sa D : Int → Int) (c d wr : Int) : Nat → Int
  | 0 => 0
  | n + 1 => dyO ow sa D c d wr n + (if blI ow sa (n : Int) c wr = 1 then D (5 * (n : Int) + d) else 0)
theorem dyO_s (ow sa D : Int → Int) (c d wr : Int) {i : Int} (h : 0 ≤ i) : dyO ow sa D c d wr (i + 1).toNat = dyO ow sa D c d wr i.toNat + (if blI ow sa i c wr = 1 then D (5 * i + d) else 0) := by
  rw [(toN_s h).1, dyO, (toN_s h).2]
theorem dyO_in {ow sa D : Int → Int} {c d wr M : Int} {N : Nat} (hM : 0 ≤ M) (hf : ∀ x : Int, 0 ≤ x → x < N → 0 ≤ D (5 * x + d) ∧ D (5 * x + d) ≤ M) : ∀ n : Nat, n ≤ N → 0 ≤ dyO ow sa D c d wr n ∧ dyO ow sa D c d wr n ≤ M * n
  | 0, _ => by simp [dyO]
  | n + 1, h => by
    have h1 := dyO_in (ow := ow) (sa := sa) (c := c) (d := d) (wr := wr) hM hf n (by omega)
    have h2 := hf (n : Int) (by omega) (by omega)
    rw [dyO]
    have e2 : M * ((n + 1 : Nat) : Int) = M * n + M := by rw [Int.natCast_add, Int.mul_add]; simp
    rw [e2]
    split <;> omega
theorem dyO_c {ow sa D D' : Int → Int} {c d wr : Int} : ∀ n : Nat, (∀ x : Int, 0 ≤ x → x < n → D (5 * x + d) = D' (5 * x + d)) → dyO ow sa D c d wr n = dyO ow sa D' c d wr n
  | 0, _ => rfl
  | n + 1, h => by rw [dyO, dyO, dyO_c n (fun x h1 h2 => h x h1 (by omega)), h (n : Int) (by omega) (by omega)]
/-- an open entry's rounded minutes -/
def rdO (ow sa st f : Int → Int) (lv u mo c e wr : Int) (n : Nat) : Int := if lv = 101 then rndS u mo (f e) else rndS u mo (ahS ow sa st f c e wr n + f e) - rndS u mo (ahS ow sa st f c e wr n)
/-- a client's open minutes, entry by entry; day by day -/
def opE (ow sa st f : Int → Int) (lv u mo c : Int) (N : Nat) : Nat → Int
  | 0 => 0
  | n + 1 => opE ow sa st f lv u mo c N n + (if blI ow sa (n : Int) c 1 = 1 then rdO ow sa st f lv u mo c (n : Int) 1 N else 0)
theorem opE_s (ow sa st f : Int → Int) (lv u mo c : Int) (N : Nat) {i : Int} (h : 0 ≤ i) : opE ow sa st f lv u mo c N (i + 1).toNat = opE ow sa st f lv u mo c N i.toNat + (if blI ow sa i c 1 = 1 then rdO ow sa st f lv u mo c i 1 N else 0) := by
  rw [(toN_s h).1, opE, (toN_s h).2]
def opD (ow sa D : Int → Int) (u mo c : Int) (N : Nat) : Nat → Int
  | 0 => 0
  | n + 1 => opD ow sa D u mo c N n + rndS u mo (dyO ow sa D c (n : Int) 1 N)
theorem opD_s (ow sa D : Int → Int) (u mo c : Int) (N : Nat) {i : Int} (h : 0 ≤ i) : opD ow sa D u mo c N (i + 1).toNat = opD ow sa D u mo c N i.toNat + rndS u mo (dyO ow sa D c i 1 N) := by
  rw [(toN_s h).1, opD, (toN_s h).2]
def opO (ow sa st f D : Int → Int) (lv u mo c : Int) (N : Nat) : Int := if lv = 100 then opD ow sa D u mo c N 5 else opE ow sa st f lv u mo c N N
/-! the counted seconds do not look at the scratch fields -/
theorem cvI_c (σ : Sg) (v : Int) : cvI (su σ 30 0 v) = cvI σ := rfl
theorem cnt_c (σ : Sg) (v m : Int) : ∀ n : Nat, cnt (su σ 30 0 v) m n = cnt σ m n
  | 0 => rfl
  | n + 1 => by rw [cnt, cnt, cnt_c σ v m n, cvI_c]
theorem lat_c (σ : Sg) (v m : Int) : ∀ n : Nat, lat (su σ 30 0 v) m n = lat σ m n
  | 0 => rfl
  | n + 1 => by
    rw [lat, lat, lat_c σ v m n, cvI_c, cnt_c]
    rfl
theorem shI_c (σ : Sg) (v : Int) : shI (su σ 30 0 v) = shI σ := by
  funext e m
  unfold shI
  rw [cvI_c, cnt_c, cnt_c, lat_c]
  rfl
theorem secS_c (σ : Sg) (v e : Int) : secS (su σ 30 0 v) e = secS σ e := by
  unfold secS
  rw [shI_c]
  rfl
theorem dayS_c (σ : Sg) (v e d : Int) : dayS (su σ 30 0 v) e d = dayS σ e d := by
  unfold dayS dayF
  rw [shI_c]
  rfl
theorem secS_in {σ : Sg} (hV : MV σ) {e : Int} (h0 : 0 ≤ e) (h1 : e < σ 8 0) : 0 ≤ secS σ e ∧ secS σ e ≤ 180000 := by
  obtain ⟨v0, v1, v2, v8, v16, v24, v29, vC, vE, vL, vK, vT⟩ := id hV
  have := vE e h0 h1
  have := shs_in (σ := σ) (e := e) h0 h1 (σ 0 0).toNat
  unfold secS
  split <;> omega
theorem dayS_in {σ : Sg} (hV : MV σ) {e d : Int} (h0 : 0 ≤ e) (h1 : e < σ 8 0) : 0 ≤ dayS σ e d ∧ dayS σ e d ≤ 180000 := by
  obtain ⟨v0, v1, v2, v8, v16, v24, v29, vC, vE, vL, vK, vT⟩ := id hV
  have := dys_in (σ := σ) (e := e) (d := d) h0 h1 (σ 0 0).toNat
  unfold dayS
  omega
theorem TXa {g : Nat → Nat} {σ : Sg} {h : Hp} {i c n : Int} (H : MI g (su (su σ 28 i c) 29 0 n) h) : MI g (su (sw σ 28 (fun j => if j = i then c else σ 28 j)) 29 0 n) h := H.to (fun k j => by
  unfold su sw
  by_cases a : k = 28
  · subst a; rfl
  · simp only [if_neg a])
theorem TXb {g : Nat → Nat} {σ : Sg} {h : Hp} {f1 f2 : Int → Int} {n1 n2 : Int} (H : MI g (su (sw (su (sw σ 28 f1) 29 0 n1) 28 f2) 29 0 n2) h) : MI g (su (sw σ 28 f2) 29 0 n2) h := H.to (fun k j => by
  unfold su sw
  by_cases a : k = 29
  · subst a
    by_cases b : j = 0
    · simp only [if_pos b, if_true]
    · simp only [if_neg b, show ¬ ((29 : Nat) = 28) by decide, if_false, if_true]
  · by_cases b : k = 28
    · simp only [if_neg a, if_pos b]
    · simp only [if_neg a, if_neg b])
theorem TXc {g : Nat → Nat} {σ : Sg} {h : Hp} {f2 : Int → Int} {n1 n2 : Int} (H : MI g (su (sw (su σ 29 0 n1) 28 f2) 29 0 n2) h) : MI g (su (sw σ 28 f2) 29 0 n2) h := H.to (fun k j => by
  unfold su sw
  by_cases a : k = 29
  · subst a
    by_cases b : j = 0
    · simp only [if_pos b, if_true]
    · simp only [if_neg b, show ¬ ((29 : Nat) = 28) by decide, if_false, if_true]
  · simp only [if_neg a])
