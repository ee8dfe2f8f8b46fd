/-! SPEC OF THE CLASS: bounds; relations of states; sums over minutes -/
/-- the sum of an invoice's first n amounts -/
def amS (ρ : Sg) (i : Int) : Nat → UInt32
  | 0 => 0
  | n + 1 => FP.fadd (amS ρ i n) (fb (ρ 22 (40 * i + n)))
/-- 0, or a normal number -/
def NB (x : UInt32) : Prop := x = 0 ∨ (2 ^ 23 ≤ x.toNat % 2 ^ 31 ∧ x.toNat % 2 ^ 31 < 239 * 2 ^ 23)
def MC (ρ : Sg) : Prop :=
  (0 ≤ ρ 0 0 ∧ ρ 0 0 ≤ 2999) ∧ (ρ 1 0 = 102 ∨ ρ 1 0 = 108 ∨ ρ 1 0 = 115) ∧ (0 ≤ ρ 2 0 ∧ ρ 2 0 ≤ 5) ∧ (0 ≤ ρ 8 0 ∧ ρ 8 0 ≤ 24) ∧ (0 ≤ ρ 16 0 ∧ ρ 16 0 ≤ 8) ∧ (0 ≤ ρ 24 0 ∧ ρ 24 0 ≤ 16) ∧ (ρ 39 0 = ρ 16 0 ∧ cst ρ 114 (ρ 8 0).toNat ≤ 4) ∧
  (∀ i, 0 ≤ i → i < ρ 2 0 → (1 ≤ ρ 3 i ∧ ρ 3 i ≤ 60) ∧ (ρ 4 i = 117 ∨ ρ 4 i = 100 ∨ ρ 4 i = 110) ∧ (ρ 5 i = 101 ∨ ρ 5 i = 100 ∨ ρ 5 i = 99) ∧ (0 ≤ ρ 6 i ∧ ρ 6 i ≤ 50000) ∧ (0 ≤ ρ 7 i ∧ ρ 7 i ≤ 9999)) ∧
  (∀ e, 0 ≤ e → e < ρ 8 0 → (0 ≤ ρ 9 e ∧ ρ 9 e < ρ 2 0) ∧ (0 ≤ ρ 10 e ∧ ρ 10 e ≤ ρ 11 e ∧ ρ 11 e ≤ ρ 0 0) ∧ (ρ 12 e = 114 ∨ ρ 12 e = 101 ∨ ρ 12 e = 102 ∨ ρ 12 e = 120) ∧ (ρ 12 e = 114 → ρ 11 e = ρ 0 0) ∧ (0 ≤ ρ 13 e ∧ ρ 13 e ≤ 180000)) ∧
  (∀ i, 0 ≤ i → i < ρ 16 0 → (0 ≤ ρ 17 i ∧ ρ 17 i ≤ 40) ∧ (0 ≤ ρ 18 i ∧ ρ 18 i < ρ 2 0) ∧ ρ 31 i = lnS ρ i (ρ 17 i).toNat ∧ fb (ρ 23 i) = amS ρ i (ρ 17 i).toNat ∧ NB (fb (ρ 23 i)) ∧ (∀ q, 0 ≤ q → q < ρ 17 i → (-100000 ≤ ρ 20 (40 * i + q) ∧ ρ 20 (40 * i + q) ≤ 100000) ∧ (0 ≤ ρ 19 (40 * i + q) ∧ ρ 19 (40 * i + q) < 65536) ∧ MG 159 (fb (ρ 22 (40 * i + q))))) ∧
  (∀ c, 0 ≤ c → c < ρ 24 0 → (ρ 27 c = 0 ∨ ρ 27 c = 1) ∧ (0 ≤ ρ 25 c ∧ ρ 25 c < ρ 8 0) ∧ ρ 12 (ρ 25 c) = 102 ∧ (-600 ≤ ρ 26 c ∧ ρ 26 c ≤ 600)) ∧
  ((∀ i, ρ 2 0 ≤ i → ρ 7 i = 0) ∧ (∀ e, ρ 8 0 ≤ e → ρ 13 e = 0) ∧ (∀ c, ρ 24 0 ≤ c → ρ 27 c = 0) ∧ (∀ i, ρ 16 0 ≤ i → ρ 17 i = 0 ∧ ρ 23 i = 0)) ∧
  ((0 ≤ ρ 29 0 ∧ ρ 29 0 ≤ ρ 37 0) ∧ (ρ 37 0 = 16 ∨ ρ 37 0 = 34) ∧ (∀ j, 0 ≤ j → j < ρ 37 0 → -128 ≤ ρ 28 j ∧ ρ 28 j < 128) ∧ (∀ j, 0 ≤ j → j < ρ 29 0 → 0 ≤ ρ 28 j))
def scrB (k : Nat) : Bool := k == 14 || k == 15 || (32 ≤ k && k ≤ 36) || k == 40
/-- the same but for scratch fields -/
def SQ (ρ ρ' : Sg) : Prop := ∀ k, scrB k = false → ρ' k = ρ k
theorem SQ.refl (ρ : Sg) : SQ ρ ρ := fun _ _ => rfl
theorem SQ.trans {a b c : Sg} (h1 : SQ a b) (h2 : SQ b c) : SQ a c := fun k hk => (h2 k hk).trans (h1 k hk)
theorem SQ.su {ρ ρ' : Sg} (q : SQ ρ ρ') {k : Nat} (hk : scrB k = true) (i v : Int) : SQ ρ (su ρ' k i v) := fun k' h => by
  have hn : k' ≠ k := fun z => by rw [z, hk] at h; cases h
  rw [← q k' h]
  funext j
  exact if_neg hn
theorem SQ.sw {ρ ρ' : Sg} (q : SQ ρ ρ') {k : Nat} (hk : scrB k = true) (f : Int → Int) : SQ ρ (sw ρ' k f) := fun k' h => by
  have hn : k' ≠ k := fun z => by rw [z, hk] at h; cases h
  rw [← q k' h]
  funext j
  exact if_neg hn
theorem lnS_f {ρ ρ' : Sg} (h : ρ' 20 = ρ 20) (i : Int) : ∀ n : Nat, lnS ρ' i n = lnS ρ i n
  | 0 => rfl
  | n + 1 => by rw [lnS, lnS, lnS_f h i n, h]
theorem amS_f {ρ ρ' : Sg} (h : ρ' 22 = ρ 22) (i : Int) : ∀ n : Nat, amS ρ' i n = amS ρ i n
  | 0 => rfl
  | n + 1 => by rw [amS, amS, amS_f h i n, h]
/-- the same but for scratch fields and addresses -/
def adB (k : Nat) : Bool := 41 ≤ k && k ≤ 49
def SA (ρ ρ' : Sg) : Prop := ∀ k, (scrB k || adB k) = false → ρ' k = ρ k
theorem SQ.sa {ρ ρ' : Sg} (q : SQ ρ ρ') : SA ρ ρ' := fun k hk => q k (by cases e : scrB k with | true => rw [e] at hk; cases hk | false => rfl)
theorem SA.refl (ρ : Sg) : SA ρ ρ := fun _ _ => rfl
theorem SA.trans {a b c : Sg} (h1 : SA a b) (h2 : SA b c) : SA a c := fun k hk => (h2 k hk).trans (h1 k hk)
theorem SA.su {ρ ρ' : Sg} (q : SA ρ ρ') {k : Nat} (hk : (scrB k || adB k) = true) (i v : Int) : SA ρ (su ρ' k i v) := fun k' h => by
  have hn : k' ≠ k := fun z => by rw [z, hk] at h; cases h
  rw [← q k' h]
  funext j
  exact if_neg hn
theorem SA.sw {ρ ρ' : Sg} (q : SA ρ ρ') {k : Nat} (hk : (scrB k || adB k) = true) (f : Int → Int) : SA ρ (sw ρ' k f) := fun k' h => by
  have hn : k' ≠ k := fun z => by rw [z, hk] at h; cases h
  rw [← q k' h]
  funext j
  exact if_neg hn
theorem cst_f {ρ ρ' : Sg} (h : ρ' 12 = ρ 12) (v : Int) : ∀ n : Nat, cst ρ' v n = cst ρ v n
  | 0 => rfl
  | n + 1 => by rw [cst, cst, cst_f h v n, h]
theorem MC.sa {ρ ρ' : Sg} (q : SA ρ ρ') (h : MC ρ) : MC ρ' := by
  have l1 := lnS_f (q 20 rfl)
  have l2 := amS_f (q 22 rfl)
  have l3 := cst_f (q 12 rfl)
  unfold MC at *
  simp only [q 0 rfl, q 1 rfl, q 2 rfl, q 3 rfl, q 4 rfl, q 5 rfl, q 6 rfl, q 7 rfl, q 8 rfl, q 9 rfl, q 10 rfl, q 11 rfl, q 12 rfl, q 13 rfl, q 16 rfl, q 17 rfl, q 18 rfl, q 19 rfl, q 20 rfl, q 22 rfl, q 23 rfl, q 24 rfl, q 25 rfl, q 26 rfl, q 27 rfl, q 28 rfl, q 29 rfl, q 31 rfl, q 37 rfl, q 39 rfl, l1, l2, l3]
  exact h
/-- the model's state and the class's: what the sums look at -/
def CQ (σ ρ : Sg) : Prop := (∀ k, (k ≤ 27 ∧ k ≠ 11 ∧ k ≠ 14 ∧ k ≠ 15) → σ k = ρ k) ∧ enA σ = enA ρ
theorem CQ.e {σ ρ : Sg} (q : CQ σ ρ) (k : Nat) (h : (k ≤ 27 ∧ k ≠ 11 ∧ k ≠ 14 ∧ k ≠ 15) := by decide) : σ k = ρ k := q.1 k h
theorem SA.c {ρ ρ' : Sg} (q : SA ρ ρ') : CQ ρ' ρ := ⟨fun k h => q k (by unfold scrB adB; simp; omega), by funext e; unfold enA; rw [q 12 rfl, q 0 rfl, q 11 rfl]⟩
theorem cvI_r {σ ρ : Sg} (q : CQ σ ρ) : cvI σ = cvI ρ := by funext e m; unfold cvI; rw [q.e 12, q.e 10, q.2]
theorem cnt_r {σ ρ : Sg} (q : CQ σ ρ) (m : Int) : ∀ n : Nat, cnt σ m n = cnt ρ m n
  | 0 => rfl
  | n + 1 => by rw [cnt, cnt, cnt_r q m n, cvI_r q]
theorem lat_r {σ ρ : Sg} (q : CQ σ ρ) (m : Int) : ∀ n : Nat, lat σ m n = lat ρ m n
  | 0 => rfl
  | n + 1 => by rw [lat, lat, lat_r q m n, cvI_r q, cnt_r q, q.e 10]
theorem shI_r {σ ρ : Sg} (q : CQ σ ρ) : shI σ = shI ρ := by funext e m; unfold shI; rw [cvI_r q, cnt_r q, cnt_r q, lat_r q, q.e 1, q.e 8]
theorem secS_r {σ ρ : Sg} (q : CQ σ ρ) : secS σ = secS ρ := by funext e; unfold secS; rw [shI_r q, q.e 12, q.e 13, q.e 0]
theorem dayS_r {σ ρ : Sg} (q : CQ σ ρ) : dayS σ = dayS ρ := by funext e d; unfold dayS dayF; rw [shI_r q, q.e 0]
theorem dyF_r {σ ρ : Sg} (q : CQ σ ρ) : dyF σ = dyF ρ := by funext j; unfold dyF; rw [dayS_r q]
theorem opS_r {σ ρ : Sg} (q : CQ σ ρ) (c : Int) : opS σ c = opS ρ c := by
  show opO _ _ _ _ _ _ _ _ _ _ = opO _ _ _ _ _ _ _ _ _ _
  rw [secS_r q, dyF_r q, q.e 9, q.e 12, q.e 10, q.e 5, q.e 3, q.e 4, q.e 8]
theorem ivM_r {σ ρ : Sg} (q : CQ σ ρ) (c : Int) : ∀ n : Nat, ivM σ c n = ivM ρ c n
  | 0 => rfl
  | n + 1 => by rw [ivM, ivM, ivM_r q c n, lnS_f (ρ := ρ) (ρ' := σ) (q.e 20), q.e 18, q.e 17]
theorem usS_r {σ ρ : Sg} (q : CQ σ ρ) (c : Int) : usS σ c = usS ρ c := by
  show opS _ _ + ivM _ _ _ = opS _ _ + ivM _ _ _
  rw [opS_r q, ivM_r q, q.e 16]
theorem cst_r {σ ρ : Sg} (q : CQ σ ρ) (v : Int) : ∀ n : Nat, cst σ v n = cst ρ v n
  | 0 => rfl
  | n + 1 => by rw [cst, cst, cst_r q v n, q.e 12]
theorem shF_r {σ ρ : Sg} (q : CQ σ ρ) (c : Int) : shF σ c = shF ρ c := by
  show FP.fdiv _ (FP.i2f (iI (σ 7 c))) = FP.fdiv _ (FP.i2f (iI (ρ 7 c)))
  rw [usS_r q, q.e 7]
theorem keptS_r {σ ρ : Sg} (q : CQ σ ρ) : keptS σ = keptS ρ := by
  show σ 8 0 - cst σ 120 (σ 8 0).toNat = ρ 8 0 - cst ρ 120 (ρ 8 0).toNat
  rw [cst_r q, q.e 8]
theorem meanS_r {σ ρ : Sg} (q : CQ σ ρ) : meanS σ = meanS ρ := by
  show FP.ddiv (FP.ddiv (FP.i2d (iI (scS (secS σ) (σ 8 0).toNat))) _) (FP.i2d (iI (keptS σ))) = FP.ddiv (FP.ddiv (FP.i2d (iI (scS (secS ρ) (ρ 8 0).toNat))) _) (FP.i2d (iI (keptS ρ)))
  rw [keptS_r q, secS_r q, q.e 8]
theorem weL_r {σ ρ : Sg} (q : CQ σ ρ) (e : Int) : weL σ e = weL ρ e := by
  unfold weL
  rw [q.e 12, q.e 9, q.e 10, q.2, secS_r q]
theorem hcF_r {σ ρ : Sg} (q : CQ σ ρ) (c : Int) : ∀ n : Nat, hcF σ c n = hcF ρ c n
  | 0 => rfl
  | n + 1 => by rw [hcF, hcF, hcF_r q c n, q.e 27, q.e 9, q.e 25]
theorem ivE_r {σ ρ : Sg} (q : CQ σ ρ) (c : Int) : ivE σ c = ivE ρ c := by
  unfold ivE
  rw [secS_r q, dyF_r q, q.e 9, q.e 12, q.e 10, q.e 5, q.e 3, q.e 4, q.e 8]
theorem ivL_r {σ ρ : Sg} (q : CQ σ ρ) (c : Int) : ivL σ c = ivL ρ c := by
  unfold ivL
  rw [ivE_r q, q.e 27, q.e 9, q.e 25, q.e 26, q.e 24]
/-- an entry's end -/
theorem MC.en {ρ : Sg} (hV : MC ρ) {e : Int} (h0 : 0 ≤ e) (h1 : e < ρ 8 0) : enA ρ e = ρ 11 e := by
  obtain ⟨v0, v1, v2, v8, v16, v24, v39, vC, vE, vI, vK, vB, vO⟩ := hV
  have := vE e h0 h1
  unfold enA
  split
  · next q => exact (this.2.2.2.1 q).symm
  · rfl
theorem cvI_a {ρ : Sg} (hV : MC ρ) {e m : Int} (h0 : 0 ≤ e) (h1 : e < ρ 8 0) : (if ρ 10 e ≤ m ∧ m < ρ 11 e ∧ ρ 12 e ≠ 120 then 1 else 0) = cvI ρ e m := by
  unfold cvI
  rw [hV.en h0 h1]
  omega
theorem sumI_add (f : Int → Int) (a : Int) (m : Nat) : ∀ n : Nat, sumI f a (m + n) = sumI f a m + sumI f (a + m) n
  | 0 => by simp [sumI]
  | n + 1 => by
    rw [← Nat.add_assoc, sumI, sumI, sumI_add f a m n, Int.natCast_add, ← Int.add_assoc a]
    omega
theorem sumI_0 {f : Int → Int} {a : Int} : ∀ n : Nat, (∀ m, a ≤ m → m < a + n → f m = 0) → sumI f a n = 0
  | 0, _ => rfl
  | n + 1, h => by
    rw [sumI, sumI_0 n (fun m h1 h2 => h m h1 (by omega)), h (a + n) (by omega) (by omega)]
    rfl
theorem sumI_k {f : Int → Int} {a v : Int} : ∀ n : Nat, (∀ m, a ≤ m → m < a + n → f m = v) → sumI f a n = n * v
  | 0, _ => by simp [sumI]
  | n + 1, h => by
    rw [sumI, sumI_k n (fun m h1 h2 => h m h1 (by omega)), h (a + n) (by omega) (by omega), Int.natCast_add, Int.add_mul]
    simp
theorem sumI_g {f f' : Int → Int} {a : Int} : ∀ n : Nat, (∀ m, a ≤ m → m < a + n → f m = f' m) → sumI f a n = sumI f' a n
  | 0, _ => rfl
  | n + 1, h => by rw [sumI, sumI, sumI_g n (fun m h1 h2 => h m h1 (by omega)), h (a + n) (by omega) (by omega)]
/-- minutes in which nobody comes or goes -/
theorem cnt_cc {ρ : Sg} {m a : Int} : ∀ n : Nat, (∀ e : Int, 0 ≤ e → e < n → cvI ρ e m = cvI ρ e a) → cnt ρ m n = cnt ρ a n
  | 0, _ => rfl
  | n + 1, h => by rw [cnt, cnt, cnt_cc n (fun e h1 h2 => h e h1 (by omega)), h (n : Int) (by omega) (by omega)]
theorem lat_cc {ρ : Sg} {m a : Int} : ∀ n : Nat, (∀ e : Int, 0 ≤ e → e < n → cvI ρ e m = cvI ρ e a) → lat ρ m n = lat ρ a n
  | 0, _ => rfl
  | n + 1, h => by rw [lat, lat, lat_cc n (fun e h1 h2 => h e h1 (by omega)), cnt_cc n (fun e h1 h2 => h e h1 (by omega)), h (n : Int) (by omega) (by omega)]
theorem shI_cc {ρ : Sg} {m a e : Int} (h : ∀ e : Int, 0 ≤ e → e < ρ 8 0 → cvI ρ e m = cvI ρ e a) (h0 : 0 ≤ e) (h1 : e < ρ 8 0) : shI ρ e m = shI ρ e a := by
  unfold shI
  rw [h e h0 h1, cnt_cc (ρ 8 0).toNat (fun e q1 q2 => h e q1 (by omega)), cnt_cc e.toNat (fun e q1 q2 => h e q1 (by omega)), lat_cc (ρ 8 0).toNat (fun e q1 q2 => h e q1 (by omega))]
/-- a stretch of minutes: nobody starts or ends behind its first one, and no day begins -/
theorem stretch {ρ : Sg} (hV : MC ρ) {a b : Int} (hab : a < b) (hd : b ≤ (a / 600 + 1) * 600) (hs : ∀ e, 0 ≤ e → e < ρ 8 0 → ¬ (a < ρ 10 e ∧ ρ 10 e < b) ∧ ¬ (a < ρ 11 e ∧ ρ 11 e < b)) {e d : Int} (h0 : 0 ≤ e) (h1 : e < ρ 8 0) : sumI (dayF ρ e d) a (b - a).toNat = if d = a / 600 then (b - a) * shI ρ e a else 0 := by
  have key : ∀ m, a ≤ m → m < b → shI ρ e m = shI ρ e a := fun m m0 m1 => shI_cc (fun x x0 x1 => by
    have := hs x x0 x1
    unfold cvI
    rw [hV.en x0 x1]
    omega) h0 h1
  have hdy : ∀ m, a ≤ m → m < b → m / 600 = a / 600 := fun m m0 m1 => by omega
  by_cases q : d = a / 600
  · rw [if_pos q, sumI_k (v := shI ρ e a) (b - a).toNat (fun m m0 m1 => by
      unfold dayF
      rw [if_pos (by rw [hdy m m0 (by omega)]; exact q.symm)]
      exact key m m0 (by omega)), show (((b - a).toNat : Nat) : Int) = b - a by omega]
  · rw [if_neg q]
    exact sumI_0 (b - a).toNat (fun m m0 m1 => by
      unfold dayF
      rw [if_neg (by rw [hdy m m0 (by omega)]; exact fun w => q w.symm)])
/-- one minute -/
theorem minute1 {ρ : Sg} {a e d : Int} : sumI (dayF ρ e d) a 1 = if d = a / 600 then 1 * shI ρ e a else 0 := by
  show 0 + dayF ρ e d (a + 0) = _
  unfold dayF
  rw [Int.add_zero, Int.zero_add, Int.one_mul]
  by_cases q : a / 600 = d
  · rw [if_pos q, if_pos q.symm]
  · rw [if_neg q, if_neg (fun w => q w.symm)]
/-- an entry that covers nothing has nothing -/
theorem shI_n {ρ : Sg} {e m : Int} (h : cvI ρ e m = 0) : shI ρ e m = 0 := by
  unfold shI
  rw [h]
  exact if_neg (by decide)
theorem cnt_z {ρ : Sg} {m : Int} {e : Int} {n : Nat} (h0 : 0 ≤ e) (h1 : e < n) {k : Nat} (hk : (k : Int) ≤ e) (h : cnt ρ m n ≤ cnt ρ m k) : cvI ρ e m = 0 := by
  have a := cnt_s ρ m h0
  have b := cnt_mono ρ m (e + 1).toNat n (by omega)
  have c := cnt_mono ρ m k e.toNat (by omega)
  have d := cvI_in ρ e m
  omega
/-- the cells of a tally over k minutes from a -/
def ceF (ρ : Sg) (a : Int) (k : Nat) (j : Int) : Int := if j < 5 * ρ 8 0 then sumI (dayF ρ (j / 5) (j % 5)) a k else 0
theorem ceF_at {ρ : Sg} {a e d : Int} {k : Nat} (h1 : e < ρ 8 0) (d0 : 0 ≤ d) (d1 : d < 5) : ceF ρ a k (5 * e + d) = sumI (dayF ρ e d) a k := by
  unfold ceF
  rw [if_pos (by omega), show (5 * e + d) / 5 = e by omega, show (5 * e + d) % 5 = d by omega]
theorem ceF_zero {ρ : Sg} {a : Int} (j : Int) : ceF ρ a 0 j = 0 := by
  unfold ceF
  split <;> rfl
/-- five days make all -/
theorem day5g (ρ : Sg) (e a : Int) (ha : 0 ≤ a) : ∀ n : Nat, a + n ≤ 3000 → sumI (dayF ρ e 0) a n + sumI (dayF ρ e 1) a n + sumI (dayF ρ e 2) a n + sumI (dayF ρ e 3) a n + sumI (dayF ρ e 4) a n = sumI (shI ρ e) a n
  | 0, _ => rfl
  | n + 1, h => by
    have := day5g ρ e a ha n (by omega)
    simp only [sumI, dayF]
    have h0 : (a + n) / 600 = 0 ∨ (a + n) / 600 = 1 ∨ (a + n) / 600 = 2 ∨ (a + n) / 600 = 3 ∨ (a + n) / 600 = 4 := by omega
    rcases h0 with z | z | z | z | z <;> rw [z] <;> simp only [sumI, dayF] at this ⊢ <;> simp <;> omega
theorem sumI5 (f : Int → Int) (a : Int) : sumI f a 5 = f a + f (a + 1) + f (a + 2) + f (a + 3) + f (a + 4) := by
  simp [sumI]
theorem ceF_5 {ρ : Sg} {a e : Int} {k : Nat} (ha : 0 ≤ a) (hk : a + k ≤ 3000) (h0 : 0 ≤ e) (h1 : e < ρ 8 0) : sumI (ceF ρ a k) (5 * e) 5 = sumI (shI ρ e) a k := by
  rw [sumI5, ← day5g ρ e a ha k hk, show (5 * e : Int) = 5 * e + 0 by omega, ceF_at h1 (by decide) (by decide), show 5 * e + 0 + 1 = 5 * e + 1 by omega, show 5 * e + 0 + 2 = 5 * e + 2 by omega, show 5 * e + 0 + 3 = 5 * e + 3 by omega, show 5 * e + 0 + 4 = 5 * e + 4 by omega,
    ceF_at h1 (by decide) (by decide), ceF_at h1 (by decide) (by decide), ceF_at h1 (by decide) (by decide), ceF_at h1 (by decide) (by decide)]
/-- a sum over a part of the minutes that has all of it -/
theorem sumI_part {f : Int → Int} {a b n : Int} (h0 : 0 ≤ a) (h2 : b ≤ n) (hf : ∀ m, 0 ≤ m → m < n → ¬ (a ≤ m ∧ m < b) → f m = 0) (hn : 0 ≤ n) : sumI f a (b - a).toNat = sumI f 0 n.toNat := by
  by_cases hab : a ≤ b
  · have e1 : n.toNat = a.toNat + ((b - a).toNat + (n - b).toNat) := by omega
    rw [e1, sumI_add, sumI_add, sumI_0 a.toNat (fun m m0 m1 => hf m m0 (by omega) (by omega)), sumI_0 (n - b).toNat (fun m m0 m1 => hf m (by omega) (by omega) (by omega)), show (0 : Int) + (a.toNat : Int) = a by omega]
    omega
  · rw [show (b - a).toNat = 0 by omega, sumI_0 n.toNat (fun m m0 m1 => hf m m0 (by omega) (by omega))]
    rfl
/-- counted seconds, from an entry's own minutes -/
theorem counted_is {ρ : Sg} (hV : MC ρ) {e : Int} (h0 : 0 ≤ e) (h1 : e < ρ 8 0) : sumI (shI ρ e) (ρ 10 e) (ρ 11 e - ρ 10 e).toNat = sumI (shI ρ e) 0 (ρ 0 0).toNat := by
  have hE := hV
  obtain ⟨v0, v1, v2, v8, v16, v24, v39, vC, vE, vI, vK, vB, vO⟩ := hE
  have E := vE e h0 h1
  refine sumI_part (by omega) (by omega) (fun m m0 m1 hm => shI_n ?_) (by omega)
  unfold cvI
  rw [hV.en h0 h1]
  omega
theorem day_is {ρ : Sg} (hV : MC ρ) {e d b : Int} (d0 : 0 ≤ d) (hb : b = if 600 * d + 600 < ρ 0 0 then 600 * d + 600 else ρ 0 0) : sumI (dayF ρ e d) (600 * d) (b - 600 * d).toNat = dayS ρ e d := by
  obtain ⟨v0, v1, v2, v8, v16, v24, v39, vC, vE, vI, vK, vB, vO⟩ := hV
  unfold dayS
  refine sumI_part (by omega) (by omega) (fun m m0 m1 hm => ?_) (by omega)
  unfold dayF
  rw [if_neg (by omega)]
