/-! SPEC 4: floats in the model's state; lines of an invoice; used minutes; the mean -/
theorem fi_r (x : UInt32) : -2147483648 ≤ fi x ∧ fi x < 2147483648 := iI_rng _
theorem fi_fb {z : Int} (h : -2147483648 ≤ z ∧ z < 2147483648) : fi (fb z) = z := by
  unfold fi fb
  rw [Int32.toInt32_toUInt32, iI_toInt h]
/-- a float cell is written -/
theorem mPf {g : Nat → Nat} {σ : Sg} {h : Hp} (H : MI g σ h) (k : Nat) (hk : (k == 22 || k == 23) = true) (i : Int) (x : UInt32) : MI g (su σ k i (fi x)) (hu h (g k) (eA 2 (mn k) (fun j => vF (if j = i then x else fb (σ k j))))) := by
  have hk2 : k = 22 ∨ k = 23 := by simpa using hk
  have hb : mKb k = true := by rcases hk2 with rfl | rfl <;> rfl
  have h0 : (k == 0) = false := by rcases hk2 with rfl | rfl <;> rfl
  have q := mP H k hb h0 i (fi x)
  have e : mE g (su σ k i (fi x)) k = eA 2 (mn k) (fun j => vF (if j = i then x else fb (σ k j))) := by
    unfold mE
    rw [if_neg (by simpa using h0), if_pos hk2]
    have : (fun j => vF (fb (su σ k i (fi x) k j))) = fun j => vF (if j = i then x else fb (σ k j)) := by
      funext j
      unfold su
      rw [if_pos rfl]
      by_cases hj : j = i
      · rw [if_pos hj, if_pos hj, fb_fi]
      · rw [if_neg hj, if_neg hj]
    rw [this]
  rw [e] at q
  exact q
/-- a line is put on the next invoice -/
abbrev adK (σ : Sg) : Int := 40 * σ 16 0 + σ 17 (σ 16 0)
abbrev adA (σ : Sg) (mi : Int) : UInt32 := amt mi (σ 6 (σ 18 (σ 16 0)))
abbrev adS (σ : Sg) (kd sb mi : Int) : Sg := su (su (su (su (su (su σ 19 (adK σ) kd) 21 (adK σ) sb) 20 (adK σ) mi) 22 (adK σ) (fi (adA σ mi))) 23 (σ 16 0) (fi (FP.fadd (fb (σ 23 (σ 16 0))) (adA σ mi)))) 17 (σ 16 0) (σ 17 (σ 16 0) + 1)
/-- a correction of the client waits, among the first n -/
def hcF (σ : Sg) (c : Int) : Nat → Int
  | 0 => 0
  | n + 1 => if σ 27 (n : Int) = 0 ∧ σ 9 (σ 25 (n : Int)) = c then 1 else hcF σ c n
/-- some correction of the client waits -/
def hcP (σ : Sg) (c : Int) : Prop := ∃ j, 0 ≤ j ∧ j < σ 24 0 ∧ σ 27 j = 0 ∧ σ 9 (σ 25 j) = c
/-- the minutes of the corrections of the client that wait, among the first n -/
def coS (bil own cor chg : Int → Int) (c : Int) : Nat → Int
  | 0 => 0
  | n + 1 => coS bil own cor chg c n + (if bil (n : Int) = 0 ∧ own (cor (n : Int)) = c then chg (n : Int) else 0)
theorem coS_s (bil own cor chg : Int → Int) (c : Int) {i : Int} (h : 0 ≤ i) : coS bil own cor chg c (i + 1).toNat = coS bil own cor chg c i.toNat + (if bil i = 0 ∧ own (cor i) = c then chg i else 0) := by
  rw [(toN_s h).1, coS, (toN_s h).2]
theorem coS_in {bil own cor chg : Int → Int} {c : Int} {N : Nat} (hf : ∀ x : Int, 0 ≤ x → x < N → -600 ≤ chg x ∧ chg x ≤ 600) : ∀ n : Nat, n ≤ N → -600 * (n : Int) ≤ coS bil own cor chg c n ∧ coS bil own cor chg c n ≤ 600 * n
  | 0, _ => by simp [coS]
  | n + 1, h => by
    have h1 := coS_in (bil := bil) (own := own) (cor := cor) (c := c) hf n (by omega)
    have h2 := hf (n : Int) (by omega) (by omega)
    rw [coS]
    split <;> omega
/-- the minutes of the first n lines of invoice i; of the first n invoices of the client -/
def lnS (σ : Sg) (i : Int) : Nat → Int
  | 0 => 0
  | n + 1 => lnS σ i n + σ 20 (40 * i + n)
theorem lnS_s (σ : Sg) (i : Int) {q : Int} (h : 0 ≤ q) : lnS σ i (q + 1).toNat = lnS σ i q.toNat + σ 20 (40 * i + q) := by
  rw [(toN_s h).1, lnS, (toN_s h).2]
theorem lnS_in {σ : Sg} {i : Int} {N : Nat} (hf : ∀ q : Int, 0 ≤ q → q < N → -100000 ≤ σ 20 (40 * i + q) ∧ σ 20 (40 * i + q) ≤ 100000) : ∀ n : Nat, n ≤ N → -100000 * (n : Int) ≤ lnS σ i n ∧ lnS σ i n ≤ 100000 * n
  | 0, _ => by simp [lnS]
  | n + 1, h => by
    have h1 := lnS_in hf n (by omega)
    have h2 := hf (n : Int) (by omega) (by omega)
    rw [lnS]
    omega
def ivM (σ : Sg) (c : Int) : Nat → Int
  | 0 => 0
  | n + 1 => ivM σ c n + (if σ 18 (n : Int) = c then lnS σ n (σ 17 n).toNat else 0)
theorem ivM_s (σ : Sg) (c : Int) {i : Int} (h : 0 ≤ i) : ivM σ c (i + 1).toNat = ivM σ c i.toNat + (if σ 18 i = c then lnS σ i (σ 17 i).toNat else 0) := by
  rw [(toN_s h).1, ivM, (toN_s h).2]
theorem ivM_in {σ : Sg} (hV : MV σ) {c : Int} : ∀ n : Nat, (n : Int) ≤ σ 16 0 → -4000000 * (n : Int) ≤ ivM σ c n ∧ ivM σ c n ≤ 4000000 * n
  | 0, _ => by simp [ivM]
  | n + 1, h => by
    have h1 := ivM_in hV (c := c) n (by omega)
    obtain ⟨v0, v1, v2, v8, v16, v24, v29, vC, vE, vL, vK, vT⟩ := id hV
    have h2 := vL n (by omega) (by omega)
    have h3 := h2.2 (by omega)
    have h4 := lnS_in (σ := σ) (i := n) (N := (σ 17 n).toNat) (fun q q1 q2 => (h3.2.2 q q1 (by omega)).1) (σ 17 n).toNat (Nat.le_refl _)
    rw [ivM]
    split <;> omega
/-- used minutes -/
abbrev usS (σ : Sg) (c : Int) : Int := opS σ c + ivM σ c (σ 16 0).toNat
abbrev shF (σ : Sg) (c : Int) : UInt32 := FP.fdiv (FP.i2f (iI (usS σ c))) (FP.i2f (iI (σ 7 c)))
theorem opS_in {σ : Sg} (hV : MV σ) {c : Int} (hc : 0 ≤ c ∧ c < σ 2 0) : -120000000 ≤ opS σ c ∧ opS σ c ≤ 120000000 := by
  obtain ⟨v0, v1, v2, v8, v16, v24, v29, vC, vE, vL, vK, vT⟩ := id hV
  have C := (vC c hc.1 (by omega)).2.2.2 hc.2
  exact opO_in (by omega) C.1 (fun x q1 q2 => secS_in hV q1 (by omega)) (fun x d q1 q2 q3 q4 => by
    have := dyF_at σ (x := x) q3 q4
    rw [this]
    exact dayS_in hV q1 (by omega))
theorem usS_in {σ : Sg} (hV : MV σ) {c : Int} (hc : 0 ≤ c ∧ c < σ 2 0) : -160000000 ≤ usS σ c ∧ usS σ c ≤ 160000000 := by
  have a := opS_in hV hc
  have b := ivM_in hV (c := c) (σ 16 0).toNat (by
    obtain ⟨v0, v1, v2, v8, v16, v24, v29, vC, vE, vL, vK, vT⟩ := id hV
    omega)
  obtain ⟨v0, v1, v2, v8, v16, v24, v29, vC, vE, vL, vK, vT⟩ := id hV
  show _ ≤ opS σ c + _ ∧ opS σ c + _ ≤ _
  omega
/-- a quotient of ints is not NaN -/
theorem mg_quo {a b : Int} (ha : a.natAbs ≤ 2 ^ 30) (hb : b ≠ 0) (hb2 : b.natAbs ≤ 2 ^ 30) : MG 162 (FP.fdiv (FP.i2f (iI a)) (FP.i2f (iI b))) := by
  have h1 := mg_i2f ha (by decide)
  have h2 := mg_i2f hb2 (by decide)
  have h3 := FP.Core.fromInt_ge32 (FP.Core.toNat_i2f (iI b)) (by rw [iI_toInt (by omega)]; exact hb)
  have := FP.Core.fdiv_mag (b := FP.i2f (iI b)) (L := 127) h1 h3 (by unfold MG at h2; omega) (by decide) (by decide)
  unfold MG
  exact Nat.lt_of_lt_of_le this (by decide)
/-- the sum of all counted seconds -/
def scS (f : Int → Int) : Nat → Int
  | 0 => 0
  | n + 1 => scS f n + f (n : Int)
theorem scS_s (f : Int → Int) {i : Int} (h : 0 ≤ i) : scS f (i + 1).toNat = scS f i.toNat + f i := by
  rw [(toN_s h).1, scS, (toN_s h).2]
theorem scS_in {f : Int → Int} {N : Nat} (hf : ∀ x : Int, 0 ≤ x → x < N → 0 ≤ f x ∧ f x ≤ 180000) : ∀ n : Nat, n ≤ N → 0 ≤ scS f n ∧ scS f n ≤ 180000 * n
  | 0, _ => by simp [scS]
  | n + 1, h => by
    have h1 := scS_in hf n (by omega)
    have h2 := hf (n : Int) (by omega) (by omega)
    rw [scS]
    omega
theorem scS_c {f f' : Int → Int} : ∀ n : Nat, (∀ x : Int, 0 ≤ x → x < n → f x = f' x) → scS f n = scS f' n
  | 0, _ => rfl
  | n + 1, h => by rw [scS, scS, scS_c n (fun x h1 h2 => h x h1 (by omega)), h (n : Int) (by omega) (by omega)]
abbrev keptS (σ : Sg) : Int := σ 8 0 - cst σ 120 (σ 8 0).toNat
abbrev meanS (σ : Sg) : UInt64 := FP.ddiv (FP.ddiv (FP.i2d (iI (scS (secS σ) (σ 8 0).toNat))) 4633641066610819072) (FP.i2d (iI (keptS σ)))
theorem mg_mean1 {a : Int} (ha : 0 ≤ a ∧ a ≤ 5000000) : (FP.ddiv (FP.i2d (iI a)) 4633641066610819072).toNat % 2 ^ 63 < 1057 * 2 ^ 52 := by
  have h1 := FP.Core.i2d_mag (iI a)
  have := FP.Core.ddiv_mag (b := 4633641066610819072) (L := 1028) h1 (by decide) (by decide) (by decide) (by decide)
  exact Nat.lt_of_lt_of_le this (by decide)
theorem mg_mean {a b : Int} (ha : 0 ≤ a ∧ a ≤ 5000000) (hb : 1 ≤ b ∧ b ≤ 24) : (FP.ddiv (FP.ddiv (FP.i2d (iI a)) 4633641066610819072) (FP.i2d (iI b))).toNat % 2 ^ 63 < 1063 * 2 ^ 52 := by
  have h1 := mg_mean1 ha
  have h2 := FP.Core.i2d_mag (iI b)
  have h3 := FP.Core.fromInt_ge (FP.Core.toNat_i2d (iI b)) (by rw [iI_toInt (by omega)]; omega)
  have := FP.Core.ddiv_mag (b := FP.i2d (iI b)) (L := 1023) h1 (by exact h3) (by exact Nat.lt_of_lt_of_le h2 (by decide)) (by decide) (by decide)
  exact Nat.lt_of_lt_of_le this (by decide)
theorem hcF_in (σ : Sg) (c : Int) : ∀ n : Nat, hcF σ c n = 0 ∨ hcF σ c n = 1
  | 0 => Or.inl rfl
  | n + 1 => by
    rw [hcF]
    split
    · exact Or.inr rfl
    · exact hcF_in σ c n
theorem hcF_s (σ : Sg) (c : Int) {i : Int} (h : 0 ≤ i) : hcF σ c (i + 1).toNat = if σ 27 i = 0 ∧ σ 9 (σ 25 i) = c then 1 else hcF σ c i.toNat := by
  rw [(toN_s h).1, hcF, (toN_s h).2]
theorem hcF_mono (σ : Sg) (c : Int) : ∀ (a b : Nat), a ≤ b → hcF σ c a = 1 → hcF σ c b = 1
  | a, 0, h, q => by rw [← Nat.le_zero.mp h]; exact q
  | a, b + 1, h, q => by
    by_cases e : a = b + 1
    · rw [← e]; exact q
    · have := hcF_mono σ c a b (by omega) q
      rw [hcF, this]
      simp
/-- the same state but for the scratch fields 14, 15, 30 -/
def EQ (σ σ' : Sg) : Prop := ∀ k, k ≠ 14 → k ≠ 15 → k ≠ 30 → σ k = σ' k
theorem EQ.e {σ σ' : Sg} (q : EQ σ σ') (k : Nat) (h : (k != 14 && k != 15 && k != 30) = true := by rfl) : σ k = σ' k := by
  simp at h
  exact q k h.1.1 h.1.2 h.2
theorem cvI_q {σ σ' : Sg} (q : EQ σ σ') : cvI σ = cvI σ' := by funext e m; unfold cvI enA; rw [q.e 12, q.e 10, q.e 0, q.e 11]
theorem cnt_q {σ σ' : Sg} (q : EQ σ σ') (m : Int) : ∀ n : Nat, cnt σ m n = cnt σ' m n
  | 0 => rfl
  | n + 1 => by rw [cnt, cnt, cnt_q q m n, cvI_q q]
theorem lat_q {σ σ' : Sg} (q : EQ σ σ') (m : Int) : ∀ n : Nat, lat σ m n = lat σ' m n
  | 0 => rfl
  | n + 1 => by rw [lat, lat, lat_q q m n, cvI_q q, cnt_q q, q.e 10]
theorem shI_q {σ σ' : Sg} (q : EQ σ σ') : shI σ = shI σ' := by funext e m; unfold shI; rw [cvI_q q, cnt_q q, cnt_q q, lat_q q, q.e 1, q.e 8]
theorem secS_q {σ σ' : Sg} (q : EQ σ σ') : secS σ = secS σ' := by funext e; unfold secS; rw [shI_q q, q.e 12, q.e 13, q.e 0]
theorem dayS_q {σ σ' : Sg} (q : EQ σ σ') : dayS σ = dayS σ' := by funext e d; unfold dayS dayF; rw [shI_q q, q.e 0]
theorem dyF_q {σ σ' : Sg} (q : EQ σ σ') : dyF σ = dyF σ' := by funext j; unfold dyF; rw [dayS_q q]
theorem opS_q {σ σ' : Sg} (q : EQ σ σ') (c : Int) : opS σ c = opS σ' c := by
  show opO _ _ _ _ _ _ _ _ _ _ = opO _ _ _ _ _ _ _ _ _ _
  rw [secS_q q, dyF_q q, q.e 9, q.e 12, q.e 10, q.e 5, q.e 3, q.e 4, q.e 8]
theorem lnS_q {σ σ' : Sg} (q : EQ σ σ') (i : Int) : ∀ n : Nat, lnS σ i n = lnS σ' i n
  | 0 => rfl
  | n + 1 => by rw [lnS, lnS, lnS_q q i n, q.e 20]
theorem ivM_q {σ σ' : Sg} (q : EQ σ σ') (c : Int) : ∀ n : Nat, ivM σ c n = ivM σ' c n
  | 0 => rfl
  | n + 1 => by rw [ivM, ivM, ivM_q q c n, lnS_q q, q.e 18, q.e 17]
theorem usS_q {σ σ' : Sg} (q : EQ σ σ') (c : Int) : usS σ c = usS σ' c := by
  show opS _ _ + ivM _ _ _ = opS _ _ + ivM _ _ _
  rw [opS_q q, ivM_q q, q.e 16]
theorem cst_q {σ σ' : Sg} (q : EQ σ σ') (v : Int) : ∀ n : Nat, cst σ v n = cst σ' v n
  | 0 => rfl
  | n + 1 => by rw [cst, cst, cst_q q v n, q.e 12]
theorem MV_q {σ σ' : Sg} (q : EQ σ σ') (h : MV σ) : MV σ' := by
  unfold MV at *
  rw [q.e 0, q.e 1, q.e 2, q.e 3, q.e 4, q.e 5, q.e 6, q.e 7, q.e 8, q.e 9, q.e 10, q.e 11, q.e 12, q.e 13, q.e 16, q.e 17, q.e 18, q.e 19, q.e 20, q.e 23, q.e 24, q.e 25, q.e 26, q.e 27, q.e 28, q.e 29] at h
  exact h
theorem EQ.symm {σ σ' : Sg} (q : EQ σ σ') : EQ σ' σ := fun k a b c => (q k a b c).symm
theorem EQ.trans {σ σ' σ2 : Sg} (q : EQ σ σ') (q2 : EQ σ' σ2) : EQ σ σ2 := fun k a b c => (q k a b c).trans (q2 k a b c)
theorem EQ.c (σ : Sg) (v : Int) : EQ (su σ 30 0 v) σ := fun k a b c => by funext j; exact su_n c
theorem EQ.w (σ : Sg) (k : Nat) (f : Int → Int) (hk : (k == 14 || k == 15) = true) : EQ (sw σ k f) σ := fun k' a b c => by
  funext j
  unfold sw
  rw [if_neg (fun z => by subst z; simp at hk; omega)]
/-- an open entry's days make its seconds -/
theorem day5 (σ : Sg) (e : Int) : ∀ n : Nat, n ≤ 3000 → sumI (dayF σ e 0) 0 n + sumI (dayF σ e 1) 0 n + sumI (dayF σ e 2) 0 n + sumI (dayF σ e 3) 0 n + sumI (dayF σ e 4) 0 n = sumI (shI σ e) 0 n
  | 0, _ => rfl
  | n + 1, h => by
    have := day5 σ e n (by omega)
    simp only [sumI, dayF]
    have h0 : ((0 : Int) + n) / 600 = 0 ∨ ((0 : Int) + n) / 600 = 1 ∨ ((0 : Int) + n) / 600 = 2 ∨ ((0 : Int) + n) / 600 = 3 ∨ ((0 : Int) + n) / 600 = 4 := by omega
    rcases h0 with z | z | z | z | z <;> rw [z] <;> simp only [sumI, dayF] at this ⊢ <;> simp <;> omega
/-- the first n days' seconds -/
def dsS (σ : Sg) (e : Int) : Nat → Int
  | 0 => 0
  | n + 1 => dsS σ e n + dayS σ e n
theorem dsS_s (σ : Sg) (e : Int) {i : Int} (h : 0 ≤ i) : dsS σ e (i + 1).toNat = dsS σ e i.toNat + dayS σ e i := by
  rw [(toN_s h).1, dsS, (toN_s h).2]
theorem dsS_5 {σ : Sg} (hV : MV σ) {e : Int} (ho : σ 12 e ≠ 102) : dsS σ e 5 = secS σ e := by
  obtain ⟨v0, v1, v2, v8, v16, v24, v29, vC, vE, vL, vK, vT⟩ := id hV
  have := day5 σ e (σ 0 0).toNat (by omega)
  unfold secS
  rw [if_neg ho, ← this]
  simp only [dsS, dayS]
  simp
theorem keptS_in {σ : Sg} (hV : MV σ) : 0 ≤ keptS σ ∧ keptS σ ≤ 24 := by
  obtain ⟨v0, v1, v2, v8, v16, v24, v29, vC, vE, vL, vK, vT⟩ := id hV
  have := cst_in σ 120 (σ 8 0).toNat
  show 0 ≤ σ 8 0 - _ ∧ σ 8 0 - _ ≤ 24
  omega
theorem nan_f {x : UInt32} (h : x.toNat % 2 ^ 31 ≤ 2139095040) : (Op.cmpValue (FP.fcmp x x) .l).toInt = 0 := by
  have : FP.fcmp x x = some .eq := FP.Core.fcmp_eq.mpr ⟨(FP.Core.ne_nan32 x).mpr h, (FP.Core.ne_nan32 x).mpr h, rfl⟩
  rw [this]
  rfl
theorem nan_d {x : UInt64} (h : x.toNat % 2 ^ 63 ≤ 9218868437227405312) : (Op.cmpValue (FP.dcmp x x) .l).toInt = 0 := by
  have : FP.dcmp x x = some .eq := FP.Core.dcmp_eq.mpr ⟨(FP.Core.ne_nan x).mpr h, (FP.Core.ne_nan x).mpr h, rfl⟩
  rw [this]
  rfl
theorem MG.i {K : Nat} {x : UInt32} (h : MG K x) (hK : K ≤ 255) : x.toNat % 2 ^ 31 ≤ 2139095040 := by unfold MG at h; omega
