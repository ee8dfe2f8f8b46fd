/-! SPEC: what counts mean -/
/-- 1 if entry e covers minute m -/
def cvI (σ : Sg) (e m : Int) : Int := if σ 12 e ≠ 120 ∧ σ 10 e ≤ m ∧ m < enA σ e then 1 else 0
theorem cvI_in (σ : Sg) (e m : Int) : cvI σ e m = 0 ∨ cvI σ e m = 1 := by unfold cvI; split <;> simp
/-- how many of the first n entries cover m -/
def cnt (σ : Sg) (m : Int) : Nat → Int
  | 0 => 0
  | n + 1 => cnt σ m n + cvI σ (n : Int) m
/-- the one of them that started last, the later number of equals -/
def lat (σ : Sg) (m : Int) : Nat → Int
  | 0 => 0
  | n + 1 => if cvI σ (n : Int) m = 1 ∧ (cnt σ m n = 0 ∨ σ 10 (lat σ m n) ≤ σ 10 (n : Int)) then (n : Int) else lat σ m n
theorem cnt_in (σ : Sg) (m : Int) : ∀ n : Nat, 0 ≤ cnt σ m n ∧ cnt σ m n ≤ n
  | 0 => ⟨Int.le_refl _, Int.le_refl _⟩
  | n + 1 => by
    have := cnt_in σ m n
    have := cvI_in σ (n : Int) m
    unfold cnt
    omega
theorem lat_in (σ : Sg) (m : Int) : ∀ n : Nat, 0 ≤ lat σ m n ∧ (lat σ m n < n ∨ lat σ m n = 0)
  | 0 => ⟨Int.le_refl _, Or.inr rfl⟩
  | n + 1 => by
    have := lat_in σ m n
    unfold lat
    split <;> omega
theorem toN_s {i : Int} (h : 0 ≤ i) : (i + 1).toNat = i.toNat + 1 ∧ ((i.toNat : Nat) : Int) = i := by omega
theorem cnt_s (σ : Sg) (m : Int) {i : Int} (h : 0 ≤ i) : cnt σ m (i + 1).toNat = cnt σ m i.toNat + cvI σ i m := by
  rw [(toN_s h).1, cnt, (toN_s h).2]
theorem lat_s (σ : Sg) (m : Int) {i : Int} (h : 0 ≤ i) : lat σ m (i + 1).toNat = if cvI σ i m = 1 ∧ (cnt σ m i.toNat = 0 ∨ σ 10 (lat σ m i.toNat) ≤ σ 10 i) then i else lat σ m i.toNat := by
  rw [(toN_s h).1, lat, (toN_s h).2]
theorem cnt_mono (σ : Sg) (m : Int) : ∀ (a b : Nat), a ≤ b → cnt σ m a ≤ cnt σ m b
  | a, 0, h => by rw [Nat.le_zero.mp h]; exact Int.le_refl _
  | a, b + 1, h => by
    by_cases q : a = b + 1
    · rw [q]; exact Int.le_refl _
    · have := cnt_mono σ m a b (by omega)
      have := cvI_in σ (b : Int) m
      rw [cnt]
      omega
/-- the seconds of a minute for an active entry, by the rule -/
def shR (ru e many rank late : Int) : Int := if ru = 102 then 60 else if ru = 108 then (if e = late then 60 else 0) else 60 / many + (if rank < 60 % many then 1 else 0)
/-- the seconds of minute m that count for entry e -/
def shI (σ : Sg) (e m : Int) : Int := if cvI σ e m = 1 then shR (σ 1 0) e (cnt σ m (σ 8 0).toNat) (cnt σ m e.toNat) (lat σ m (σ 8 0).toNat) else 0
theorem shR_in {ru e many rank late : Int} (h : 0 < many) (hk : 0 ≤ rank) : 0 ≤ shR ru e many rank late ∧ shR ru e many rank late ≤ 60 := by
  have h1 : 0 ≤ 60 / many := Int.ediv_nonneg (by decide) (by omega)
  have h2 : 60 / many ≤ 60 := Int.ediv_le_self _ (by decide)
  have h3 := Int.emod_add_mul_ediv 60 many
  have h4 : 0 ≤ 60 % many := Int.emod_nonneg _ (by omega)
  unfold shR
  split
  · omega
  · split
    · split <;> omega
    · by_cases h5 : many = 1
      · subst h5; simp; split <;> omega
      · have : 60 / many < 60 := Int.ediv_lt_of_lt_mul (by omega) (by omega)
        split <;> omega
theorem shI_in {σ : Sg} {e m : Int} (h0 : 0 ≤ e) (h1 : e < σ 8 0) : 0 ≤ shI σ e m ∧ shI σ e m ≤ 60 := by
  unfold shI
  split
  · next h =>
    refine shR_in ?_ (cnt_in σ m e.toNat).1
    have a := cnt_s σ m h0
    have b := cnt_mono σ m (e + 1).toNat (σ 8 0).toNat (by omega)
    have c := (cnt_in σ m e.toNat).1
    omega
  · omega
/-- f a + .. + f (a + n - 1) -/
def sumI (f : Int → Int) (a : Int) : Nat → Int
  | 0 => 0
  | n + 1 => sumI f a n + f (a + n)
theorem sumI_s (f : Int → Int) {i : Int} (h : 0 ≤ i) : sumI f 0 (i + 1).toNat = sumI f 0 i.toNat + f i := by
  rw [(toN_s h).1, sumI, Int.zero_add, (toN_s h).2]
theorem sumI_in {f : Int → Int} {a lo hi : Int} (h : ∀ x, lo ≤ f x ∧ f x ≤ hi) : ∀ n : Nat, lo * n ≤ sumI f a n ∧ sumI f a n ≤ hi * n
  | 0 => by simp [sumI]
  | n + 1 => by
    have h1 := sumI_in h (a := a) n
    have h2 := h (a + n)
    rw [sumI]
    have e1 : lo * ((n + 1 : Nat) : Int) = lo * n + lo := by rw [Int.natCast_add, Int.mul_add]; simp
    have e2 : hi * ((n + 1 : Nat) : Int) = hi * n + hi := by rw [Int.natCast_add, Int.mul_add]; simp
    rw [e1, e2]
    omega
/-- an entry's counted seconds; in a day -/
def secS (σ : Sg) (e : Int) : Int := if σ 12 e = 102 then σ 13 e else sumI (shI σ e) 0 (σ 0 0).toNat
def dayF (σ : Sg) (e d : Int) : Int → Int := fun m => if m / 600 = d then shI σ e m else 0
def dayS (σ : Sg) (e d : Int) : Int := sumI (dayF σ e d) 0 (σ 0 0).toNat
theorem shs_in {σ : Sg} {e : Int} (h0 : 0 ≤ e) (h1 : e < σ 8 0) (n : Nat) : 0 ≤ sumI (shI σ e) 0 n ∧ sumI (shI σ e) 0 n ≤ 60 * n := by
  have := sumI_in (f := shI σ e) (a := 0) (lo := 0) (hi := 60) (fun x => shI_in h0 h1) n
  omega
theorem dys_in {σ : Sg} {e d : Int} (h0 : 0 ≤ e) (h1 : e < σ 8 0) (n : Nat) : 0 ≤ sumI (dayF σ e d) 0 n ∧ sumI (dayF σ e d) 0 n ≤ 60 * n := by
  have := sumI_in (f := dayF σ e d) (a := 0) (lo := 0) (hi := 60) (fun x => by
    unfold dayF
    have := shI_in (m := x) h0 h1
    split <;> omega) n
  omega
/-! moving whole fields -/
theorem MI_sw {g : Nat → Nat} {σ : Sg} {h : Hp} (H : MI g σ h) (k : Nat) : MI g (sw σ k (σ k)) h := H.to (fun k' j => by
  unfold sw
  by_cases q : k' = k
  · rw [if_pos q, q]
  · rw [if_neg q])
theorem MI_suw {g : Nat → Nat} {σ : Sg} {h : Hp} {k : Nat} {f : Int → Int} {i v : Int} (H : MI g (su (sw σ k f) k i v) h) : MI g (sw σ k (fun j => if j = i then v else f j)) h := H.to (fun k' j => by
  unfold su sw
  by_cases q : k' = k
  · simp only [if_pos q]
  · simp only [if_neg q])
theorem MI_suw2 {g : Nat → Nat} {σ : Sg} {h : Hp} {k q : Nat} (hkq : k ≠ q) {f f2 : Int → Int} {i v : Int} (H : MI g (su (sw (sw σ k f) q f2) k i v) h) : MI g (sw (sw σ k (fun j => if j = i then v else f j)) q f2) h := H.to (fun k' j => by
  unfold su sw
  by_cases a : k' = k
  · have b : k' ≠ q := fun z => hkq (a.symm.trans z)
    simp only [if_pos a, if_neg b]
  · simp only [if_neg a])
/-- fewer locals, by their places -/
theorem z_pick {p : Program} {l : Launch} {e : Env} {R : Room} {s : State} {m : MethodId} {args : Array Value} {below : List Frame} {meth : Method} {c : Code} {nL : Nat} {G : GG} {N0 : Nat} {A : Nat → Prop} {Q : State → Prop} {h : Hp} {k n pc : Nat} {lv lv' : List (Nat × AV)} {st : List AV} (ks : List Nat) (hp : ks.filterMap (fun k => lv[k]?) = lv') (K : Z p l e R s m args below meth c nL G N0 A Q h k n pc lv' st) : Z p l e R s m args below meth c nL G N0 A Q h k n pc lv st := by
  refine z_lv (fun q hq => ?_) K
  rw [← hp] at hq
  obtain ⟨i, -, hi⟩ := List.mem_filterMap.mp hq
  exact List.mem_of_getElem? hi
