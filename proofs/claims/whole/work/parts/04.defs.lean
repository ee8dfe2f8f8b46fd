/-! THE Z LAYER: abstract values (ints as Int), an abstract heap (a partial function), one judgement for a walk -/
def iI (z : Int) : Int32 := Int32.ofInt z
theorem iI_toInt {z : Int} (h : -2147483648 ≤ z ∧ z < 2147483648) : (iI z).toInt = z := Int32.toInt_ofInt_of_le (by have := h.1; omega) (by have := h.2; omega)
theorem iI_add (a b : Int) : iI (a + b) = iI a + iI b := Int32.ofInt_add a b
theorem iI_sub (a b : Int) : iI (a - b) = iI a - iI b := Int32.ofInt_sub a b
theorem iI_mul (a b : Int) : iI (a * b) = iI a * iI b := Int32.ofInt_mul a b
theorem iI_neg (a : Int) : iI (-a) = - iI a := Int32.ofInt_neg a
theorem iI_lt {a b : Int} (ha : -2147483648 ≤ a ∧ a < 2147483648) (hb : -2147483648 ≤ b ∧ b < 2147483648) : iI a < iI b ↔ a < b := by rw [Int32.lt_iff_toInt_lt, iI_toInt ha, iI_toInt hb]
theorem iI_le {a b : Int} (ha : -2147483648 ≤ a ∧ a < 2147483648) (hb : -2147483648 ≤ b ∧ b < 2147483648) : iI a ≤ iI b ↔ a ≤ b := by rw [Int32.le_iff_toInt_le, iI_toInt ha, iI_toInt hb]
theorem iI_inj {a b : Int} (ha : -2147483648 ≤ a ∧ a < 2147483648) (hb : -2147483648 ≤ b ∧ b < 2147483648) : iI a = iI b ↔ a = b := by rw [← Int32.toInt_inj, iI_toInt ha, iI_toInt hb]
theorem iI_of (x : Int32) : iI x.toInt = x := Int32.ofInt_toInt x
theorem iI_rng (x : Int32) : -2147483648 ≤ x.toInt ∧ x.toInt < 2147483648 := ⟨by have := Int32.le_toInt x; omega, by have := Int32.toInt_lt x; omega⟩
theorem iI_clamp {z : Int} (h : -2147483648 ≤ z ∧ z < 2147483648) : (iI z).toNatClampNeg = z.toNat := by
  show (iI z).toInt.toNat = _
  rw [iI_toInt h]
theorem iI_vp {z : Int} {n : Nat} (h0 : 0 ≤ z) (h1 : z < n) (hn : n < 2147483648) : vp_in (iI z) n := by
  refine vp_in_iff.mpr ?_
  rw [iI_toInt (by omega)]
  omega
abbrev AV : Type := Int ⊕ (Option Nat ⊕ (UInt32 ⊕ (UInt64 ⊕ Int)))
abbrev vI (z : Int) : AV := Sum.inl z
abbrev vQ (r : Option Nat) : AV := Sum.inr (Sum.inl r)
abbrev vR (a : Nat) : AV := Sum.inr (Sum.inl (some a))
abbrev vN : AV := Sum.inr (Sum.inl none)
abbrev vF (x : UInt32) : AV := Sum.inr (Sum.inr (Sum.inl x))
abbrev vD (x : UInt64) : AV := Sum.inr (Sum.inr (Sum.inr (Sum.inl x)))
abbrev vL (z : Int) : AV := Sum.inr (Sum.inr (Sum.inr (Sum.inr z)))
def cv : AV → Value
  | Sum.inl z => .int (iI z)
  | Sum.inr (Sum.inl r) => va_rf r
  | Sum.inr (Sum.inr (Sum.inl x)) => .float x
  | Sum.inr (Sum.inr (Sum.inr (Sum.inl x))) => .double x
  | Sum.inr (Sum.inr (Sum.inr (Sum.inr z))) => .long (Int64.ofInt z)
def cat2 : AV → Bool
  | Sum.inr (Sum.inr (Sum.inr _)) => true
  | _ => false
theorem cat2_cv (v : AV) : ((cv v).category == 2) = cat2 v := by
  rcases v with z | (r | (x | (x | z)))
  · rfl
  · cases r <;> rfl
  · rfl
  · rfl
  · rfl
/-- a heap's entry: an array (kind, length, contents), an object (class, fields) -/
abbrev AE : Type := (Nat × Nat × (Int → AV)) ⊕ (Nat × List AV)
abbrev Hp : Type := Nat → Option AE
abbrev eA (k n : Nat) (f : Int → AV) : AE := Sum.inl (k, n, f)
abbrev eO (ci : Nat) (fs : List AV) : AE := Sum.inr (ci, fs)
def hu (h : Hp) (a : Nat) (e : AE) : Hp := fun b => if b = a then some e else h b
theorem hu_s (h : Hp) (a : Nat) (e : AE) : hu h a e a = some e := if_pos rfl
theorem hu_n (h : Hp) {a b : Nat} (e : AE) (hn : b ≠ a) : hu h a e b = h b := if_neg hn
def fu (f : Int → AV) (i : Int) (v : AV) : Int → AV := fun j => if j = i then v else f j
theorem fu_s (f : Int → AV) (i : Int) (v : AV) : fu f i v i = v := if_pos rfl
theorem fu_n (f : Int → AV) {i j : Int} (v : AV) (hn : j ≠ i) : fu f i v j = f j := if_neg hn
/-- the classes whose objects the worlds hold: 0 .. 14 as the printed vwCl -/
abbrev kCl : List vw_C := [(RJ0, TJ0, 4), (RJ4, TJ4, 4), (RJx00060, TJx00060, 6), (RJx7c733, TJx7c733, 6), (RJx4a65c, TJx4a65c, 3), (RX0, TX0, 6), (RX1, TX1, 3), (RX2, TX2, 6), (RX3, TX3, 4), (RX4, TX4, 4), (RX5, TX5, 3), (RX6, TX6, 4), (RX7, TX7, 3), (RX8, TX8, 8), (RX9, TX9, 31)]
/-- array kinds: 0 int 1 char 2 float 3 boolean 4 byte 5 Object 6 long 7 double -/
abbrev kTys (ca : Nat → ClassId) : List (ClassId × FieldType) := [(ca 0, .int), (ca 1, .char), (ca 2, .float), (ca 3, .boolean), (ca 4, .byte), (ca 5, .object "java/lang/Object"), (ca 6, .long), (ca 7, .double)]
/-- the launch's own numbers: classes and slots, array classes; addresses of the static things: 0 the empty list's array, 1 DigitTens, 2 DigitOnes -/
abbrev GG : Type := va_G × (Nat → ClassId) × (Nat → Nat)
def KD (G : GG) (U : State) : Prop := va_K G.1 kCl (kTys G.2.1) U
theorem KD.moved {G : GG} {u U : State} (hvm : u.vm.Alike U.vm) (h : KD G u) : KD G U := va_K.moved hvm h
def zat (G : GG) (a : Nat) (e : AE) (H : Heap) : Prop := match e with
  | Sum.inl x => H[a]? = some (arrV (G.2.1 x.1) x.2.1 (fun j => cv (x.2.2 (j : Int))))
  | Sum.inr x => ∃ r : vw_C, kCl[x.1]? = some r ∧ t_OB a (G.1.1 x.1) r.2.2 (G.1.2 x.1) H (vp_V (x.2.map cv))
theorem zat.kept {G : GG} {a : Nat} {e : AE} {H H1 : Heap} (h : zat G a e H) (hq : H1[a]? = H[a]?) : zat G a e H1 := by
  cases e with
  | inl x => exact hq.trans h
  | inr x =>
    obtain ⟨r, h1, h2⟩ := h
    exact ⟨r, h1, h2.kept hq⟩
theorem zat.lt {G : GG} {a : Nat} {e : AE} {H : Heap} (h : zat G a e H) : a < H.size := by
  cases e with
  | inl x => exact (Array.getElem?_eq_some_iff.mp h).1
  | inr x =>
    obtain ⟨r, h1, cell, h2, -⟩ := h
    exact (Array.getElem?_eq_some_iff.mp h2).1
def WP (G : GG) (N0 : Nat) (h : Hp) (H : Heap) : Prop := ∀ a e, h a = some e → N0 ≤ a ∧ zat G a e H
theorem WP.fresh {G : GG} {N0 : Nat} {h : Hp} {H : Heap} (hP : WP G N0 h H) : h H.size = none := by
  cases hh : h H.size with
  | none => rfl
  | some e => exact absurd ((hP _ _ hh).2.lt) (Nat.lt_irrefl _)
theorem WP.put {G : GG} {N0 : Nat} {h : Hp} {H H1 : Heap} {a : Nat} {e : AE} (hP : WP G N0 h H) (hN : N0 ≤ a) (he : zat G a e H1) (ho : ∀ b, b ≠ a → b < H.size → H1[b]? = H[b]?) : WP G N0 (hu h a e) H1 := by
  intro b e1 hb
  by_cases hba : b = a
  · subst hba
    rw [hu_s] at hb
    cases hb
    exact ⟨hN, he⟩
  · rw [hu_n h e hba] at hb
    obtain ⟨h1, h2⟩ := hP b e1 hb
    exact ⟨h1, h2.kept (ho b hba h2.lt)⟩
/-- one list of words for every method: the good ones of the tables -/
def LW : List Cond := lw_tbl.filter goodWord
theorem lw_good {w : Cond} (h : w ∈ LW) : (w.onTables && w.keeps) = true ∨ ∃ ty, w = .arrayClass ty := good_of_word (List.mem_filter.mp h).2
theorem inT {w : Cond} (i : Nat) (h : tables_1[i]? = some w) (g : goodWord w = true) : w ∈ LW := List.mem_filter.mpr ⟨List.mem_append_right _ (List.mem_of_getElem? h), g⟩
theorem inS {w : Cond} (i : Nat) (h : (k2_sels lw_privs)[i]? = some w) (g : goodWord w = true) : w ∈ LW := List.mem_filter.mpr ⟨List.mem_append_left _ (List.mem_of_getElem? h), g⟩
theorem giW {c : Cond} (h : c ∈ LW) : GoodIn LW (c :: LW) := fun w hw => (List.mem_cons.mp hw).elim (fun e => by rw [e]; exact ⟨h, lw_good h⟩) (fun hw => ⟨hw, lw_good hw⟩)
theorem giV {own C : String} {idx n : Nat} {y : MethodName} {cc : ByteArray} {ret : Option FieldType} (h1 : Cond.methodLink own idx y ∈ LW) (h2 : Cond.instanceMethod y ∈ LW) (h3 : Cond.selects C y y ∈ LW) (h4 : Cond.initialized C ∈ LW) (h5 : Cond.code y cc n ret ∈ LW) : GoodIn LW (wsV own idx C y (Cond.code y cc n ret :: LW)) := by
  intro w hw
  unfold wsV at hw
  rcases List.mem_append.mp hw with hw | hw
  · simp only [List.mem_cons, List.not_mem_nil, or_false] at hw
    rcases hw with rfl | rfl | rfl | rfl
    · exact ⟨h1, lw_good h1⟩
    · exact ⟨h2, lw_good h2⟩
    · exact ⟨h3, lw_good h3⟩
    · exact ⟨h4, lw_good h4⟩
  · exact giW h5 w hw
/-- the field that own's entry idx names: field f of class ci -/
def FL (own : String) (idx ci f : Nat) : Prop := ∃ (r : vw_C) (ref : String), kCl[ci]? = some r ∧ f < r.2.2 ∧ Cond.fieldLink own idx ref (r.2.1 f).2.1 (r.2.1 f).2.2.1 ∈ LW ∧ (ref = (r.2.1 f).1 ∨ Cond.sameField ref (r.2.1 f).1 (r.2.1 f).2.1 (r.2.1 f).2.2.1 ∈ LW)
def FT (ci f : Nat) (ty : FieldType) (fin : Bool) : Prop := ∀ r : vw_C, kCl[ci]? = some r → parseFieldDescriptor (r.2.1 f).2.2.1 = some ty ∧ (r.2.1 f).2.2.2 = fin
/-- a new object of class ci, its fields fs0 -/
def NW (own : String) (idx ci : Nat) (fs0 : List AV) : Prop := ∃ r : vw_C, kCl[ci]? = some r ∧ Cond.classLink own idx r.1 ∈ LW ∧ Cond.instantiable r.1 r.2.2 ∈ LW ∧ Cond.initialized r.1 ∈ LW ∧ ∀ (ty : Nat → FieldType), (∀ k, k < r.2.2 → parseFieldDescriptor (r.2.1 k).2.2.1 = some (ty k)) → ∀ j, j < r.2.2 → defaultValue (ty j) = vp_V (fs0.map cv) j
theorem nw_of {r : vw_C} {fs0 : List AV} (h : ((List.range r.2.2).all fun j => decide ((parseFieldDescriptor (r.2.1 j).2.2.1).map defaultValue = some (vp_V (fs0.map cv) j))) = true) : ∀ (ty : Nat → FieldType), (∀ k, k < r.2.2 → parseFieldDescriptor (r.2.1 k).2.2.1 = some (ty k)) → ∀ j, j < r.2.2 → defaultValue (ty j) = vp_V (fs0.map cv) j := by
  intro ty hty j hj
  have h1 := List.all_eq_true.mp h j (List.mem_range.mpr hj)
  rw [decide_eq_true_eq, hty j hj] at h1
  exact Option.some.inj h1
/-- what a call of y at own's entry idx wants of the tables -/
def CV (own : String) (idx : Nat) (C : String) (y : MethodName) (bc : ByteArray) (maxL : Nat) (ret : Option FieldType) (nA : Nat) : Prop := GoodIn LW (wsV own idx C y (Cond.code y bc maxL ret :: LW)) ∧ (y.cls = C ∧ y.cls ≠ "java/lang/invoke/MethodHandle" ∧ y.cls ≠ "java/lang/invoke/VarHandle" ∧ (parseMethodDescriptor y.desc).map (fun d => d.parameters.length) = some nA)
