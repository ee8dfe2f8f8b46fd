/-- strings that throws name -/
abbrev strL : List (String × Nat × String) := [("TimerLedger", 63, "1 to 600 minutes pass"), ("TimerLedger", 70, "the last minute is 2999"), ("TimerLedger", 77, "no such rule"), ("TimerLedger", 383, "a unit is 1 to 60 minutes"), ("TimerLedger", 385, "no such mode"), ("TimerLedger", 387, "no such level"), ("TimerLedger", 390, "a rate is 0 to 50000 cents"), ("TimerLedger", 94, "there are 5 clients"), ("TimerLedger", 371, "no such client"), ("TimerLedger", 121, "a budget is 0 to 9999 minutes"), ("TimerLedger", 399, "there are 24 entries"), ("TimerLedger", 132, "4 entries are running"), ("TimerLedger", 377, "no such entry"), ("TimerLedger", 147, "the entry is not running"), ("TimerLedger", 155, "a minute is out of range"), ("TimerLedger", 397, "the entry is frozen or removed"), ("TimerLedger", 161, "a start is 0 to the end of the entry"), ("TimerLedger", 163, "the entry is not ended"), ("TimerLedger", 165, "an end is the start of the entry to the present minute"), ("TimerLedger", 206, "no such character"), ("TimerLedger", 215, "the client's time is rounded by day"), ("TimerLedger", 392, "a day is 0 to 4"), ("TimerLedger", 249, "there are 8 invoices"), ("TimerLedger", 262, "there is nothing to invoice"), ("TimerLedger", 379, "no such invoice"), ("TimerLedger", 381, "no such line"), ("TimerLedger", 315, "a correction is -600 to 600 minutes, but not 0"), ("TimerLedger", 317, "the entry is not frozen"), ("TimerLedger", 319, "there are 16 corrections"), ("TimerLedger", 334, "the budget is 0"), ("TimerLedger", 341, "there are no entries")]
abbrev castL : List (String × String) := [("TimerLedger$Client", "java/lang/Object"), ("TimerLedger$Correction", "java/lang/Object"), ("TimerLedger$Entry", "java/lang/Object"), ("TimerLedger$Invoice", "java/lang/Object"), ("TimerLedger$Line", "java/lang/Object"), ("java/lang/IndexOutOfBoundsException", "java/lang/IndexOutOfBoundsException"), ("java/lang/IllegalArgumentException", "java/lang/IllegalArgumentException"), ("java/lang/IllegalStateException", "java/lang/IllegalStateException"), ("java/lang/UnsupportedOperationException", "java/lang/UnsupportedOperationException"), ("java/lang/ArithmeticException", "java/lang/ArithmeticException")]
abbrev ncastL : List (String × String) := [("java/lang/ArithmeticException", "java/lang/IllegalArgumentException"), ("java/lang/ArithmeticException", "java/lang/IllegalStateException"), ("java/lang/ArithmeticException", "java/lang/IndexOutOfBoundsException"), ("java/lang/ArithmeticException", "java/lang/UnsupportedOperationException"), ("java/lang/IllegalArgumentException", "java/lang/ArithmeticException"), ("java/lang/IllegalArgumentException", "java/lang/IllegalStateException"), ("java/lang/IllegalArgumentException", "java/lang/IndexOutOfBoundsException"), ("java/lang/IllegalArgumentException", "java/lang/UnsupportedOperationException"), ("java/lang/IllegalStateException", "java/lang/ArithmeticException"), ("java/lang/IllegalStateException", "java/lang/IllegalArgumentException"), ("java/lang/IllegalStateException", "java/lang/IndexOutOfBoundsException"), ("java/lang/IllegalStateException", "java/lang/UnsupportedOperationException"), ("java/lang/IndexOutOfBoundsException", "java/lang/ArithmeticException"), ("java/lang/IndexOutOfBoundsException", "java/lang/IllegalArgumentException"), ("java/lang/IndexOutOfBoundsException", "java/lang/IllegalStateException"), ("java/lang/IndexOutOfBoundsException", "java/lang/UnsupportedOperationException"), ("java/lang/UnsupportedOperationException", "java/lang/ArithmeticException"), ("java/lang/UnsupportedOperationException", "java/lang/IllegalArgumentException"), ("java/lang/UnsupportedOperationException", "java/lang/IllegalStateException"), ("java/lang/UnsupportedOperationException", "java/lang/IndexOutOfBoundsException")]
/-- private methods of StringBuilder's superclass -/
abbrev selL : List MethodName := [yJ5_ensureCapacityInternal_d00df, yJ5_newCapacity_0f7a4]
/-- what the tables say beside the good words -/
def ST (G : GG) (U : State) : Prop := (∀ q ∈ strL, ∃ a, vk_R q.1 q.2.1 q.2.2 a U) ∧ (∀ q ∈ castL, va_Nw (.castable q.1 q.2) U) ∧ (∀ q ∈ ncastL, va_Nc q.1 q.2 U) ∧ va_AO "java/lang/Object" U ∧ va_Mi "[Ljava/lang/Object;" (G.2.2 3) U ∧ va_Dc U ∧ va_Nw (.methodLinkNest "TimerLedger" 9 ⟨"TimerLedger$Timesheet", "<init>", "()V"⟩ "TimerLedger") U ∧ (∀ q ∈ selL, (Cond.selects "java/lang/StringBuilder" q q).before #[] U = true)
theorem ST.moved {G : GG} {u U : State} (hW : u.WarmedH U.vm) (h : ST G u) : ST G U := by
  obtain ⟨h1, h2, h3, h4, h5, h6, h7, h8⟩ := h
  have a := hW.alike
  refine ⟨fun q hq => ?_, fun q hq => (h2 q hq).warmC hW, fun q hq => (h3 q hq).moved a, h4.moved a, h5.moved a, h6.moved a, h7.warmM hW, fun q hq => word_at hW (Or.inl rfl) (h8 q hq)⟩
  obtain ⟨b, hb⟩ := h1 q hq
  exact ⟨b, vk_R.warm hW hb⟩
/-- what is static and nobody writes -/
def SF (G : GG) (N0 : Nat) (U : State) (H : Heap) : Prop :=
  N0 ≤ H.size ∧ va_Z "java/util/ArrayList" "DEFAULTCAPACITY_EMPTY_ELEMENTDATA" "[Ljava/lang/Object;" (.ref (G.2.2 0)) (fun q => N0 ≤ q) U H ∧ va_T (.object "java/lang/Object") (G.2.2 0) 0 (fun _ => .null) (fun q => N0 ≤ q) U H ∧
  vx_Zq Bundle.tN "UNASSIGNED_STACK" Bundle.steD (fun q => N0 ≤ q) U H ∧ vx_Zq Bundle.tN "SUPPRESSED_SENTINEL" Bundle.listD (fun q => N0 ≤ q) U H ∧ ST G U ∧ va_Z "java/lang/String" "COMPACT_STRINGS" "Z" (.int 1) (fun q => N0 ≤ q) U H ∧
  va_Z "java/lang/Integer" "DigitTens" "[B" (.ref (G.2.2 1)) (fun q => N0 ≤ q) U H ∧ va_Z "java/lang/Integer" "DigitOnes" "[B" (.ref (G.2.2 2)) (fun q => N0 ≤ q) U H ∧
  va_T .byte (G.2.2 1) 100 (fun j => .int (iI (48 + (j : Int) / 10))) (fun q => N0 ≤ q) U H ∧ va_T .byte (G.2.2 2) 100 (fun j => .int (iI (48 + (j : Int) % 10))) (fun q => N0 ≤ q) U H ∧
  vx_Zq "jdk/internal/util/Preconditions" "SIOOBE_FORMATTER" "Ljava/util/function/BiFunction;" (fun q => N0 ≤ q) U H
theorem SF.moved {G : GG} {N0 : Nat} {u U : State} {H : Heap} (hW : u.WarmedH U.vm) (h : SF G N0 u H) : SF G N0 U H := by
  obtain ⟨h0, h1, h2, h3, h4, h5, h6, h7, h8, h9, h10, h11⟩ := h
  have a := hW.alike
  exact ⟨h0, va_Z.moved a h1, va_T.moved a h2, vx_Zq.moved a h3, vx_Zq.moved a h4, h5.moved hW, va_Z.moved a h6, va_Z.moved a h7, va_Z.moved a h8, va_T.moved a h9, va_T.moved a h10, vx_Zq.moved a h11⟩
theorem SF.kept {G : GG} {N0 : Nat} {U : State} {H H1 : Heap} (h : SF G N0 U H) (hz : H.size ≤ H1.size) (hq : ∀ a : Nat, a < H.size → ¬ N0 ≤ a → H1[a]? = H[a]?) : SF G N0 U H1 := by
  obtain ⟨h0, h1, h2, h3, h4, h5, h6, h7, h8, h9, h10, h11⟩ := h
  exact ⟨Nat.le_trans h0 hz, va_Z.kept h1 hq, va_T.kept h2 hq, vx_Zq.kept h3 hq, vx_Zq.kept h4 hq, h5, va_Z.kept h6 hq, va_Z.kept h7 hq, va_Z.kept h8 hq, va_T.kept h9 hq, va_T.kept h10 hq, vx_Zq.kept h11 hq⟩
def IW (G : GG) (N0 : Nat) (h : Hp) (U : State) : Prop := WP G N0 h U.heap ∧ KD G U ∧ SF G N0 U U.heap
/-- what a contract's start and end say -/
def cA (h : Hp) (sz : Nat) : Nat → Prop := fun q => h q ≠ none ∨ sz ≤ q
def cPc (G : GG) (N0 : Nat) (h : Hp) (as : List AV) (sz : Nat) : Array Value → State → Prop := va_Pc (as.map cv) (fun U => U.heap.size = sz ∧ IW G N0 h U)
def cB (G : GG) (N0 : Nat) (h : Hp) (sz : Nat) (st t : State) (h' : Hp) : Prop := (∀ a, h' a ≠ none → h a ≠ none ∨ sz ≤ a) ∧ WP G N0 h' t.heap ∧ va_F (cA h sz) st t
def cQc (G : GG) (N0 : Nat) (h : Hp) (sz : Nat) (P : Option AV → Hp → Prop) : Array Value → State → Outcome → State → Prop := fun _ st o t => ∃ (r : Option AV) (h' : Hp), o = .returned (r.map cv) ∧ P r h' ∧ cB G N0 h sz st t h'
def cXC (G : GG) (N0 : Nat) (h : Hp) (sz : Nat) (X : String → Hp → Prop) : String → State → State → Prop := fun E st t => ∃ h' : Hp, X E h' ∧ cB G N0 h sz st t h'
/-- a method's contract: it returns; .. or throws -/
def Ct (l : Launch) (G : GG) (N0 : Nat) (y : MethodName) (ws : List Cond) (rm : Room) (as : List AV) (h : Hp) (P : Option AV → Hp → Prop) : Prop := ∀ sz : Nat, Met l y ws rm (cPc G N0 h as sz) (cQc G N0 h sz P) rm.cells rm.slots (cA h sz)
def CtX (l : Launch) (G : GG) (N0 : Nat) (y : MethodName) (ws : List Cond) (rm : Room) (as : List AV) (h : Hp) (P : Option AV → Hp → Prop) (X : String → Hp → Prop) : Prop := ∀ sz : Nat, vx_Met l y ws rm (cPc G N0 h as sz) (cQc G N0 h sz P) (cXC G N0 h sz X) rm.cells rm.slots (cA h sz)
theorem cPc_blind (G : GG) (N0 : Nat) (h : Hp) (as : List AV) (sz : Nat) : FrameBlind (cPc G N0 h as sz) := by
  intro a U g mk q
  obtain ⟨q0, q1, q2, q3, q4⟩ := q
  exact ⟨q0, q1, q2, KD.moved (u := U) (U := U.calling g mk a) (Vm.Alike.refl U.vm) q3, SF.moved (u := U) (U := U.calling g mk a) (State.WarmedH.refl U) q4⟩
abbrev lvc (lv : List (Nat × AV)) : List (Nat × Value) := lv.map (fun q => (q.1, cv q.2))
/-- the locals behind a store of one slot, of two -/
abbrev lS1 (lv : List (Nat × AV)) (i : Nat) (v : AV) : List (Nat × AV) := (i, v) :: lv.filter (fun q => !(q.1 == i) && !(q.1 + 1 == i && cat2 q.2))
abbrev lS2 (lv : List (Nat × AV)) (i : Nat) (v : AV) : List (Nat × AV) := (i, v) :: lv.filter (fun q => !(q.1 == i) && (!(q.1 == i + 1) && !(q.1 + 1 == i && cat2 q.2)))
theorem lvc_S1 (lv : List (Nat × AV)) (i : Nat) (v : AV) : lvc (lS1 lv i v) = (i, cv v) :: (lvc lv).filter (fun q => !(q.1 == i) && !(q.1 + 1 == i && q.2.category == 2)) := by
  show _ :: _ = _ :: _
  congr 1
  show (lv.filter _).map _ = (lv.map _).filter _
  rw [List.filter_map]
  congr 1
  refine List.filter_congr fun q _ => ?_
  show _ = (!(q.1 == i) && !(q.1 + 1 == i && (cv q.2).category == 2))
  rw [cat2_cv]
theorem lvc_S2 (lv : List (Nat × AV)) (i : Nat) (v : AV) : lvc (lS2 lv i v) = (i, cv v) :: (lvc lv).filter (fun q => !(q.1 == i) && (!(q.1 == i + 1) && !(q.1 + 1 == i && q.2.category == 2))) := by
  show _ :: _ = _ :: _
  congr 1
  show (lv.filter _).map _ = (lv.map _).filter _
  rw [List.filter_map]
  congr 1
  refine List.filter_congr fun q _ => ?_
  show _ = (!(q.1 == i) && (!(q.1 == i + 1) && !(q.1 + 1 == i && (cv q.2).category == 2)))
  rw [cat2_cv]
theorem lvc_at {lv : List (Nat × AV)} {k i : Nat} {v : AV} (h : lv[k]? = some (i, v)) : (lvc lv)[k]? = some (i, cv v) := by rw [lvc, List.getElem?_map, h]; rfl
section ZK
variable {p : Program} {l : Launch} {e : Env} {R : Room} {s : State} {m : MethodId} {args : Array Value} {below : List Frame} {meth : Method} {c : Code} {own : String} {cc : ByteArray} {nL : Nat} {G : GG} {N0 : Nat} {A : Nat → Prop}
/-- what holds all through a walk -/
def Fx (p : Program) (s : State) (m : MethodId) (args : Array Value) (meth : Method) (c : Code) (own : String) (cc : ByteArray) (nL : Nat) (G : GG) (N0 : Nat) (A : Nat → Prop) : Prop :=
  p.tables.exec = Jvm.exec ∧ c.code = cc ∧ c.maxLocals = nL ∧ s.vm.findClass own = some m.cls ∧ (∀ w ∈ LW, w.before args s = true) ∧ meth.locks = false ∧ KD G s ∧ SF G N0 s s.heap ∧ (∀ q, s.heap.size ≤ q → A q) ∧ (∀ q, A q → N0 ≤ q)
/-- from here the walk comes to Q -/
def Z (p : Program) (l : Launch) (e : Env) (R : Room) (s : State) (m : MethodId) (args : Array Value) (below : List Frame) (meth : Method) (c : Code) (nL : Nat) (G : GG) (N0 : Nat) (A : Nat → Prop) (Q : State → Prop) (h : Hp) (k n : Nat) (pc : Nat) (lv : List (Nat × AV)) (st : List AV) : Prop :=
  ∀ (H : Heap) (locs : List Loc) (ls : Array Slot), WP G N0 h H → (∀ a, h a ≠ none → A a) → va_S A s.heap H locs → lv_has ls nL (lvc lv) → W p l e R s m args below meth c H locs k n Q (F0 m pc ls (st.map cv))
variable {Q : State → Prop} {h : Hp} {k n pc : Nat} {lv : List (Nat × AV)} {st : List AV}
/-- fewer locals, in another order -/
theorem z_lv {lv' : List (Nat × AV)} (hs : ∀ q ∈ lv', q ∈ lv) (K : Z p l e R s m args below meth c nL G N0 A Q h k n pc lv' st) : Z p l e R s m args below meth c nL G N0 A Q h k n pc lv st := by
  intro H locs ls hP hA hS hl
  refine K H locs ls hP hA hS ⟨hl.1, hl.2.1, fun q hq => ?_⟩
  obtain ⟨r, hr, rfl⟩ := List.mem_map.mp hq
  exact hl.2.2 _ (List.mem_map.mpr ⟨r, hs r hr, rfl⟩)
theorem z_widen {k' n' : Nat} (h1 : k ≤ k') (h2 : n ≤ n') (K : Z p l e R s m args below meth c nL G N0 A Q h k' n' pc lv st) : Z p l e R s m args below meth c nL G N0 A Q h k n pc lv st := fun H locs ls hP hA hS hl => W.widen h1 h2 (K H locs ls hP hA hS hl)

theorem z_iconst {z : Int} (F : Fx p s m args meth c own cc nL G N0 A) (d : decode cc pc = .ok (.iconst z, 1))  (K : Z p l e R s m args below meth c nL G N0 A Q h k n (pc + 1) lv (vI z :: st)) : Z p l e R s m args below meth c nL G N0 A Q h k n pc lv (st) := by
  obtain ⟨hx, hb, hml, hown, hts, hlocks, hKD, hSF, hA0, hAN⟩ := F
  intro H locs ls hP hA hS hl
  exact lv_iconst hx hb d rfl (K H locs ls hP hA hS hl)
theorem z_bipush {z : Int} (F : Fx p s m args meth c own cc nL G N0 A) (d : decode cc pc = .ok (.bipush z, 2)) (hz : (Int8.ofInt z).toInt32 = iI z) (K : Z p l e R s m args below meth c nL G N0 A Q h k n (pc + 2) lv (vI z :: st)) : Z p l e R s m args below meth c nL G N0 A Q h k n pc lv (st) := by
  obtain ⟨hx, hb, hml, hown, hts, hlocks, hKD, hSF, hA0, hAN⟩ := F
  intro H locs ls hP hA hS hl
  exact lv_bipush hx hb d hz (K H locs ls hP hA hS hl)
theorem z_sipush {z : Int} (F : Fx p s m args meth c own cc nL G N0 A) (d : decode cc pc = .ok (.sipush z, 3)) (hz : (Int16.ofInt z).toInt32 = iI z) (K : Z p l e R s m args below meth c nL G N0 A Q h k n (pc + 3) lv (vI z :: st)) : Z p l e R s m args below meth c nL G N0 A Q h k n pc lv (st) := by
  obtain ⟨hx, hb, hml, hown, hts, hlocks, hKD, hSF, hA0, hAN⟩ := F
  intro H locs ls hP hA hS hl
  exact lv_sipush hx hb d hz (K H locs ls hP hA hS hl)
theorem z_iload_n (F : Fx p s m args meth c own cc nL G N0 A) {i4 : Fin 4} {i : Nat} {x : Int} (d : decode cc pc = .ok (.iload_n i4, 1)) (hi : (i4 : Nat) = i) (j : Nat) (hj : lv[j]? = some (i, vI x)) (K : Z p l e R s m args below meth c nL G N0 A Q h k n (pc + 1) lv (vI x :: st)) : Z p l e R s m args below meth c nL G N0 A Q h k n pc lv st := by
  obtain ⟨hx, hb, hml, hown, hts, hlocks, hKD, hSF, hA0, hAN⟩ := F
  intro H locs ls hP hA hS hl
  exact lv_iload_n hx hb d hi (lv_at hl j (lvc_at hj)) (K H locs ls hP hA hS hl)
theorem z_iload (F : Fx p s m args meth c own cc nL G N0 A) {i : Nat} {x : Int} (d : decode cc pc = .ok (.iload i, 2)) (j : Nat) (hj : lv[j]? = some (i, vI x)) (K : Z p l e R s m args below meth c nL G N0 A Q h k n (pc + 2) lv (vI x :: st)) : Z p l e R s m args below meth c nL G N0 A Q h k n pc lv st := by
  obtain ⟨hx, hb, hml, hown, hts, hlocks, hKD, hSF, hA0, hAN⟩ := F
  intro H locs ls hP hA hS hl
  exact lv_iload hx hb d (lv_at hl j (lvc_at hj)) (K H locs ls hP hA hS hl)
theorem z_aload_n (F : Fx p s m args meth c own cc nL G N0 A) {i4 : Fin 4} {i : Nat} {x : Nat} (d : decode cc pc = .ok (.aload_n i4, 1)) (hi : (i4 : Nat) = i) (j : Nat) (hj : lv[j]? = some (i, vR x)) (K : Z p l e R s m args below meth c nL G N0 A Q h k n (pc + 1) lv (vR x :: st)) : Z p l e R s m args below meth c nL G N0 A Q h k n pc lv st := by
  obtain ⟨hx, hb, hml, hown, hts, hlocks, hKD, hSF, hA0, hAN⟩ := F
  intro H locs ls hP hA hS hl
  exact lv_aload_n hx hb d hi (lv_at hl j (lvc_at hj)) (K H locs ls hP hA hS hl)
theorem z_aload (F : Fx p s m args meth c own cc nL G N0 A) {i : Nat} {x : Nat} (d : decode cc pc = .ok (.aload i, 2)) (j : Nat) (hj : lv[j]? = some (i, vR x)) (K : Z p l e R s m args below meth c nL G N0 A Q h k n (pc + 2) lv (vR x :: st)) : Z p l e R s m args below meth c nL G N0 A Q h k n pc lv st := by
  obtain ⟨hx, hb, hml, hown, hts, hlocks, hKD, hSF, hA0, hAN⟩ := F
  intro H locs ls hP hA hS hl
  exact lv_aload hx hb d (lv_at hl j (lvc_at hj)) (K H locs ls hP hA hS hl)
theorem z_fload_n (F : Fx p s m args meth c own cc nL G N0 A) {i4 : Fin 4} {i : Nat} {x : UInt32} (d : decode cc pc = .ok (.fload_n i4, 1)) (hi : (i4 : Nat) = i) (j : Nat) (hj : lv[j]? = some (i, vF x)) (K : Z p l e R s m args below meth c nL G N0 A Q h k n (pc + 1) lv (vF x :: st)) : Z p l e R s m args below meth c nL G N0 A Q h k n pc lv st := by
  obtain ⟨hx, hb, hml, hown, hts, hlocks, hKD, hSF, hA0, hAN⟩ := F
  intro H locs ls hP hA hS hl
  exact lv_fload_n hx hb d hi (lv_at hl j (lvc_at hj)) (K H locs ls hP hA hS hl)
theorem z_fload (F : Fx p s m args meth c own cc nL G N0 A) {i : Nat} {x : UInt32} (d : decode cc pc = .ok (.fload i, 2)) (j : Nat) (hj : lv[j]? = some (i, vF x)) (K : Z p l e R s m args below meth c nL G N0 A Q h k n (pc + 2) lv (vF x :: st)) : Z p l e R s m args below meth c nL G N0 A Q h k n pc lv st := by
  obtain ⟨hx, hb, hml, hown, hts, hlocks, hKD, hSF, hA0, hAN⟩ := F
  intro H locs ls hP hA hS hl
  exact lv_fload hx hb d (lv_at hl j (lvc_at hj)) (K H locs ls hP hA hS hl)
theorem z_dload_n (F : Fx p s m args meth c own cc nL G N0 A) {i4 : Fin 4} {i : Nat} {x : UInt64} (d : decode cc pc = .ok (.dload_n i4, 1)) (hi : (i4 : Nat) = i) (j : Nat) (hj : lv[j]? = some (i, vD x)) (K : Z p l e R s m args below meth c nL G N0 A Q h k n (pc + 1) lv (vD x :: st)) : Z p l e R s m args below meth c nL G N0 A Q h k n pc lv st := by
  obtain ⟨hx, hb, hml, hown, hts, hlocks, hKD, hSF, hA0, hAN⟩ := F
  intro H locs ls hP hA hS hl
  exact lv_dload_n hx hb d hi (lv_at hl j (lvc_at hj)) (K H locs ls hP hA hS hl)
theorem z_dload (F : Fx p s m args meth c own cc nL G N0 A) {i : Nat} {x : UInt64} (d : decode cc pc = .ok (.dload i, 2)) (j : Nat) (hj : lv[j]? = some (i, vD x)) (K : Z p l e R s m args below meth c nL G N0 A Q h k n (pc + 2) lv (vD x :: st)) : Z p l e R s m args below meth c nL G N0 A Q h k n pc lv st := by
  obtain ⟨hx, hb, hml, hown, hts, hlocks, hKD, hSF, hA0, hAN⟩ := F
  intro H locs ls hP hA hS hl
  exact lv_dload hx hb d (lv_at hl j (lvc_at hj)) (K H locs ls hP hA hS hl)
theorem z_lload_n (F : Fx p s m args meth c own cc nL G N0 A) {i4 : Fin 4} {i : Nat} {x : Int} (d : decode cc pc = .ok (.lload_n i4, 1)) (hi : (i4 : Nat) = i) (j : Nat) (hj : lv[j]? = some (i, vL x)) (K : Z p l e R s m args below meth c nL G N0 A Q h k n (pc + 1) lv (vL x :: st)) : Z p l e R s m args below meth c nL G N0 A Q h k n pc lv st := by
  obtain ⟨hx, hb, hml, hown, hts, hlocks, hKD, hSF, hA0, hAN⟩ := F
  intro H locs ls hP hA hS hl
  exact lv_lload_n hx hb d hi (lv_at hl j (lvc_at hj)) (K H locs ls hP hA hS hl)
theorem z_lload (F : Fx p s m args meth c own cc nL G N0 A) {i : Nat} {x : Int} (d : decode cc pc = .ok (.lload i, 2)) (j : Nat) (hj : lv[j]? = some (i, vL x)) (K : Z p l e R s m args below meth c nL G N0 A Q h k n (pc + 2) lv (vL x :: st)) : Z p l e R s m args below meth c nL G N0 A Q h k n pc lv st := by
  obtain ⟨hx, hb, hml, hown, hts, hlocks, hKD, hSF, hA0, hAN⟩ := F
  intro H locs ls hP hA hS hl
  exact lv_lload hx hb d (lv_at hl j (lvc_at hj)) (K H locs ls hP hA hS hl)
theorem z_aload_nN (F : Fx p s m args meth c own cc nL G N0 A) {i4 : Fin 4} {i : Nat} (d : decode cc pc = .ok (.aload_n i4, 1)) (hi : (i4 : Nat) = i) (j : Nat) (hj : lv[j]? = some (i, vN)) (K : Z p l e R s m args below meth c nL G N0 A Q h k n (pc + 1) lv (vN :: st)) : Z p l e R s m args below meth c nL G N0 A Q h k n pc lv st := by
  obtain ⟨hx, hb, hml, hown, hts, hlocks, hKD, hSF, hA0, hAN⟩ := F
  intro H locs ls hP hA hS hl
  exact lv_aload_nN hx hb d hi (lv_at hl j (lvc_at hj)) (K H locs ls hP hA hS hl)
theorem z_istore_n (F : Fx p s m args meth c own cc nL G N0 A) {i4 : Fin 4} {i : Nat} {x : Int} {lv' : List (Nat × AV)} (d : decode cc pc = .ok (.istore_n i4, 1)) (hi : (i4 : Nat) = i) (hn : i < nL) (hl9 : lS1 lv i (vI x) = lv') (K : Z p l e R s m args below meth c nL G N0 A Q h k n (pc + 1) lv' st) : Z p l e R s m args below meth c nL G N0 A Q h k n pc lv (vI x :: st) := by
  obtain ⟨hx, hb, hml, hown, hts, hlocks, hKD, hSF, hA0, hAN⟩ := F
  intro H locs ls hP hA hS hl
  subst hl9
  exact lv_istore_n hx hb d hi hl hn (lvc_S1 lv i (vI x)).symm (fun ls9 hl9 => K H locs ls9 hP hA hS hl9)
theorem z_istore (F : Fx p s m args meth c own cc nL G N0 A) {i : Nat} {x : Int} {lv' : List (Nat × AV)} (d : decode cc pc = .ok (.istore i, 2)) (hn : i < nL) (hl9 : lS1 lv i (vI x) = lv') (K : Z p l e R s m args below meth c nL G N0 A Q h k n (pc + 2) lv' st) : Z p l e R s m args below meth c nL G N0 A Q h k n pc lv (vI x :: st) := by
  obtain ⟨hx, hb, hml, hown, hts, hlocks, hKD, hSF, hA0, hAN⟩ := F
  intro H locs ls hP hA hS hl
  subst hl9
  exact lv_istore hx hb d hl hn (lvc_S1 lv i (vI x)).symm (fun ls9 hl9 => K H locs ls9 hP hA hS hl9)
theorem z_astore_n (F : Fx p s m args meth c own cc nL G N0 A) {i4 : Fin 4} {i : Nat} {x : Nat} {lv' : List (Nat × AV)} (d : decode cc pc = .ok (.astore_n i4, 1)) (hi : (i4 : Nat) = i) (hn : i < nL) (hl9 : lS1 lv i (vR x) = lv') (K : Z p l e R s m args below meth c nL G N0 A Q h k n (pc + 1) lv' st) : Z p l e R s m args below meth c nL G N0 A Q h k n pc lv (vR x :: st) := by
  obtain ⟨hx, hb, hml, hown, hts, hlocks, hKD, hSF, hA0, hAN⟩ := F
  intro H locs ls hP hA hS hl
  subst hl9
  exact lv_astore_n hx hb d hi hl hn (lvc_S1 lv i (vR x)).symm (fun ls9 hl9 => K H locs ls9 hP hA hS hl9)
theorem z_astore (F : Fx p s m args meth c own cc nL G N0 A) {i : Nat} {x : Nat} {lv' : List (Nat × AV)} (d : decode cc pc = .ok (.astore i, 2)) (hn : i < nL) (hl9 : lS1 lv i (vR x) = lv') (K : Z p l e R s m args below meth c nL G N0 A Q h k n (pc + 2) lv' st) : Z p l e R s m args below meth c nL G N0 A Q h k n pc lv (vR x :: st) := by
  obtain ⟨hx, hb, hml, hown, hts, hlocks, hKD, hSF, hA0, hAN⟩ := F
  intro H locs ls hP hA hS hl
  subst hl9
  exact lv_astore hx hb d hl hn (lvc_S1 lv i (vR x)).symm (fun ls9 hl9 => K H locs ls9 hP hA hS hl9)
theorem z_fstore_n (F : Fx p s m args meth c own cc nL G N0 A) {i4 : Fin 4} {i : Nat} {x : UInt32} {lv' : List (Nat × AV)} (d : decode cc pc = .ok (.fstore_n i4, 1)) (hi : (i4 : Nat) = i) (hn : i < nL) (hl9 : lS1 lv i (vF x) = lv') (K : Z p l e R s m args below meth c nL G N0 A Q h k n (pc + 1) lv' st) : Z p l e R s m args below meth c nL G N0 A Q h k n pc lv (vF x :: st) := by
  obtain ⟨hx, hb, hml, hown, hts, hlocks, hKD, hSF, hA0, hAN⟩ := F
  intro H locs ls hP hA hS hl
  subst hl9
  exact lv_fstore_n hx hb d hi hl hn (lvc_S1 lv i (vF x)).symm (fun ls9 hl9 => K H locs ls9 hP hA hS hl9)
theorem z_fstore (F : Fx p s m args meth c own cc nL G N0 A) {i : Nat} {x : UInt32} {lv' : List (Nat × AV)} (d : decode cc pc = .ok (.fstore i, 2)) (hn : i < nL) (hl9 : lS1 lv i (vF x) = lv') (K : Z p l e R s m args below meth c nL G N0 A Q h k n (pc + 2) lv' st) : Z p l e R s m args below meth c nL G N0 A Q h k n pc lv (vF x :: st) := by
  obtain ⟨hx, hb, hml, hown, hts, hlocks, hKD, hSF, hA0, hAN⟩ := F
  intro H locs ls hP hA hS hl
  subst hl9
  exact lv_fstore hx hb d hl hn (lvc_S1 lv i (vF x)).symm (fun ls9 hl9 => K H locs ls9 hP hA hS hl9)
theorem z_dstore_n (F : Fx p s m args meth c own cc nL G N0 A) {i4 : Fin 4} {i : Nat} {x : UInt64} {lv' : List (Nat × AV)} (d : decode cc pc = .ok (.dstore_n i4, 1)) (hi : (i4 : Nat) = i) (hn : i + 1 < nL) (hl9 : lS2 lv i (vD x) = lv') (K : Z p l e R s m args below meth c nL G N0 A Q h k n (pc + 1) lv' st) : Z p l e R s m args below meth c nL G N0 A Q h k n pc lv (vD x :: st) := by
  obtain ⟨hx, hb, hml, hown, hts, hlocks, hKD, hSF, hA0, hAN⟩ := F
  intro H locs ls hP hA hS hl
  subst hl9
  exact lv_dstore_n hx hb d hi hl hn (lvc_S2 lv i (vD x)).symm (fun ls9 hl9 => K H locs ls9 hP hA hS hl9)
theorem z_dstore (F : Fx p s m args meth c own cc nL G N0 A) {i : Nat} {x : UInt64} {lv' : List (Nat × AV)} (d : decode cc pc = .ok (.dstore i, 2)) (hn : i + 1 < nL) (hl9 : lS2 lv i (vD x) = lv') (K : Z p l e R s m args below meth c nL G N0 A Q h k n (pc + 2) lv' st) : Z p l e R s m args below meth c nL G N0 A Q h k n pc lv (vD x :: st) := by
  obtain ⟨hx, hb, hml, hown, hts, hlocks, hKD, hSF, hA0, hAN⟩ := F
  intro H locs ls hP hA hS hl
  subst hl9
  exact lv_dstore hx hb d hl hn (lvc_S2 lv i (vD x)).symm (fun ls9 hl9 => K H locs ls9 hP hA hS hl9)
theorem z_lstore_n (F : Fx p s m args meth c own cc nL G N0 A) {i4 : Fin 4} {i : Nat} {x : Int} {lv' : List (Nat × AV)} (d : decode cc pc = .ok (.lstore_n i4, 1)) (hi : (i4 : Nat) = i) (hn : i + 1 < nL) (hl9 : lS2 lv i (vL x) = lv') (K : Z p l e R s m args below meth c nL G N0 A Q h k n (pc + 1) lv' st) : Z p l e R s m args below meth c nL G N0 A Q h k n pc lv (vL x :: st) := by
  obtain ⟨hx, hb, hml, hown, hts, hlocks, hKD, hSF, hA0, hAN⟩ := F
  intro H locs ls hP hA hS hl
  subst hl9
  exact lv_lstore_n hx hb d hi hl hn (lvc_S2 lv i (vL x)).symm (fun ls9 hl9 => K H locs ls9 hP hA hS hl9)
theorem z_lstore (F : Fx p s m args meth c own cc nL G N0 A) {i : Nat} {x : Int} {lv' : List (Nat × AV)} (d : decode cc pc = .ok (.lstore i, 2)) (hn : i + 1 < nL) (hl9 : lS2 lv i (vL x) = lv') (K : Z p l e R s m args below meth c nL G N0 A Q h k n (pc + 2) lv' st) : Z p l e R s m args below meth c nL G N0 A Q h k n pc lv (vL x :: st) := by
  obtain ⟨hx, hb, hml, hown, hts, hlocks, hKD, hSF, hA0, hAN⟩ := F
  intro H locs ls hP hA hS hl
  subst hl9
  exact lv_lstore hx hb d hl hn (lvc_S2 lv i (vL x)).symm (fun ls9 hl9 => K H locs ls9 hP hA hS hl9)
theorem z_iinc (F : Fx p s m args meth c own cc nL G N0 A) {i : Nat} {a x : Int} {lv' : List (Nat × AV)} (d : decode cc pc = .ok (.iinc i a, 3)) (j : Nat) (hj : lv[j]? = some (i, vI x)) (hn : i < nL) (hl9 : lS1 lv i (vI (x + a)) = lv') (K : Z p l e R s m args below meth c nL G N0 A Q h k n (pc + 3) lv' st) : Z p l e R s m args below meth c nL G N0 A Q h k n pc lv st := by
  obtain ⟨hx, hb, hml, hown, hts, hlocks, hKD, hSF, hA0, hAN⟩ := F
  intro H locs ls hP hA hS hl
  subst hl9
  exact lv_iinc (k := j) hx hb d hl (lvc_at hj) (iI_add x a).symm hn (lvc_S1 lv i (vI (x + a))).symm (fun ls9 hl9 => K H locs ls9 hP hA hS hl9)
theorem z_iadd (F : Fx p s m args meth c own cc nL G N0 A) {x y : Int} (d : decode cc pc = .ok (.iadd, 1)) (K : Z p l e R s m args below meth c nL G N0 A Q h k n (pc + 1) lv (vI (x + y) :: st)) : Z p l e R s m args below meth c nL G N0 A Q h k n pc lv (vI y :: vI x :: st) := by
  obtain ⟨hx, hb, hml, hown, hts, hlocks, hKD, hSF, hA0, hAN⟩ := F
  intro H locs ls hP hA hS hl
  refine lv_iadd hx hb d ?_
  rw [← iI_add]
  exact K H locs ls hP hA hS hl
theorem z_isub (F : Fx p s m args meth c own cc nL G N0 A) {x y : Int} (d : decode cc pc = .ok (.isub, 1)) (K : Z p l e R s m args below meth c nL G N0 A Q h k n (pc + 1) lv (vI (x - y) :: st)) : Z p l e R s m args below meth c nL G N0 A Q h k n pc lv (vI y :: vI x :: st) := by
  obtain ⟨hx, hb, hml, hown, hts, hlocks, hKD, hSF, hA0, hAN⟩ := F
  intro H locs ls hP hA hS hl
  refine lv_isub hx hb d ?_
  rw [← iI_sub]
  exact K H locs ls hP hA hS hl
theorem z_imul (F : Fx p s m args meth c own cc nL G N0 A) {x y : Int} (d : decode cc pc = .ok (.imul, 1)) (K : Z p l e R s m args below meth c nL G N0 A Q h k n (pc + 1) lv (vI (x * y) :: st)) : Z p l e R s m args below meth c nL G N0 A Q h k n pc lv (vI y :: vI x :: st) := by
  obtain ⟨hx, hb, hml, hown, hts, hlocks, hKD, hSF, hA0, hAN⟩ := F
  intro H locs ls hP hA hS hl
  refine lv_imul hx hb d ?_
  rw [← iI_mul]
  exact K H locs ls hP hA hS hl
theorem z_ineg (F : Fx p s m args meth c own cc nL G N0 A) {x : Int} (d : decode cc pc = .ok (.ineg, 1)) (K : Z p l e R s m args below meth c nL G N0 A Q h k n (pc + 1) lv (vI (-x) :: st)) : Z p l e R s m args below meth c nL G N0 A Q h k n pc lv (vI x :: st) := by
  obtain ⟨hx, hb, hml, hown, hts, hlocks, hKD, hSF, hA0, hAN⟩ := F
  intro H locs ls hP hA hS hl
  refine lv_ineg hx hb d ?_
  rw [← iI_neg]
  exact K H locs ls hP hA hS hl
theorem iI_div {x y : Int} (hx : 0 ≤ x ∧ x < 2147483648) (hy : 0 < y ∧ y < 2147483648) : iI x / iI y = iI (x / y) := by
  have h0 : 0 ≤ x / y := Int.ediv_nonneg hx.1 (by omega)
  have h1 : x / y ≤ x := Int.ediv_le_self _ hx.1
  rw [← Int32.toInt_inj, Int32.toInt_div, iI_toInt (by omega), iI_toInt (by omega), iI_toInt (by omega), Int.tdiv_eq_ediv_of_nonneg hx.1]
  exact Int.bmod_eq_of_le (by omega) (by omega)
theorem iI_rem {x y : Int} (hx : 0 ≤ x ∧ x < 2147483648) (hy : 0 < y ∧ y < 2147483648) : iI x - iI x / iI y * iI y = iI (x % y) := by
  rw [iI_div hx hy, ← iI_mul, ← iI_sub]
  congr 1
  have := Int.mul_ediv_add_emod x y
  rw [Int.mul_comm] at this
  omega
theorem iI_ne0 {y : Int} (hy : 0 < y ∧ y < 2147483648) : ¬ iI y = 0 := fun q => by
  have := congrArg Int32.toInt q
  rw [iI_toInt (by omega)] at this
  simp at this
  omega
theorem z_idiv (F : Fx p s m args meth c own cc nL G N0 A) {x y : Int} (d : decode cc pc = .ok (.idiv, 1)) (h1 : 0 ≤ x ∧ x < 2147483648) (h2 : 0 < y ∧ y < 2147483648) (K : Z p l e R s m args below meth c nL G N0 A Q h k n (pc + 1) lv (vI (x / y) :: st)) : Z p l e R s m args below meth c nL G N0 A Q h k n pc lv (vI y :: vI x :: st) := by
  obtain ⟨hx, hb, hml, hown, hts, hlocks, hKD, hSF, hA0, hAN⟩ := F
  intro H locs ls hP hA hS hl
  refine lv_idiv hx hb d (iI_ne0 h2) ?_
  rw [iI_div h1 h2]
  exact K H locs ls hP hA hS hl
theorem z_irem (F : Fx p s m args meth c own cc nL G N0 A) {x y : Int} (d : decode cc pc = .ok (.irem, 1)) (h1 : 0 ≤ x ∧ x < 2147483648) (h2 : 0 < y ∧ y < 2147483648) (K : Z p l e R s m args below meth c nL G N0 A Q h k n (pc + 1) lv (vI (x % y) :: st)) : Z p l e R s m args below meth c nL G N0 A Q h k n pc lv (vI y :: vI x :: st) := by
  obtain ⟨hx, hb, hml, hown, hts, hlocks, hKD, hSF, hA0, hAN⟩ := F
  intro H locs ls hP hA hS hl
  refine lv_irem hx hb d (iI_ne0 h2) ?_
  rw [iI_rem h1 h2]
  exact K H locs ls hP hA hS hl
theorem z_iand (F : Fx p s m args meth c own cc nL G N0 A) {x y z : Int} (d : decode cc pc = .ok (.iand, 1)) (hz : iI x &&& iI y = iI z) (K : Z p l e R s m args below meth c nL G N0 A Q h k n (pc + 1) lv (vI z :: st)) : Z p l e R s m args below meth c nL G N0 A Q h k n pc lv (vI y :: vI x :: st) := by
  obtain ⟨hx, hb, hml, hown, hts, hlocks, hKD, hSF, hA0, hAN⟩ := F
  intro H locs ls hP hA hS hl
  refine lv_iand hx hb d ?_
  rw [hz]
  exact K H locs ls hP hA hS hl
theorem z_ior (F : Fx p s m args meth c own cc nL G N0 A) {x y z : Int} (d : decode cc pc = .ok (.ior, 1)) (hz : iI x ||| iI y = iI z) (K : Z p l e R s m args below meth c nL G N0 A Q h k n (pc + 1) lv (vI z :: st)) : Z p l e R s m args below meth c nL G N0 A Q h k n pc lv (vI y :: vI x :: st) := by
  obtain ⟨hx, hb, hml, hown, hts, hlocks, hKD, hSF, hA0, hAN⟩ := F
  intro H locs ls hP hA hS hl
  refine lv_ior hx hb d ?_
  rw [hz]
  exact K H locs ls hP hA hS hl
theorem z_ishl (F : Fx p s m args meth c own cc nL G N0 A) {x y z : Int} (d : decode cc pc = .ok (.ishl, 1)) (hz : iI x <<< (iI y &&& 31) = iI z) (K : Z p l e R s m args below meth c nL G N0 A Q h k n (pc + 1) lv (vI z :: st)) : Z p l e R s m args below meth c nL G N0 A Q h k n pc lv (vI y :: vI x :: st) := by
  obtain ⟨hx, hb, hml, hown, hts, hlocks, hKD, hSF, hA0, hAN⟩ := F
  intro H locs ls hP hA hS hl
  refine lv_ishl hx hb d ?_
  rw [hz]
  exact K H locs ls hP hA hS hl
theorem z_ishr (F : Fx p s m args meth c own cc nL G N0 A) {x y z : Int} (d : decode cc pc = .ok (.ishr, 1)) (hz : iI x >>> (iI y &&& 31) = iI z) (K : Z p l e R s m args below meth c nL G N0 A Q h k n (pc + 1) lv (vI z :: st)) : Z p l e R s m args below meth c nL G N0 A Q h k n pc lv (vI y :: vI x :: st) := by
  obtain ⟨hx, hb, hml, hown, hts, hlocks, hKD, hSF, hA0, hAN⟩ := F
  intro H locs ls hP hA hS hl
  refine lv_ishr hx hb d ?_
  rw [hz]
  exact K H locs ls hP hA hS hl
theorem z_iushr (F : Fx p s m args meth c own cc nL G N0 A) {x y z : Int} (d : decode cc pc = .ok (.iushr, 1)) (hz : ((iI x).toUInt32 >>> ((iI y).toUInt32 &&& Int32.toUInt32 31)).toInt32 = iI z) (K : Z p l e R s m args below meth c nL G N0 A Q h k n (pc + 1) lv (vI z :: st)) : Z p l e R s m args below meth c nL G N0 A Q h k n pc lv (vI y :: vI x :: st) := by
  obtain ⟨hx, hb, hml, hown, hts, hlocks, hKD, hSF, hA0, hAN⟩ := F
  intro H locs ls hP hA hS hl
  exact lv_iushr hx hb d hz (K H locs ls hP hA hS hl)
theorem z_i2c (F : Fx p s m args meth c own cc nL G N0 A) {x z : Int} (d : decode cc pc = .ok (.i2c, 1)) (hz : ((iI x).toUInt32 % 65536).toInt32 = iI z) (K : Z p l e R s m args below meth c nL G N0 A Q h k n (pc + 1) lv (vI z :: st)) : Z p l e R s m args below meth c nL G N0 A Q h k n pc lv (vI x :: st) := by
  obtain ⟨hx, hb, hml, hown, hts, hlocks, hKD, hSF, hA0, hAN⟩ := F
  intro H locs ls hP hA hS hl
  exact lv_i2c hx hb d hz (K H locs ls hP hA hS hl)
theorem z_i2b (F : Fx p s m args meth c own cc nL G N0 A) {x z : Int} (d : decode cc pc = .ok (.i2b, 1)) (hz : (iI x).toInt8.toInt32 = iI z) (K : Z p l e R s m args below meth c nL G N0 A Q h k n (pc + 1) lv (vI z :: st)) : Z p l e R s m args below meth c nL G N0 A Q h k n pc lv (vI x :: st) := by
  obtain ⟨hx, hb, hml, hown, hts, hlocks, hKD, hSF, hA0, hAN⟩ := F
  intro H locs ls hP hA hS hl
  exact lv_i2b hx hb d hz (K H locs ls hP hA hS hl)
theorem iI_l {x : Int} (h : -2147483648 ≤ x ∧ x < 2147483648) : (iI x).toInt64 = Int64.ofInt x := by
  rw [← Int64.toInt_inj, Int32.toInt_toInt64, iI_toInt h, Int64.toInt_ofInt_of_le (by omega) (by omega)]
theorem z_i2l (F : Fx p s m args meth c own cc nL G N0 A) {x : Int} (d : decode cc pc = .ok (.i2l, 1)) (hr : -2147483648 ≤ x ∧ x < 2147483648) (K : Z p l e R s m args below meth c nL G N0 A Q h k n (pc + 1) lv (vL x :: st)) : Z p l e R s m args below meth c nL G N0 A Q h k n pc lv (vI x :: st) := by
  obtain ⟨hx, hb, hml, hown, hts, hlocks, hKD, hSF, hA0, hAN⟩ := F
  intro H locs ls hP hA hS hl
  exact lv_i2l hx hb d (iI_l hr) (K H locs ls hP hA hS hl)
theorem cv1 {v : AV} (h : cat2 v = false) : (cv v).category = 1 := by
  rcases v with z | (r | (x | (x | z)))
  · rfl
  · cases r <;> rfl
  · rfl
  · cases h
  · cases h
theorem z_dup (F : Fx p s m args meth c own cc nL G N0 A) {v : AV} (d : decode cc pc = .ok (.dup, 1)) (hc : cat2 v = false) (K : Z p l e R s m args below meth c nL G N0 A Q h k n (pc + 1) lv (v :: v :: st)) : Z p l e R s m args below meth c nL G N0 A Q h k n pc lv (v :: st) := by
  obtain ⟨hx, hb, hml, hown, hts, hlocks, hKD, hSF, hA0, hAN⟩ := F
  intro H locs ls hP hA hS hl
  exact lv_dup hx hb d (cv1 hc) (K H locs ls hP hA hS hl)
theorem z_pop (F : Fx p s m args meth c own cc nL G N0 A) {v : AV} (d : decode cc pc = .ok (.pop, 1)) (hc : cat2 v = false) (K : Z p l e R s m args below meth c nL G N0 A Q h k n (pc + 1) lv st) : Z p l e R s m args below meth c nL G N0 A Q h k n pc lv (v :: st) := by
  obtain ⟨hx, hb, hml, hown, hts, hlocks, hKD, hSF, hA0, hAN⟩ := F
  intro H locs ls hP hA hS hl
  exact lv_pop hx hb d (cv1 hc) (K H locs ls hP hA hS hl)
theorem z_dup_x1 (F : Fx p s m args meth c own cc nL G N0 A) {v u : AV} (d : decode cc pc = .ok (.dup_x1, 1)) (hc : cat2 v = false) (hd : cat2 u = false) (K : Z p l e R s m args below meth c nL G N0 A Q h k n (pc + 1) lv (v :: u :: v :: st)) : Z p l e R s m args below meth c nL G N0 A Q h k n pc lv (v :: u :: st) := by
  obtain ⟨hx, hb, hml, hown, hts, hlocks, hKD, hSF, hA0, hAN⟩ := F
  intro H locs ls hP hA hS hl
  exact lv_dup_x1 hx hb d (cv1 hc) (cv1 hd) (K H locs ls hP hA hS hl)
theorem z_dup2 (F : Fx p s m args meth c own cc nL G N0 A) {v u : AV} (d : decode cc pc = .ok (.dup2, 1)) (hc : cat2 v = false) (hd : cat2 u = false) (K : Z p l e R s m args below meth c nL G N0 A Q h k n (pc + 1) lv (v :: u :: v :: u :: st)) : Z p l e R s m args below meth c nL G N0 A Q h k n pc lv (v :: u :: st) := by
  obtain ⟨hx, hb, hml, hown, hts, hlocks, hKD, hSF, hA0, hAN⟩ := F
  intro H locs ls hP hA hS hl
  exact lv_dup2_11 hx hb d (cv1 hc) (cv1 hd) (K H locs ls hP hA hS hl)
theorem z_icmp_eq (F : Fx p s m args meth c own cc nL G N0 A) {x y : Int} {off : Int} {tgt : Nat} (d : decode cc pc = .ok (.if_icmp .eq off, 3)) (ht : (pc : Int) + off = (tgt : Int)) (rx : -2147483648 ≤ x ∧ x < 2147483648) (ry : -2147483648 ≤ y ∧ y < 2147483648) (kt : x = y → Z p l e R s m args below meth c nL G N0 A Q h k n tgt lv st) (kf : x ≠ y → Z p l e R s m args below meth c nL G N0 A Q h k n (pc + 3) lv st) : Z p l e R s m args below meth c nL G N0 A Q h k n pc lv (vI y :: vI x :: st) := by
  obtain ⟨hx, hb, hml, hown, hts, hlocks, hKD, hSF, hA0, hAN⟩ := F
  intro H locs ls hP hA hS hl
  refine lv_icmp_eq hx hb d ht (fun q => kt ?_ H locs ls hP hA hS hl) (fun q => kf ?_ H locs ls hP hA hS hl)
  all_goals (first | exact (iI_inj rx ry).mp q | exact fun z => q ((iI_inj rx ry).mpr z) | exact Classical.not_not.mp (fun z => q (fun w => z ((iI_inj rx ry).mp w))) | (simp only [iI_lt rx ry, iI_lt ry rx, iI_le rx ry, iI_le ry rx] at q; omega) | (simp only [Int32.not_lt, Int32.not_le, iI_lt rx ry, iI_lt ry rx, iI_le rx ry, iI_le ry rx] at q; omega))
theorem z_icmp_ne (F : Fx p s m args meth c own cc nL G N0 A) {x y : Int} {off : Int} {tgt : Nat} (d : decode cc pc = .ok (.if_icmp .ne off, 3)) (ht : (pc : Int) + off = (tgt : Int)) (rx : -2147483648 ≤ x ∧ x < 2147483648) (ry : -2147483648 ≤ y ∧ y < 2147483648) (kt : x ≠ y → Z p l e R s m args below meth c nL G N0 A Q h k n tgt lv st) (kf : x = y → Z p l e R s m args below meth c nL G N0 A Q h k n (pc + 3) lv st) : Z p l e R s m args below meth c nL G N0 A Q h k n pc lv (vI y :: vI x :: st) := by
  obtain ⟨hx, hb, hml, hown, hts, hlocks, hKD, hSF, hA0, hAN⟩ := F
  intro H locs ls hP hA hS hl
  refine lv_icmp_ne hx hb d ht (fun q => kt ?_ H locs ls hP hA hS hl) (fun q => kf ?_ H locs ls hP hA hS hl)
  all_goals (first | exact (iI_inj rx ry).mp q | exact fun z => q ((iI_inj rx ry).mpr z) | exact Classical.not_not.mp (fun z => q (fun w => z ((iI_inj rx ry).mp w))) | (simp only [iI_lt rx ry, iI_lt ry rx, iI_le rx ry, iI_le ry rx] at q; omega) | (simp only [Int32.not_lt, Int32.not_le, iI_lt rx ry, iI_lt ry rx, iI_le rx ry, iI_le ry rx] at q; omega))
theorem z_icmp_lt (F : Fx p s m args meth c own cc nL G N0 A) {x y : Int} {off : Int} {tgt : Nat} (d : decode cc pc = .ok (.if_icmp .lt off, 3)) (ht : (pc : Int) + off = (tgt : Int)) (rx : -2147483648 ≤ x ∧ x < 2147483648) (ry : -2147483648 ≤ y ∧ y < 2147483648) (kt : x < y → Z p l e R s m args below meth c nL G N0 A Q h k n tgt lv st) (kf : y ≤ x → Z p l e R s m args below meth c nL G N0 A Q h k n (pc + 3) lv st) : Z p l e R s m args below meth c nL G N0 A Q h k n pc lv (vI y :: vI x :: st) := by
  obtain ⟨hx, hb, hml, hown, hts, hlocks, hKD, hSF, hA0, hAN⟩ := F
  intro H locs ls hP hA hS hl
  refine lv_icmp_lt hx hb d ht (fun q => kt ?_ H locs ls hP hA hS hl) (fun q => kf ?_ H locs ls hP hA hS hl)
  all_goals (first | exact (iI_inj rx ry).mp q | exact fun z => q ((iI_inj rx ry).mpr z) | exact Classical.not_not.mp (fun z => q (fun w => z ((iI_inj rx ry).mp w))) | (simp only [iI_lt rx ry, iI_lt ry rx, iI_le rx ry, iI_le ry rx] at q; omega) | (simp only [Int32.not_lt, Int32.not_le, iI_lt rx ry, iI_lt ry rx, iI_le rx ry, iI_le ry rx] at q; omega))
theorem z_icmp_ge (F : Fx p s m args meth c own cc nL G N0 A) {x y : Int} {off : Int} {tgt : Nat} (d : decode cc pc = .ok (.if_icmp .ge off, 3)) (ht : (pc : Int) + off = (tgt : Int)) (rx : -2147483648 ≤ x ∧ x < 2147483648) (ry : -2147483648 ≤ y ∧ y < 2147483648) (kt : y ≤ x → Z p l e R s m args below meth c nL G N0 A Q h k n tgt lv st) (kf : x < y → Z p l e R s m args below meth c nL G N0 A Q h k n (pc + 3) lv st) : Z p l e R s m args below meth c nL G N0 A Q h k n pc lv (vI y :: vI x :: st) := by
  obtain ⟨hx, hb, hml, hown, hts, hlocks, hKD, hSF, hA0, hAN⟩ := F
  intro H locs ls hP hA hS hl
  refine lv_icmp_ge hx hb d ht (fun q => kt ?_ H locs ls hP hA hS hl) (fun q => kf ?_ H locs ls hP hA hS hl)
  all_goals (first | exact (iI_inj rx ry).mp q | exact fun z => q ((iI_inj rx ry).mpr z) | exact Classical.not_not.mp (fun z => q (fun w => z ((iI_inj rx ry).mp w))) | (simp only [iI_lt rx ry, iI_lt ry rx, iI_le rx ry, iI_le ry rx] at q; omega) | (simp only [Int32.not_lt, Int32.not_le, iI_lt rx ry, iI_lt ry rx, iI_le rx ry, iI_le ry rx] at q; omega))
theorem z_icmp_gt (F : Fx p s m args meth c own cc nL G N0 A) {x y : Int} {off : Int} {tgt : Nat} (d : decode cc pc = .ok (.if_icmp .gt off, 3)) (ht : (pc : Int) + off = (tgt : Int)) (rx : -2147483648 ≤ x ∧ x < 2147483648) (ry : -2147483648 ≤ y ∧ y < 2147483648) (kt : y < x → Z p l e R s m args below meth c nL G N0 A Q h k n tgt lv st) (kf : x ≤ y → Z p l e R s m args below meth c nL G N0 A Q h k n (pc + 3) lv st) : Z p l e R s m args below meth c nL G N0 A Q h k n pc lv (vI y :: vI x :: st) := by
  obtain ⟨hx, hb, hml, hown, hts, hlocks, hKD, hSF, hA0, hAN⟩ := F
  intro H locs ls hP hA hS hl
  refine lv_icmp_gt hx hb d ht (fun q => kt ?_ H locs ls hP hA hS hl) (fun q => kf ?_ H locs ls hP hA hS hl)
  all_goals (first | exact (iI_inj rx ry).mp q | exact fun z => q ((iI_inj rx ry).mpr z) | exact Classical.not_not.mp (fun z => q (fun w => z ((iI_inj rx ry).mp w))) | (simp only [iI_lt rx ry, iI_lt ry rx, iI_le rx ry, iI_le ry rx] at q; omega) | (simp only [Int32.not_lt, Int32.not_le, iI_lt rx ry, iI_lt ry rx, iI_le rx ry, iI_le ry rx] at q; omega))
theorem z_icmp_le (F : Fx p s m args meth c own cc nL G N0 A) {x y : Int} {off : Int} {tgt : Nat} (d : decode cc pc = .ok (.if_icmp .le off, 3)) (ht : (pc : Int) + off = (tgt : Int)) (rx : -2147483648 ≤ x ∧ x < 2147483648) (ry : -2147483648 ≤ y ∧ y < 2147483648) (kt : x ≤ y → Z p l e R s m args below meth c nL G N0 A Q h k n tgt lv st) (kf : y < x → Z p l e R s m args below meth c nL G N0 A Q h k n (pc + 3) lv st) : Z p l e R s m args below meth c nL G N0 A Q h k n pc lv (vI y :: vI x :: st) := by
  obtain ⟨hx, hb, hml, hown, hts, hlocks, hKD, hSF, hA0, hAN⟩ := F
  intro H locs ls hP hA hS hl
  refine lv_icmp_le hx hb d ht (fun q => kt ?_ H locs ls hP hA hS hl) (fun q => kf ?_ H locs ls hP hA hS hl)
  all_goals (first | exact (iI_inj rx ry).mp q | exact fun z => q ((iI_inj rx ry).mpr z) | exact Classical.not_not.mp (fun z => q (fun w => z ((iI_inj rx ry).mp w))) | (simp only [iI_lt rx ry, iI_lt ry rx, iI_le rx ry, iI_le ry rx] at q; omega) | (simp only [Int32.not_lt, Int32.not_le, iI_lt rx ry, iI_lt ry rx, iI_le rx ry, iI_le ry rx] at q; omega))
theorem z_if_eq (F : Fx p s m args meth c own cc nL G N0 A) {x : Int} {off : Int} {tgt : Nat} (d : decode cc pc = .ok (.ifCond .eq off, 3)) (ht : (pc : Int) + off = (tgt : Int)) (rx : -2147483648 ≤ x ∧ x < 2147483648) (kt : x = 0 → Z p l e R s m args below meth c nL G N0 A Q h k n tgt lv st) (kf : x ≠ 0 → Z p l e R s m args below meth c nL G N0 A Q h k n (pc + 3) lv st) : Z p l e R s m args below meth c nL G N0 A Q h k n pc lv (vI x :: st) := by
  obtain ⟨hx, hb, hml, hown, hts, hlocks, hKD, hSF, hA0, hAN⟩ := F
  intro H locs ls hP hA hS hl
  have e0 : iI 0 = (0 : Int32) := by decide
  have ry : -2147483648 ≤ (0 : Int) ∧ (0 : Int) < 2147483648 := by decide
  refine lv_if_eq hx hb d ht (fun q => kt ?_ H locs ls hP hA hS hl) (fun q => kf ?_ H locs ls hP hA hS hl)
  all_goals ((first | rw [← e0] at q | skip); first | exact (iI_inj rx ry).mp q | exact fun z => q ((iI_inj rx ry).mpr z) | exact Classical.not_not.mp (fun z => q (fun w => z ((iI_inj rx ry).mp w))) | (simp only [iI_lt rx ry, iI_lt ry rx, iI_le rx ry, iI_le ry rx] at q; omega) | (simp only [Int32.not_lt, Int32.not_le, iI_lt rx ry, iI_lt ry rx, iI_le rx ry, iI_le ry rx] at q; omega))
theorem z_if_ne (F : Fx p s m args meth c own cc nL G N0 A) {x : Int} {off : Int} {tgt : Nat} (d : decode cc pc = .ok (.ifCond .ne off, 3)) (ht : (pc : Int) + off = (tgt : Int)) (rx : -2147483648 ≤ x ∧ x < 2147483648) (kt : x ≠ 0 → Z p l e R s m args below meth c nL G N0 A Q h k n tgt lv st) (kf : x = 0 → Z p l e R s m args below meth c nL G N0 A Q h k n (pc + 3) lv st) : Z p l e R s m args below meth c nL G N0 A Q h k n pc lv (vI x :: st) := by
  obtain ⟨hx, hb, hml, hown, hts, hlocks, hKD, hSF, hA0, hAN⟩ := F
  intro H locs ls hP hA hS hl
  have e0 : iI 0 = (0 : Int32) := by decide
  have ry : -2147483648 ≤ (0 : Int) ∧ (0 : Int) < 2147483648 := by decide
  refine lv_if_ne hx hb d ht (fun q => kt ?_ H locs ls hP hA hS hl) (fun q => kf ?_ H locs ls hP hA hS hl)
  all_goals ((first | rw [← e0] at q | skip); first | exact (iI_inj rx ry).mp q | exact fun z => q ((iI_inj rx ry).mpr z) | exact Classical.not_not.mp (fun z => q (fun w => z ((iI_inj rx ry).mp w))) | (simp only [iI_lt rx ry, iI_lt ry rx, iI_le rx ry, iI_le ry rx] at q; omega) | (simp only [Int32.not_lt, Int32.not_le, iI_lt rx ry, iI_lt ry rx, iI_le rx ry, iI_le ry rx] at q; omega))
theorem z_if_lt (F : Fx p s m args meth c own cc nL G N0 A) {x : Int} {off : Int} {tgt : Nat} (d : decode cc pc = .ok (.ifCond .lt off, 3)) (ht : (pc : Int) + off = (tgt : Int)) (rx : -2147483648 ≤ x ∧ x < 2147483648) (kt : x < 0 → Z p l e R s m args below meth c nL G N0 A Q h k n tgt lv st) (kf : 0 ≤ x → Z p l e R s m args below meth c nL G N0 A Q h k n (pc + 3) lv st) : Z p l e R s m args below meth c nL G N0 A Q h k n pc lv (vI x :: st) := by
  obtain ⟨hx, hb, hml, hown, hts, hlocks, hKD, hSF, hA0, hAN⟩ := F
  intro H locs ls hP hA hS hl
  have e0 : iI 0 = (0 : Int32) := by decide
  have ry : -2147483648 ≤ (0 : Int) ∧ (0 : Int) < 2147483648 := by decide
  refine lv_if_lt hx hb d ht (fun q => kt ?_ H locs ls hP hA hS hl) (fun q => kf ?_ H locs ls hP hA hS hl)
  all_goals ((first | rw [← e0] at q | skip); first | exact (iI_inj rx ry).mp q | exact fun z => q ((iI_inj rx ry).mpr z) | exact Classical.not_not.mp (fun z => q (fun w => z ((iI_inj rx ry).mp w))) | (simp only [iI_lt rx ry, iI_lt ry rx, iI_le rx ry, iI_le ry rx] at q; omega) | (simp only [Int32.not_lt, Int32.not_le, iI_lt rx ry, iI_lt ry rx, iI_le rx ry, iI_le ry rx] at q; omega))
theorem z_if_ge (F : Fx p s m args meth c own cc nL G N0 A) {x : Int} {off : Int} {tgt : Nat} (d : decode cc pc = .ok (.ifCond .ge off, 3)) (ht : (pc : Int) + off = (tgt : Int)) (rx : -2147483648 ≤ x ∧ x < 2147483648) (kt : 0 ≤ x → Z p l e R s m args below meth c nL G N0 A Q h k n tgt lv st) (kf : x < 0 → Z p l e R s m args below meth c nL G N0 A Q h k n (pc + 3) lv st) : Z p l e R s m args below meth c nL G N0 A Q h k n pc lv (vI x :: st) := by
  obtain ⟨hx, hb, hml, hown, hts, hlocks, hKD, hSF, hA0, hAN⟩ := F
  intro H locs ls hP hA hS hl
  have e0 : iI 0 = (0 : Int32) := by decide
  have ry : -2147483648 ≤ (0 : Int) ∧ (0 : Int) < 2147483648 := by decide
  refine lv_if_ge hx hb d ht (fun q => kt ?_ H locs ls hP hA hS hl) (fun q => kf ?_ H locs ls hP hA hS hl)
  all_goals ((first | rw [← e0] at q | skip); first | exact (iI_inj rx ry).mp q | exact fun z => q ((iI_inj rx ry).mpr z) | exact Classical.not_not.mp (fun z => q (fun w => z ((iI_inj rx ry).mp w))) | (simp only [iI_lt rx ry, iI_lt ry rx, iI_le rx ry, iI_le ry rx] at q; omega) | (simp only [Int32.not_lt, Int32.not_le, iI_lt rx ry, iI_lt ry rx, iI_le rx ry, iI_le ry rx] at q; omega))
theorem z_if_gt (F : Fx p s m args meth c own cc nL G N0 A) {x : Int} {off : Int} {tgt : Nat} (d : decode cc pc = .ok (.ifCond .gt off, 3)) (ht : (pc : Int) + off = (tgt : Int)) (rx : -2147483648 ≤ x ∧ x < 2147483648) (kt : 0 < x → Z p l e R s m args below meth c nL G N0 A Q h k n tgt lv st) (kf : x ≤ 0 → Z p l e R s m args below meth c nL G N0 A Q h k n (pc + 3) lv st) : Z p l e R s m args below meth c nL G N0 A Q h k n pc lv (vI x :: st) := by
  obtain ⟨hx, hb, hml, hown, hts, hlocks, hKD, hSF, hA0, hAN⟩ := F
  intro H locs ls hP hA hS hl
  have e0 : iI 0 = (0 : Int32) := by decide
  have ry : -2147483648 ≤ (0 : Int) ∧ (0 : Int) < 2147483648 := by decide
  refine lv_if_gt hx hb d ht (fun q => kt ?_ H locs ls hP hA hS hl) (fun q => kf ?_ H locs ls hP hA hS hl)
  all_goals ((first | rw [← e0] at q | skip); first | exact (iI_inj rx ry).mp q | exact fun z => q ((iI_inj rx ry).mpr z) | exact Classical.not_not.mp (fun z => q (fun w => z ((iI_inj rx ry).mp w))) | (simp only [iI_lt rx ry, iI_lt ry rx, iI_le rx ry, iI_le ry rx] at q; omega) | (simp only [Int32.not_lt, Int32.not_le, iI_lt rx ry, iI_lt ry rx, iI_le rx ry, iI_le ry rx] at q; omega))
theorem z_if_le (F : Fx p s m args meth c own cc nL G N0 A) {x : Int} {off : Int} {tgt : Nat} (d : decode cc pc = .ok (.ifCond .le off, 3)) (ht : (pc : Int) + off = (tgt : Int)) (rx : -2147483648 ≤ x ∧ x < 2147483648) (kt : x ≤ 0 → Z p l e R s m args below meth c nL G N0 A Q h k n tgt lv st) (kf : 0 < x → Z p l e R s m args below meth c nL G N0 A Q h k n (pc + 3) lv st) : Z p l e R s m args below meth c nL G N0 A Q h k n pc lv (vI x :: st) := by
  obtain ⟨hx, hb, hml, hown, hts, hlocks, hKD, hSF, hA0, hAN⟩ := F
  intro H locs ls hP hA hS hl
  have e0 : iI 0 = (0 : Int32) := by decide
  have ry : -2147483648 ≤ (0 : Int) ∧ (0 : Int) < 2147483648 := by decide
  refine lv_if_le hx hb d ht (fun q => kt ?_ H locs ls hP hA hS hl) (fun q => kf ?_ H locs ls hP hA hS hl)
  all_goals ((first | rw [← e0] at q | skip); first | exact (iI_inj rx ry).mp q | exact fun z => q ((iI_inj rx ry).mpr z) | exact Classical.not_not.mp (fun z => q (fun w => z ((iI_inj rx ry).mp w))) | (simp only [iI_lt rx ry, iI_lt ry rx, iI_le rx ry, iI_le ry rx] at q; omega) | (simp only [Int32.not_lt, Int32.not_le, iI_lt rx ry, iI_lt ry rx, iI_le rx ry, iI_le ry rx] at q; omega))
theorem z_goto (F : Fx p s m args meth c own cc nL G N0 A) {off : Int} {tgt : Nat} (d : decode cc pc = .ok (.goto off, 3)) (ht : (pc : Int) + off = (tgt : Int)) (K : Z p l e R s m args below meth c nL G N0 A Q h k n tgt lv st) : Z p l e R s m args below meth c nL G N0 A Q h k n pc lv st := by
  obtain ⟨hx, hb, hml, hown, hts, hlocks, hKD, hSF, hA0, hAN⟩ := F
  intro H locs ls hP hA hS hl
  exact lv_goto hx hb d ht (K H locs ls hP hA hS hl)
theorem z_acmp_eq (F : Fx p s m args meth c own cc nL G N0 A) {rx ry : Option Nat} {off : Int} {tgt : Nat} (d : decode cc pc = .ok (.if_acmp .eq off, 3)) (ht : (pc : Int) + off = (tgt : Int)) (kt : rx = ry → Z p l e R s m args below meth c nL G N0 A Q h k n tgt lv st) (kf : rx ≠ ry → Z p l e R s m args below meth c nL G N0 A Q h k n (pc + 3) lv st) : Z p l e R s m args below meth c nL G N0 A Q h k n pc lv (vQ ry :: vQ rx :: st) := by
  obtain ⟨hx, hb, hml, hown, hts, hlocks, hKD, hSF, hA0, hAN⟩ := F
  intro H locs ls hP hA hS hl
  refine lv_acmp_eq hx hb d ht (fun q => kt ?_ H locs ls hP hA hS hl) (fun q => kf ?_ H locs ls hP hA hS hl)
  all_goals (first | exact q | exact Classical.not_not.mp q)
theorem z_acmp_ne (F : Fx p s m args meth c own cc nL G N0 A) {rx ry : Option Nat} {off : Int} {tgt : Nat} (d : decode cc pc = .ok (.if_acmp .ne off, 3)) (ht : (pc : Int) + off = (tgt : Int)) (kt : rx ≠ ry → Z p l e R s m args below meth c nL G N0 A Q h k n tgt lv st) (kf : rx = ry → Z p l e R s m args below meth c nL G N0 A Q h k n (pc + 3) lv st) : Z p l e R s m args below meth c nL G N0 A Q h k n pc lv (vQ ry :: vQ rx :: st) := by
  obtain ⟨hx, hb, hml, hown, hts, hlocks, hKD, hSF, hA0, hAN⟩ := F
  intro H locs ls hP hA hS hl
  refine lv_acmp_ne hx hb d ht (fun q => kt ?_ H locs ls hP hA hS hl) (fun q => kf ?_ H locs ls hP hA hS hl)
  all_goals (first | exact q | exact Classical.not_not.mp q)
theorem z_ifnonnull (F : Fx p s m args meth c own cc nL G N0 A) {a : Nat} {off : Int} {tgt : Nat} (d : decode cc pc = .ok (.ifnonnull off, 3)) (ht : (pc : Int) + off = (tgt : Int)) (K : Z p l e R s m args below meth c nL G N0 A Q h k n tgt lv st) : Z p l e R s m args below meth c nL G N0 A Q h k n pc lv (vR a :: st) := by
  obtain ⟨hx, hb, hml, hown, hts, hlocks, hKD, hSF, hA0, hAN⟩ := F
  intro H locs ls hP hA hS hl
  exact lv_ifnonnull hx hb d ht (K H locs ls hP hA hS hl)
theorem z_null (F : Fx p s m args meth c own cc nL G N0 A) (d : decode cc pc = .ok (.aconst_null, 1))  (K : Z p l e R s m args below meth c nL G N0 A Q h k n (pc + 1) lv (vN :: st)) : Z p l e R s m args below meth c nL G N0 A Q h k n pc lv (st) := by
  obtain ⟨hx, hb, hml, hown, hts, hlocks, hKD, hSF, hA0, hAN⟩ := F
  intro H locs ls hP hA hS hl
  exact lv_null hx hb d (K H locs ls hP hA hS hl)
theorem z_ldc (F : Fx p s m args meth c own cc nL G N0 A) {idx : Nat} {z : Int} (hc : Cond.constant own idx (iI z) ∈ LW) (d : decode cc pc = .ok (.ldc idx, 2)) (K : Z p l e R s m args below meth c nL G N0 A Q h k n (pc + 2) lv (vI z :: st)) : Z p l e R s m args below meth c nL G N0 A Q h k n pc lv st := by
  obtain ⟨hx, hb, hml, hown, hts, hlocks, hKD, hSF, hA0, hAN⟩ := F
  intro H locs ls hP hA hS hl
  exact lv_ldc hx hb hown (hts _ hc) d (K H locs ls hP hA hS hl)
theorem z_ldcw (F : Fx p s m args meth c own cc nL G N0 A) {idx : Nat} {z : Int} (hc : Cond.constant own idx (iI z) ∈ LW) (d : decode cc pc = .ok (.ldc_w idx, 3)) (K : Z p l e R s m args below meth c nL G N0 A Q h k n (pc + 3) lv (vI z :: st)) : Z p l e R s m args below meth c nL G N0 A Q h k n pc lv st := by
  obtain ⟨hx, hb, hml, hown, hts, hlocks, hKD, hSF, hA0, hAN⟩ := F
  intro H locs ls hP hA hS hl
  exact lv_ldcw hx hb hown (hts _ hc) d (K H locs ls hP hA hS hl)
theorem z_ldcf (F : Fx p s m args meth c own cc nL G N0 A) {idx : Nat} {x : UInt32} (hc : Cond.constantFloat own idx x ∈ LW) (d : decode cc pc = .ok (.ldc idx, 2)) (K : Z p l e R s m args below meth c nL G N0 A Q h k n (pc + 2) lv (vF x :: st)) : Z p l e R s m args below meth c nL G N0 A Q h k n pc lv st := by
  obtain ⟨hx, hb, hml, hown, hts, hlocks, hKD, hSF, hA0, hAN⟩ := F
  intro H locs ls hP hA hS hl
  exact lv_ldcf hx hb hown (hts _ hc) d (K H locs ls hP hA hS hl)
theorem z_ldc2d (F : Fx p s m args meth c own cc nL G N0 A) {idx : Nat} {x : UInt64} (hc : Cond.constantDouble own idx x ∈ LW) (d : decode cc pc = .ok (.ldc2_w idx, 3)) (K : Z p l e R s m args below meth c nL G N0 A Q h k n (pc + 3) lv (vD x :: st)) : Z p l e R s m args below meth c nL G N0 A Q h k n pc lv st := by
  obtain ⟨hx, hb, hml, hown, hts, hlocks, hKD, hSF, hA0, hAN⟩ := F
  intro H locs ls hP hA hS hl
  exact lv_ldc2d hx hb hown (hts _ hc) d (K H locs ls hP hA hS hl)
theorem z_ldc2 (F : Fx p s m args meth c own cc nL G N0 A) {idx : Nat} {z : Int} (hc : Cond.constantLong own idx (Int64.ofInt z) ∈ LW) (d : decode cc pc = .ok (.ldc2_w idx, 3)) (K : Z p l e R s m args below meth c nL G N0 A Q h k n (pc + 3) lv (vL z :: st)) : Z p l e R s m args below meth c nL G N0 A Q h k n pc lv st := by
  obtain ⟨hx, hb, hml, hown, hts, hlocks, hKD, hSF, hA0, hAN⟩ := F
  intro H locs ls hP hA hS hl
  exact lv_ldc2 hx hb hown (hts _ hc) d (K H locs ls hP hA hS hl)
/-! memory -/
theorem mem_dom {a : Nat} {e9 : AE} {h : Hp} {A : Nat → Prop} (hA : ∀ a, h a ≠ none → A a) (he : h a = some e9) : A a := hA a (by rw [he]; exact fun q => nomatch q)
theorem dom_hu {h : Hp} {a : Nat} {e9 : AE} {A : Nat → Prop} (hA : ∀ a, h a ≠ none → A a) (ha : A a) : ∀ b, hu h a e9 b ≠ none → A b := by
  intro b hb
  by_cases hba : b = a
  · rw [hba]; exact ha
  · rw [hu_n h e9 hba] at hb; exact hA b hb
theorem fresh_ne {h : Hp} {q b : Nat} {e9 : AE} (hq : h q = none) (hb : h b = some e9) : b ≠ q := fun z => by rw [z, hq] at hb; cases hb
/-- a number that tells an entry's class or kind -/
def tg : AE → Nat
  | Sum.inl x => x.1
  | Sum.inr x => 100 + x.1
theorem ne_tg {h : Hp} {a b : Nat} {x y : AE} (ha : h a = some x) (hb : h b = some y) (ht : (tg x == tg y) = false) : a ≠ b := fun z => by
  rw [z, hb] at ha
  cases ha
  simp at ht
/-- what holds of each class of kCl -/
def kFine (r : vw_C) : Prop := (∀ w ∈ u_ws r.1 r.2.1 r.2.2, w ∈ LW) ∧ (∃ ty : Nat → FieldType, ∀ k, k < r.2.2 → parseFieldDescriptor (r.2.1 k).2.2.1 = some (ty k)) ∧ (∀ a, a < r.2.2 → ∀ b, b < r.2.2 → a ≠ b → (r.2.1 a).2.1 ≠ (r.2.1 b).2.1)
theorem inAll {L : List Cond} (h : (L.all fun w => decide (w ∈ lw_tbl) && goodWord w) = true) : ∀ w ∈ L, w ∈ LW := fun w hw => by
  have h1 := List.all_eq_true.mp h w hw
  simp only [Bool.and_eq_true, decide_eq_true_eq] at h1
  exact List.mem_filter.mpr h1
theorem kFine_all : ∀ (ci : Nat) (r : vw_C), kCl[ci]? = some r → kFine r := by
  intro ci r h
  match ci, h with
  | 0, h => cases h; exact ⟨inAll (by decide +kernel), ⟨tyJ0, tyJ0_ok⟩, nmJ0⟩
  | 1, h => cases h; exact ⟨inAll (by decide +kernel), ⟨tyJ4, tyJ4_ok⟩, nmJ4⟩
  | 2, h => cases h; exact ⟨inAll (by decide +kernel), ⟨tyJx00060, tyJx00060_ok⟩, nmJx00060⟩
  | 3, h => cases h; exact ⟨inAll (by decide +kernel), ⟨tyJx7c733, tyJx7c733_ok⟩, nmJx7c733⟩
  | 4, h => cases h; exact ⟨inAll (by decide +kernel), ⟨tyJx4a65c, tyJx4a65c_ok⟩, nmJx4a65c⟩
  | 5, h => cases h; exact ⟨inAll (by decide +kernel), ⟨tyX0, tyX0_ok⟩, nmX0⟩
  | 6, h => cases h; exact ⟨inAll (by decide +kernel), ⟨tyX1, tyX1_ok⟩, nmX1⟩
  | 7, h => cases h; exact ⟨inAll (by decide +kernel), ⟨tyX2, tyX2_ok⟩, nmX2⟩
  | 8, h => cases h; exact ⟨inAll (by decide +kernel), ⟨tyX3, tyX3_ok⟩, nmX3⟩
  | 9, h => cases h; exact ⟨inAll (by decide +kernel), ⟨tyX4, tyX4_ok⟩, nmX4⟩
  | 10, h => cases h; exact ⟨inAll (by decide +kernel), ⟨tyX5, tyX5_ok⟩, nmX5⟩
  | 11, h => cases h; exact ⟨inAll (by decide +kernel), ⟨tyX6, tyX6_ok⟩, nmX6⟩
  | 12, h => cases h; exact ⟨inAll (by decide +kernel), ⟨tyX7, tyX7_ok⟩, nmX7⟩
  | 13, h => cases h; exact ⟨inAll (by decide +kernel), ⟨tyX8, tyX8_ok⟩, nmX8⟩
  | 14, h => cases h; exact ⟨inAll (by decide +kernel), ⟨tyX9, tyX9_ok⟩, nmX9⟩
  | n + 15, h => simp [kCl] at h
/-- a value that a field or array of the type keeps as it is -/
def NF (ty : FieldType) (v : AV) : Prop := narrow ty (cv v) = cv v ∧ fits ty (cv v) = true
theorem nf_i (z : Int) : NF .int (vI z) := ⟨rfl, rfl⟩
theorem nf_f (x : UInt32) : NF .float (vF x) := ⟨rfl, rfl⟩
theorem nf_d (x : UInt64) : NF .double (vD x) := ⟨rfl, rfl⟩
theorem nf_q (C : String) (r : Option Nat) : NF (.object C) (vQ r) := by cases r <;> exact ⟨rfl, rfl⟩
theorem nf_a (t : FieldType) (r : Option Nat) : NF (.array t) (vQ r) := by cases r <;> exact ⟨rfl, rfl⟩
theorem iI_nI {z : Int} (h : 0 ≤ z) : iI z = nI z.toNat := by
  unfold iI nI
  rw [← Int32.ofInt_eq_ofNat]
  congr 1
  omega
theorem nf_c {z : Int} (h : 0 ≤ z ∧ z < 65536) : NF .char (vI z) := by
  have := pk_charN (q := z.toNat) (by omega)
  show narrow .char (.int (iI z)) = .int (iI z) ∧ fits .char (.int (iI z)) = true
  rw [iI_nI h.1]
  exact this
theorem nf_b {z : Int} (h : -128 ≤ z ∧ z < 128) : NF .byte (vI z) := by
  have h1 : (iI z).toInt8.toInt32 = iI z := by
    rw [← Int32.toInt_inj, Int8.toInt_toInt32, Int32.toInt_toInt8, iI_toInt (by omega)]
    exact Int.bmod_eq_of_le (by omega) (by omega)
  show narrow .byte (.int (iI z)) = .int (iI z) ∧ fits .byte (.int (iI z)) = true
  rw [← h1]
  exact ⟨pk_nb _, pk_fb _⟩
theorem nf_z {z : Int} (h : z = 0 ∨ z = 1) : NF .boolean (vI z) := by
  rcases h with rfl | rfl <;> exact ⟨rfl, rfl⟩
theorem z_get {a ci f idx : Nat} {fs : List AV} {v : AV} (F : Fx p s m args meth c own cc nL G N0 A) (he : h a = some (eO ci fs)) (hf : FL own idx ci f) (hv : fs[f]? = some v) (d : decode cc pc = .ok (.getfield idx, 3))
    (K : Z p l e R s m args below meth c nL G N0 A Q h k n (pc + 3) lv (v :: st)) : Z p l e R s m args below meth c nL G N0 A Q h k n pc lv (vR a :: st) := by
  obtain ⟨hx, hb, hml, hown, hts, hlocks, hKD, hSF, hA0, hAN⟩ := F
  intro H locs ls hP hA hS hl
  obtain ⟨r, ref, hr, hlt, hlink, href⟩ := hf
  have hfine := kFine_all ci r hr
  obtain ⟨r2, h1, cell, q1, q2, q3, q4⟩ := (hP _ _ he).2
  cases hr.symm.trans h1
  obtain ⟨hSl, hfc, kC, hkC, hkind⟩ := hKD.1 ci _ hr
  obtain ⟨cf, kf, fi, fd, hi, hsl⟩ := hSl f hlt
  have hsame : ∀ x, s.fieldFound? (r.2.1 f).1 (r.2.1 f).2.1 (r.2.1 f).2.2.1 = some x → s.fieldFound? ref (r.2.1 f).2.1 (r.2.1 f).2.2.1 = some x := by
    rcases href with rfl | hw
    · exact fun _ z => z
    · exact fun x z => u_same (hts _ hw) x z
  refine W.getf hx hb hown (hts _ hlink) (hsame _ hi) (u_facts hfc hkC (u_lays hts hfine.1 hlt) hi).1 q1 (by rw [q3]; exact fun z => by cases z) (v := cv v) ?_ rfl rfl d (K H locs ls hP hA hS hl)
  rw [hsl, q4 f hlt]
  simp [vp_V, hv]
theorem z_put_any {a ci f idx : Nat} {fs fs' : List AV} {v : AV} {ty : FieldType} {fin : Bool} (F : Fx p s m args meth c own cc nL G N0 A) (he : h a = some (eO ci fs)) (hf : FL own idx ci f) (ht : FT ci f ty fin) (hn : NF ty v) (hl0 : f < fs.length) (hs9 : fs.set f v = fs') (hfin : fin = false ∨ (meth.name = "<init>" ∧ ∀ r : vw_C, kCl[ci]? = some r → (r.2.1 f).1 = own)) (d : decode cc pc = .ok (.putfield idx, 3))
    (K : Z p l e R s m args below meth c nL G N0 A Q (hu h a (eO ci fs')) k n (pc + 3) lv st) : Z p l e R s m args below meth c nL G N0 A Q h k n pc lv (v :: vR a :: st) := by
  obtain ⟨hx, hb, hml, hown, hts, hlocks, hKD, hSF, hA0, hAN⟩ := F
  intro H locs ls hP hA hS hl
  obtain ⟨r, ref, hr, hlt, hlink, href⟩ := hf
  obtain ⟨hfine, ⟨ty0, hty0⟩, hnm⟩ := kFine_all ci r hr
  obtain ⟨hd, hfi⟩ := ht r hr
  obtain ⟨hN, z9⟩ := hP _ _ he
  obtain ⟨r2, h1, cell, q1, q2, q3, q4⟩ := z9
  cases hr.symm.trans h1
  have hap := va_apart (own := own) hts hfine ty0 hty0 hnm hKD hr
  obtain ⟨hSl, hfc, kC, hkC, hkind⟩ := hKD.1 ci _ hr
  obtain ⟨cf, kf, fi, fd, hi, hsl⟩ := hSl f hlt
  have hsame : ∀ x, s.fieldFound? (r.2.1 f).1 (r.2.1 f).2.1 (r.2.1 f).2.2.1 = some x → s.fieldFound? ref (r.2.1 f).2.1 (r.2.1 f).2.2.1 = some x := by
    rcases href with rfl | hw
    · exact fun _ z => z
    · exact fun x z => u_same (hts _ hw) x z
  have hst := (u_facts hfc hkC (u_lays hts hfine hlt) hi).1
  have hlay := hts _ (hfine _ (u_in_lay hlt))
  unfold u_lay at hlay
  have aA : A a := mem_dom hA he
  have fin2 : ∀ (H' : Heap), H'[a]? = some (cell.setSlot fd.slot (cv v)) → H'.size = H.size → (∀ q, q ≠ a → H'[q]? = H[q]?) → W p l e R s m args below meth c H' (locs ++ [⟨a, fd.slot⟩]) k n Q (F0 m (pc + 3) ls (st.map cv)) := by
    intro H' e1 e2 e3
    refine K H' _ ls (hP.put hN ?_ (fun b hb _ => e3 b hb)) (dom_hu hA aA) (hS.put e2 e3 aA) hl
    rw [hsl] at e1
    refine ⟨r, hr, ?_⟩
    subst hs9
    refine t_OB.to (V := updV (vp_V (fs.map cv)) f (cv v)) ⟨_, e1, q2, q3, t_set q4 hap hlt (cv v)⟩ (fun j _ => ?_)
    rw [List.map_set]
    exact vp_updV_set (by simpa using hl0) (cv v) j
  cases fin with
  | false =>
    rw [if_neg (by rw [hfi]; decide)] at hlay
    have h6 := u_store hfc hkC hkind hlay hi hd hn.1 hn.2
    exact W.putK hx hb (f := fd) ⟨hown, hts _ hlink, ⟨_, _, _, hsame _ hi⟩, hst⟩ (by rw [q2]; exact h6) q1 q3 (by rw [hsl]; exact k2_hasslot (q4 f hlt)) rfl rfl d fin2
  | true =>
    rcases hfin with q | ⟨hin, hdecl⟩
    · cases q
    · rw [if_pos hfi] at hlay
      have hcf : m.cls = cf := by
        obtain ⟨_, _, c', _, _, _, -, -, hf', -, -, -, hown2, -⟩ := Cond.laysFinal_spec hlay
        have e1 : c' = cf := by have := hi.symm.trans hf'; simp at this; exact this.1.symm
        rw [hdecl r hr] at hown2
        rw [← e1]; exact Option.some.inj (hown.symm.trans hown2)
      have h6 := u_fits hfc hkC hkind (Or.inr hlay) hi hd hn.1 hn.2
      exact W.putFinK hx hb hown (hts _ hlink) (hsame _ hi) hst hcf hin (by rw [q2]; exact h6) q1 q3 (by rw [hsl]; exact k2_hasslot (q4 f hlt)) rfl rfl d fin2
theorem z_put {a ci f idx : Nat} {fs fs' : List AV} {v : AV} {ty : FieldType} {h' : Hp} (F : Fx p s m args meth c own cc nL G N0 A) (he : h a = some (eO ci fs)) (hf : FL own idx ci f) (ht : FT ci f ty false) (hn : NF ty v) (hl0 : f < fs.length) (hs9 : fs.set f v = fs') (d : decode cc pc = .ok (.putfield idx, 3)) (hh : hu h a (eO ci fs') = h')
    (K : Z p l e R s m args below meth c nL G N0 A Q h' k n (pc + 3) lv st) : Z p l e R s m args below meth c nL G N0 A Q h k n pc lv (v :: vR a :: st) := by
  subst hh
  exact z_put_any F he hf ht hn hl0 hs9 (Or.inl rfl) d K
theorem z_putF {a ci f idx : Nat} {fs fs' : List AV} {v : AV} {ty : FieldType} {h' : Hp} (F : Fx p s m args meth c own cc nL G N0 A) (hin : meth.name = "<init>") (he : h a = some (eO ci fs)) (hf : FL own idx ci f) (ht : FT ci f ty true) (hn : NF ty v) (hl0 : f < fs.length) (hs9 : fs.set f v = fs') (hdecl : ∀ r : vw_C, kCl[ci]? = some r → (r.2.1 f).1 = own) (d : decode cc pc = .ok (.putfield idx, 3)) (hh : hu h a (eO ci fs') = h')
    (K : Z p l e R s m args below meth c nL G N0 A Q h' k n (pc + 3) lv st) : Z p l e R s m args below meth c nL G N0 A Q h k n pc lv (v :: vR a :: st) := by
  subst hh
  exact z_put_any F he hf ht hn hl0 hs9 (Or.inr ⟨hin, hdecl⟩) d K
theorem z_new {ci idx N : Nat} {fs0 : List AV} (F : Fx p s m args meth c own cc nL G N0 A) (hw : NW own idx ci fs0) (hN : ∀ r : vw_C, kCl[ci]? = some r → r.2.2 = N) (hc1 : k + 1 ≤ R.cells) (hc2 : n + N ≤ R.slots) (d : decode cc pc = .ok (.new idx, 3))
    (K : ∀ q : Nat, h q = none → Z p l e R s m args below meth c nL G N0 A Q (hu h q (eO ci fs0)) (k + 1) (n + N) (pc + 3) lv (vR q :: st)) : Z p l e R s m args below meth c nL G N0 A Q h k n pc lv st := by
  obtain ⟨hx, hb, hml, hown, hts, hlocks, hKD, hSF, hA0, hAN⟩ := F
  intro H locs ls hP hA hS hl
  obtain ⟨r, hr, w1, w2, w3, hdef⟩ := hw
  have hN' := hN r hr
  subst hN'
  obtain ⟨hfine, ⟨ty0, hty0⟩, hnm⟩ := kFine_all ci r hr
  have hKn := hKD.1 ci _ hr
  refine W.newcK hx hb hown (hts _ w1) (hts _ w2) (hts _ w3) rfl d hc1 hc2 hKn.2.1 rfl fun H1 kC hkC e1 z1 o1 => ?_
  have hq := hP.fresh
  refine K H.size hq H1 locs ls (hP.put (Nat.le_trans hSF.1 hS.1) ⟨r, hr, (u_born ty0 hts hfine hKn hkC e1 hty0).to (hdef ty0 hty0)⟩ (fun b _ hb => o1 b hb)) (dom_hu hA (hA0 _ hS.1)) ⟨Nat.le_trans hS.1 (by omega), fun x h1 h2 => (o1 x (Nat.lt_of_lt_of_le h1 hS.1)).trans (hS.2.1 x h1 h2), hS.2.2⟩ hl
/-- arrays: loads -/
theorem ald_in {z : Int} {cA : ClassId} {N : Nat} {f : Int → AV} (h0 : 0 ≤ z) (h1 : z < N) (hn : z < 2147483648) : ¬ (iI z < 0 ∨ (arrV cA N (fun j => cv (f (j : Int)))).slots.size ≤ (iI z).toNatClampNeg) ∧ (arrV cA N (fun j => cv (f (j : Int)))).slots[(iI z).toNatClampNeg]? = some (cv (f z)) := by
  rw [iI_clamp (by omega), arrV_size]
  refine ⟨fun q => ?_, ?_⟩
  · rcases q with q | q
    · rw [show (0 : Int32) = iI 0 by decide, iI_lt (by omega) (by omega)] at q
      omega
    · omega
  · rw [arrV_read _ _ (by omega)]
    congr 2
    congr 1
    omega
theorem arr_put {G : GG} {N0 : Nat} {h : Hp} {H H1 : Heap} {a kk N : Nat} {f : Int → AV} {z : Int} {v : AV} (hP : WP G N0 h H) (he : h a = some (eA kk N f)) (h0 : 0 ≤ z) (h1 : z < N) (e1 : H1[a]? = some ((arrV (G.2.1 kk) N (fun j => cv (f (j : Int)))).setSlot z.toNat (cv v))) (o1 : ∀ q, q ≠ a → H1[q]? = H[q]?) : WP G N0 (hu h a (eA kk N (fu f z v))) H1 := by
  refine hP.put (hP _ _ he).1 ?_ (fun b hb _ => o1 b hb)
  show H1[a]? = some (arrV _ _ _)
  rw [e1, arrV_store]
  congr 2
  funext j
  show updV _ _ _ j = cv (fu f z v j)
  by_cases hj : j = z.toNat
  · have : (j : Int) = z := by omega
    simp [updV, hj, fu, show ((z.toNat : Nat) : Int) = z by omega]
  · have : (j : Int) ≠ z := by omega
    simp [updV, hj, fu, this]
theorem z_iaload {a N : Nat} {f : Int → Int} {z : Int} (F : Fx p s m args meth c own cc nL G N0 A) (he : h a = some (eA 0 N (fun j => vI (f j)))) (h0 : 0 ≤ z) (h1 : z < N) (hn : z < 2147483648) (d : decode cc pc = .ok (.iaload, 1))
    (K : Z p l e R s m args below meth c nL G N0 A Q h k n (pc + 1) lv (vI (f z) :: st)) : Z p l e R s m args below meth c nL G N0 A Q h k n pc lv (vI z :: vR a :: st) := by
  obtain ⟨hx, hb, hml, hown, hts, hlocks, hKD, hSF, hA0, hAN⟩ := F
  intro H locs ls hP hA hS hl
  have g := ald_in (cA := G.2.1 0) (f := fun j => vI (f j)) h0 h1 hn
  exact W.iald (v := cv (vI (f z))) hx hb (hP _ _ he).2 ((hKD.2 0 _ rfl).1 N _) (fun q => by cases q) g.1 g.2 rfl rfl d (K H locs ls hP hA hS hl)
theorem z_caload {a N : Nat} {f : Int → Int} {z : Int} (F : Fx p s m args meth c own cc nL G N0 A) (he : h a = some (eA 1 N (fun j => vI (f j)))) (h0 : 0 ≤ z) (h1 : z < N) (hn : z < 2147483648) (d : decode cc pc = .ok (.caload, 1))
    (K : Z p l e R s m args below meth c nL G N0 A Q h k n (pc + 1) lv (vI (f z) :: st)) : Z p l e R s m args below meth c nL G N0 A Q h k n pc lv (vI z :: vR a :: st) := by
  obtain ⟨hx, hb, hml, hown, hts, hlocks, hKD, hSF, hA0, hAN⟩ := F
  intro H locs ls hP hA hS hl
  have g := ald_in (cA := G.2.1 1) (f := fun j => vI (f j)) h0 h1 hn
  exact W.cald (v := cv (vI (f z))) hx hb (hP _ _ he).2 ((hKD.2 1 _ rfl).1 N _) (fun q => by cases q) g.1 g.2 rfl rfl d (K H locs ls hP hA hS hl)
theorem z_faload {a N : Nat} {f : Int → UInt32} {z : Int} (F : Fx p s m args meth c own cc nL G N0 A) (he : h a = some (eA 2 N (fun j => vF (f j)))) (h0 : 0 ≤ z) (h1 : z < N) (hn : z < 2147483648) (d : decode cc pc = .ok (.faload, 1))
    (K : Z p l e R s m args below meth c nL G N0 A Q h k n (pc + 1) lv (vF (f z) :: st)) : Z p l e R s m args below meth c nL G N0 A Q h k n pc lv (vI z :: vR a :: st) := by
  obtain ⟨hx, hb, hml, hown, hts, hlocks, hKD, hSF, hA0, hAN⟩ := F
  intro H locs ls hP hA hS hl
  have g := ald_in (cA := G.2.1 2) (f := fun j => vF (f j)) h0 h1 hn
  exact W.fald (v := cv (vF (f z))) hx hb (hP _ _ he).2 ((hKD.2 2 _ rfl).1 N _) (fun q => by cases q) g.1 g.2 rfl rfl d (K H locs ls hP hA hS hl)
theorem z_zaload {a N : Nat} {f : Int → Int} {z : Int} (F : Fx p s m args meth c own cc nL G N0 A) (he : h a = some (eA 3 N (fun j => vI (f j)))) (h0 : 0 ≤ z) (h1 : z < N) (hn : z < 2147483648) (d : decode cc pc = .ok (.baload, 1))
    (K : Z p l e R s m args below meth c nL G N0 A Q h k n (pc + 1) lv (vI (f z) :: st)) : Z p l e R s m args below meth c nL G N0 A Q h k n pc lv (vI z :: vR a :: st) := by
  obtain ⟨hx, hb, hml, hown, hts, hlocks, hKD, hSF, hA0, hAN⟩ := F
  intro H locs ls hP hA hS hl
  have g := ald_in (cA := G.2.1 3) (f := fun j => vI (f j)) h0 h1 hn
  exact W.zald (v := cv (vI (f z))) hx hb (hP _ _ he).2 ((hKD.2 3 _ rfl).1 N _) (fun q => by cases q) g.1 g.2 rfl rfl d (K H locs ls hP hA hS hl)
theorem z_baload {a N : Nat} {f : Int → Int} {z : Int} (F : Fx p s m args meth c own cc nL G N0 A) (he : h a = some (eA 4 N (fun j => vI (f j)))) (h0 : 0 ≤ z) (h1 : z < N) (hn : z < 2147483648) (d : decode cc pc = .ok (.baload, 1))
    (K : Z p l e R s m args below meth c nL G N0 A Q h k n (pc + 1) lv (vI (f z) :: st)) : Z p l e R s m args below meth c nL G N0 A Q h k n pc lv (vI z :: vR a :: st) := by
  obtain ⟨hx, hb, hml, hown, hts, hlocks, hKD, hSF, hA0, hAN⟩ := F
  intro H locs ls hP hA hS hl
  have g := ald_in (cA := G.2.1 4) (f := fun j => vI (f j)) h0 h1 hn
  exact W.bald (v := cv (vI (f z))) hx hb (hP _ _ he).2 ((hKD.2 4 _ rfl).1 N _) (fun q => by cases q) g.1 g.2 rfl rfl d (K H locs ls hP hA hS hl)
theorem z_laload {a N : Nat} {f : Int → Int} {z : Int} (F : Fx p s m args meth c own cc nL G N0 A) (he : h a = some (eA 6 N (fun j => vL (f j)))) (h0 : 0 ≤ z) (h1 : z < N) (hn : z < 2147483648) (d : decode cc pc = .ok (.laload, 1))
    (K : Z p l e R s m args below meth c nL G N0 A Q h k n (pc + 1) lv (vL (f z) :: st)) : Z p l e R s m args below meth c nL G N0 A Q h k n pc lv (vI z :: vR a :: st) := by
  obtain ⟨hx, hb, hml, hown, hts, hlocks, hKD, hSF, hA0, hAN⟩ := F
  intro H locs ls hP hA hS hl
  have g := ald_in (cA := G.2.1 6) (f := fun j => vL (f j)) h0 h1 hn
  exact W.lald (v := cv (vL (f z))) hx hb (hP _ _ he).2 ((hKD.2 6 _ rfl).1 N _) (fun q => by cases q) g.1 g.2 rfl rfl d (K H locs ls hP hA hS hl)
theorem z_daload {a N : Nat} {f : Int → UInt64} {z : Int} (F : Fx p s m args meth c own cc nL G N0 A) (he : h a = some (eA 7 N (fun j => vD (f j)))) (h0 : 0 ≤ z) (h1 : z < N) (hn : z < 2147483648) (d : decode cc pc = .ok (.daload, 1))
    (K : Z p l e R s m args below meth c nL G N0 A Q h k n (pc + 1) lv (vD (f z) :: st)) : Z p l e R s m args below meth c nL G N0 A Q h k n pc lv (vI z :: vR a :: st) := by
  obtain ⟨hx, hb, hml, hown, hts, hlocks, hKD, hSF, hA0, hAN⟩ := F
  intro H locs ls hP hA hS hl
  have g := ald_in (cA := G.2.1 7) (f := fun j => vD (f j)) h0 h1 hn
  exact W.dald (v := cv (vD (f z))) hx hb (hP _ _ he).2 ((hKD.2 7 _ rfl).1 N _) (fun q => by cases q) g.1 g.2 rfl rfl d (K H locs ls hP hA hS hl)
theorem z_iastore {a N : Nat} {f : Int → Int} {z : Int} {x : Int} {h' : Hp} (F : Fx p s m args meth c own cc nL G N0 A) (he : h a = some (eA 0 N (fun j => vI (f j)))) (h0 : 0 ≤ z) (h1 : z < N) (hn : z < 2147483648) (d : decode cc pc = .ok (.iastore, 1))
    (hh : hu h a (eA 0 N (fun j => vI (if j = z then x else f j))) = h') (K : Z p l e R s m args below meth c nL G N0 A Q h' k n (pc + 1) lv st) : Z p l e R s m args below meth c nL G N0 A Q h k n pc lv (vI x :: vI z :: vR a :: st) := by
  obtain ⟨hx, hb, hml, hown, hts, hlocks, hKD, hSF, hA0, hAN⟩ := F
  intro H locs ls hP hA hS hl
  subst hh
  have g := ald_in (cA := G.2.1 0) (f := fun j => vI (f j)) h0 h1 hn
  have aA : A a := mem_dom hA he
  have efu : fu (fun j => vI (f j)) z (vI x) = fun j => vI (if j = z then x else f j) := by
    funext j
    unfold fu
    split <;> rfl
  refine W.iast hx hb (hP _ _ he).2 ((hKD.2 0 _ rfl).1 N _) (fun q => by cases q) g.1 rfl rfl d fun H1 e1 z1 oq => ?_
  rw [iI_clamp (by omega)] at e1
  have hP1 := arr_put (v := vI x) hP he h0 h1 e1 oq
  rw [efu] at hP1
  exact K H1 _ ls hP1 (dom_hu hA aA) (hS.put z1 oq aA) hl
theorem z_castore {a N : Nat} {f : Int → Int} {z : Int} {x : Int} {h' : Hp} (F : Fx p s m args meth c own cc nL G N0 A) (he : h a = some (eA 1 N (fun j => vI (f j)))) (hnf : NF .char (vI x)) (h0 : 0 ≤ z) (h1 : z < N) (hn : z < 2147483648) (d : decode cc pc = .ok (.castore, 1))
    (hh : hu h a (eA 1 N (fun j => vI (if j = z then x else f j))) = h') (K : Z p l e R s m args below meth c nL G N0 A Q h' k n (pc + 1) lv st) : Z p l e R s m args below meth c nL G N0 A Q h k n pc lv (vI x :: vI z :: vR a :: st) := by
  obtain ⟨hx, hb, hml, hown, hts, hlocks, hKD, hSF, hA0, hAN⟩ := F
  intro H locs ls hP hA hS hl
  subst hh
  have g := ald_in (cA := G.2.1 1) (f := fun j => vI (f j)) h0 h1 hn
  have aA : A a := mem_dom hA he
  have efu : fu (fun j => vI (f j)) z (vI x) = fun j => vI (if j = z then x else f j) := by
    funext j
    unfold fu
    split <;> rfl
  refine W.cast hx hb (hP _ _ he).2 ((hKD.2 1 _ rfl).1 N _) (fun q => by cases q) g.1 rfl rfl d fun H1 e1 z1 oq => ?_
  rw [iI_clamp (by omega)] at e1
  rw [show narrow .char (.int (iI x)) = cv (vI x) from hnf.1] at e1
  have hP1 := arr_put (v := vI x) hP he h0 h1 e1 oq
  rw [efu] at hP1
  exact K H1 _ ls hP1 (dom_hu hA aA) (hS.put z1 oq aA) hl
theorem z_fastore {a N : Nat} {f : Int → UInt32} {z : Int} {x : UInt32} {h' : Hp} (F : Fx p s m args meth c own cc nL G N0 A) (he : h a = some (eA 2 N (fun j => vF (f j)))) (h0 : 0 ≤ z) (h1 : z < N) (hn : z < 2147483648) (d : decode cc pc = .ok (.fastore, 1))
    (hh : hu h a (eA 2 N (fun j => vF (if j = z then x else f j))) = h') (K : Z p l e R s m args below meth c nL G N0 A Q h' k n (pc + 1) lv st) : Z p l e R s m args below meth c nL G N0 A Q h k n pc lv (vF x :: vI z :: vR a :: st) := by
  obtain ⟨hx, hb, hml, hown, hts, hlocks, hKD, hSF, hA0, hAN⟩ := F
  intro H locs ls hP hA hS hl
  subst hh
  have g := ald_in (cA := G.2.1 2) (f := fun j => vF (f j)) h0 h1 hn
  have aA : A a := mem_dom hA he
  have efu : fu (fun j => vF (f j)) z (vF x) = fun j => vF (if j = z then x else f j) := by
    funext j
    unfold fu
    split <;> rfl
  refine W.fast hx hb (hP _ _ he).2 ((hKD.2 2 _ rfl).1 N _) (fun q => by cases q) g.1 rfl rfl d fun H1 e1 z1 oq => ?_
  rw [iI_clamp (by omega)] at e1
  have hP1 := arr_put (v := vF x) hP he h0 h1 e1 oq
  rw [efu] at hP1
  exact K H1 _ ls hP1 (dom_hu hA aA) (hS.put z1 oq aA) hl
theorem z_zastore {a N : Nat} {f : Int → Int} {z : Int} {x : Int} {h' : Hp} (F : Fx p s m args meth c own cc nL G N0 A) (he : h a = some (eA 3 N (fun j => vI (f j)))) (hnf : NF .boolean (vI x)) (h0 : 0 ≤ z) (h1 : z < N) (hn : z < 2147483648) (d : decode cc pc = .ok (.bastore, 1))
    (hh : hu h a (eA 3 N (fun j => vI (if j = z then x else f j))) = h') (K : Z p l e R s m args below meth c nL G N0 A Q h' k n (pc + 1) lv st) : Z p l e R s m args below meth c nL G N0 A Q h k n pc lv (vI x :: vI z :: vR a :: st) := by
  obtain ⟨hx, hb, hml, hown, hts, hlocks, hKD, hSF, hA0, hAN⟩ := F
  intro H locs ls hP hA hS hl
  subst hh
  have g := ald_in (cA := G.2.1 3) (f := fun j => vI (f j)) h0 h1 hn
  have aA : A a := mem_dom hA he
  have efu : fu (fun j => vI (f j)) z (vI x) = fun j => vI (if j = z then x else f j) := by
    funext j
    unfold fu
    split <;> rfl
  refine W.zast hx hb (hP _ _ he).2 ((hKD.2 3 _ rfl).1 N _) (fun q => by cases q) g.1 rfl rfl d fun H1 e1 z1 oq => ?_
  rw [iI_clamp (by omega)] at e1
  rw [show narrow .boolean (.int (iI x)) = cv (vI x) from hnf.1] at e1
  have hP1 := arr_put (v := vI x) hP he h0 h1 e1 oq
  rw [efu] at hP1
  exact K H1 _ ls hP1 (dom_hu hA aA) (hS.put z1 oq aA) hl
theorem z_bastore {a N : Nat} {f : Int → Int} {z : Int} {x : Int} {h' : Hp} (F : Fx p s m args meth c own cc nL G N0 A) (he : h a = some (eA 4 N (fun j => vI (f j)))) (hnf : NF .byte (vI x)) (h0 : 0 ≤ z) (h1 : z < N) (hn : z < 2147483648) (d : decode cc pc = .ok (.bastore, 1))
    (hh : hu h a (eA 4 N (fun j => vI (if j = z then x else f j))) = h') (K : Z p l e R s m args below meth c nL G N0 A Q h' k n (pc + 1) lv st) : Z p l e R s m args below meth c nL G N0 A Q h k n pc lv (vI x :: vI z :: vR a :: st) := by
  obtain ⟨hx, hb, hml, hown, hts, hlocks, hKD, hSF, hA0, hAN⟩ := F
  intro H locs ls hP hA hS hl
  subst hh
  have g := ald_in (cA := G.2.1 4) (f := fun j => vI (f j)) h0 h1 hn
  have aA : A a := mem_dom hA he
  have efu : fu (fun j => vI (f j)) z (vI x) = fun j => vI (if j = z then x else f j) := by
    funext j
    unfold fu
    split <;> rfl
  refine W.bast hx hb (hP _ _ he).2 ((hKD.2 4 _ rfl).1 N _) (fun q => by cases q) g.1 rfl rfl d fun H1 e1 z1 oq => ?_
  rw [iI_clamp (by omega)] at e1
  rw [show narrow .byte (.int (iI x)) = cv (vI x) from hnf.1] at e1
  have hP1 := arr_put (v := vI x) hP he h0 h1 e1 oq
  rw [efu] at hP1
  exact K H1 _ ls hP1 (dom_hu hA aA) (hS.put z1 oq aA) hl
theorem z_lastore {a N : Nat} {f : Int → Int} {z : Int} {x : Int} {h' : Hp} (F : Fx p s m args meth c own cc nL G N0 A) (he : h a = some (eA 6 N (fun j => vL (f j)))) (h0 : 0 ≤ z) (h1 : z < N) (hn : z < 2147483648) (d : decode cc pc = .ok (.lastore, 1))
    (hh : hu h a (eA 6 N (fun j => vL (if j = z then x else f j))) = h') (K : Z p l e R s m args below meth c nL G N0 A Q h' k n (pc + 1) lv st) : Z p l e R s m args below meth c nL G N0 A Q h k n pc lv (vL x :: vI z :: vR a :: st) := by
  obtain ⟨hx, hb, hml, hown, hts, hlocks, hKD, hSF, hA0, hAN⟩ := F
  intro H locs ls hP hA hS hl
  subst hh
  have g := ald_in (cA := G.2.1 6) (f := fun j => vL (f j)) h0 h1 hn
  have aA : A a := mem_dom hA he
  have efu : fu (fun j => vL (f j)) z (vL x) = fun j => vL (if j = z then x else f j) := by
    funext j
    unfold fu
    split <;> rfl
  refine W.last hx hb (hP _ _ he).2 ((hKD.2 6 _ rfl).1 N _) (fun q => by cases q) g.1 rfl rfl d fun H1 e1 z1 oq => ?_
  rw [iI_clamp (by omega)] at e1
  have hP1 := arr_put (v := vL x) hP he h0 h1 e1 oq
  rw [efu] at hP1
  exact K H1 _ ls hP1 (dom_hu hA aA) (hS.put z1 oq aA) hl
theorem z_dastore {a N : Nat} {f : Int → UInt64} {z : Int} {x : UInt64} {h' : Hp} (F : Fx p s m args meth c own cc nL G N0 A) (he : h a = some (eA 7 N (fun j => vD (f j)))) (h0 : 0 ≤ z) (h1 : z < N) (hn : z < 2147483648) (d : decode cc pc = .ok (.dastore, 1))
    (hh : hu h a (eA 7 N (fun j => vD (if j = z then x else f j))) = h') (K : Z p l e R s m args below meth c nL G N0 A Q h' k n (pc + 1) lv st) : Z p l e R s m args below meth c nL G N0 A Q h k n pc lv (vD x :: vI z :: vR a :: st) := by
  obtain ⟨hx, hb, hml, hown, hts, hlocks, hKD, hSF, hA0, hAN⟩ := F
  intro H locs ls hP hA hS hl
  subst hh
  have g := ald_in (cA := G.2.1 7) (f := fun j => vD (f j)) h0 h1 hn
  have aA : A a := mem_dom hA he
  have efu : fu (fun j => vD (f j)) z (vD x) = fun j => vD (if j = z then x else f j) := by
    funext j
    unfold fu
    split <;> rfl
  refine W.dast hx hb (hP _ _ he).2 ((hKD.2 7 _ rfl).1 N _) (fun q => by cases q) g.1 rfl rfl d fun H1 e1 z1 oq => ?_
  rw [iI_clamp (by omega)] at e1
  have hP1 := arr_put (v := vD x) hP he h0 h1 e1 oq
  rw [efu] at hP1
  exact K H1 _ ls hP1 (dom_hu hA aA) (hS.put z1 oq aA) hl
theorem z_aaload {a N : Nat} {f : Int → AV} {z : Int} (F : Fx p s m args meth c own cc nL G N0 A) (he : h a = some (eA 5 N f)) (h0 : 0 ≤ z) (h1 : z < N) (hn : z < 2147483648) (d : decode cc pc = .ok (.aaload, 1))
    (K : Z p l e R s m args below meth c nL G N0 A Q h k n (pc + 1) lv (f z :: st)) : Z p l e R s m args below meth c nL G N0 A Q h k n pc lv (vI z :: vR a :: st) := by
  obtain ⟨hx, hb, hml, hown, hts, hlocks, hKD, hSF, hA0, hAN⟩ := F
  intro H locs ls hP hA hS hl
  have g := ald_in (cA := G.2.1 5) (f := f) h0 h1 hn
  exact W.aald (v := cv (f z)) (ty := .object "java/lang/Object") hx hb (hP _ _ he).2 ((hKD.2 5 _ rfl).1 N _) rfl (fun q => by cases q) g.1 g.2 rfl rfl d (K H locs ls hP hA hS hl)
theorem z_aastore {a b ci N : Nat} {f : Int → AV} {z : Int} {fs : List AV} (F : Fx p s m args meth c own cc nL G N0 A) (he : h a = some (eA 5 N f)) (hv : h b = some (eO ci fs)) (hw : ∀ r : vw_C, kCl[ci]? = some r → (r.1, "java/lang/Object") ∈ castL) (h0 : 0 ≤ z) (h1 : z < N) (hn : z < 2147483648) (d : decode cc pc = .ok (.aastore, 1))
    (K : Z p l e R s m args below meth c nL G N0 A Q (hu h a (eA 5 N (fu f z (vR b)))) k n (pc + 1) lv st) : Z p l e R s m args below meth c nL G N0 A Q h k n pc lv (vR b :: vI z :: vR a :: st) := by
  obtain ⟨hx, hb, hml, hown, hts, hlocks, hKD, hSF, hA0, hAN⟩ := F
  intro H locs ls hP hA hS hl
  have g := ald_in (cA := G.2.1 5) (f := f) h0 h1 hn
  obtain ⟨r, hr, cellV, g1, g2, g3, -⟩ := (hP _ _ hv).2
  have hcls := (hKD.1 ci r hr).2
  obtain ⟨kA, comp, k1, k2, k3, -⟩ := (hKD.2 5 _ rfl).2
  obtain ⟨kE, hkE, -⟩ := Vm.findClass_spec k3
  obtain ⟨c0, t1, f1, f2, f3⟩ := Cond.castable_spec (va_Nw.use (A := args) rfl (hSF.2.2.2.2.2.1.2.1 _ (hw r hr)))
  cases hcls.1.symm.trans f1
  cases k3.symm.trans f2
  obtain ⟨kC, hkC, -⟩ := hcls.2
  refine W.aast hx hb (hP _ _ he).2 (fun q h => by cases h) (fun h => by cases h) k1 k2 rfl hkE ⟨fun q => g.1 (Or.inl q), Nat.not_le.mp (fun q => g.1 (Or.inr q))⟩ g1 (fun q h => by rw [g3] at h; cases h) (by rw [g2]; exact hkC) (by rw [g2]; exact f3) rfl rfl d fun H1 e1 z1 oq => ?_
  have aA : A a := mem_dom hA he
  rw [iI_clamp (by omega)] at e1
  exact K H1 _ ls (arr_put hP he h0 h1 e1 oq) (dom_hu hA aA) (hS.put z1 oq aA) hl
theorem z_aastoreN {a N : Nat} {f : Int → AV} {z : Int} (F : Fx p s m args meth c own cc nL G N0 A) (he : h a = some (eA 5 N f)) (h0 : 0 ≤ z) (h1 : z < N) (hn : z < 2147483648) (d : decode cc pc = .ok (.aastore, 1))
    (K : Z p l e R s m args below meth c nL G N0 A Q (hu h a (eA 5 N (fu f z vN))) k n (pc + 1) lv st) : Z p l e R s m args below meth c nL G N0 A Q h k n pc lv (vN :: vI z :: vR a :: st) := by
  obtain ⟨hx, hb, hml, hown, hts, hlocks, hKD, hSF, hA0, hAN⟩ := F
  intro H locs ls hP hA hS hl
  have g := ald_in (cA := G.2.1 5) (f := f) h0 h1 hn
  refine va_WaastN (C := "java/lang/Object") hx hb (hP _ _ he).2 ((hKD.2 5 _ rfl).1 N _) (fun h => by cases h) g.1 rfl rfl d fun H1 e1 z1 oq => ?_
  have aA : A a := mem_dom hA he
  rw [iI_clamp (by omega)] at e1
  exact K H1 _ ls (arr_put (v := vN) hP he h0 h1 e1 oq) (dom_hu hA aA) (hS.put z1 oq aA) hl
theorem z_alen {a kk N : Nat} {f : Int → AV} (F : Fx p s m args meth c own cc nL G N0 A) (he : h a = some (eA kk N f)) (hk8 : kk < 8) (d : decode cc pc = .ok (.arraylength, 1))
    (K : Z p l e R s m args below meth c nL G N0 A Q h k n (pc + 1) lv (vI (N : Int) :: st)) : Z p l e R s m args below meth c nL G N0 A Q h k n pc lv (vR a :: st) := by
  obtain ⟨hx, hb, hml, hown, hts, hlocks, hKD, hSF, hA0, hAN⟩ := F
  intro H locs ls hP hA hS hl
  have ht : ∃ ty, (kTys G.2.1)[kk]? = some (G.2.1 kk, ty) := by
    rcases (show kk = 0 ∨ kk = 1 ∨ kk = 2 ∨ kk = 3 ∨ kk = 4 ∨ kk = 5 ∨ kk = 6 ∨ kk = 7 by omega) with rfl | rfl | rfl | rfl | rfl | rfl | rfl | rfl <;> exact ⟨_, rfl⟩
  obtain ⟨ty, ht⟩ := ht
  refine W.alen (n := iI (N : Int)) hx hb (hP _ _ he).2 ((hKD.2 kk _ ht).1 N _) ?_ rfl rfl d (K H locs ls hP hA hS hl)
  rw [arrV_size]
  exact (Int32.ofInt_eq_ofNat (n := N)).symm
theorem newarr_id {G : GG} {U : State} (hKD : KD G U) {kk : Nat} {ty : FieldType} {cA : ClassId} (ht : (kTys G.2.1)[kk]? = some (G.2.1 kk, ty)) (hno : ∀ C, ty ≠ .object C) (hc : U.vm.findClass ("[" ++ ty.toString) = some cA) : cA = G.2.1 kk := by
  have h2 := (hKD.2 kk _ ht).2
  have h3 : U.vm.findClass ("[" ++ ty.toString) = some (G.2.1 kk) := by
    cases ty <;> first | exact h2 | exact absurd rfl (hno _)
  exact Option.some.inj (hc.symm.trans h3)
theorem z_newarr {atype : ArrayType} {kk N : Nat} {z : Int} {v0 : AV} {ty : FieldType} (F : Fx p s m args meth c own cc nL G N0 A) (hty : newarray.typeOf atype = ty) (hw : Cond.arrayClass ty ∈ LW) (ht : (kTys G.2.1)[kk]? = some (G.2.1 kk, ty)) (hno : ∀ C, ty ≠ .object C) (hv0 : defaultValue ty = cv v0) (hz : z = (N : Int)) (hbytes : N * componentBytes ty ≤ 536870912) (hN31 : N < 2147483648) (hc1 : k + 1 ≤ R.cells) (hc2 : n + N ≤ R.slots) (d : decode cc pc = .ok (.newarray atype, 2))
    (K : ∀ q : Nat, h q = none → Z p l e R s m args below meth c nL G N0 A Q (hu h q (eA kk N (fun _ => v0))) (k + 1) (n + N) (pc + 2) lv (vR q :: st)) : Z p l e R s m args below meth c nL G N0 A Q h k n pc lv (vI z :: st) := by
  obtain ⟨hx, hb, hml, hown, hts, hlocks, hKD, hSF, hA0, hAN⟩ := F
  intro H locs ls hP hA hS hl
  subst hty
  subst hz
  refine va_newaK (n := iI (N : Int)) (N := N) hx hb (hts _ hw) rfl d rfl ?_ (by rw [iI_clamp (by omega)]; omega) hbytes hc1 hc2 rfl fun H1 cA e1 z1 o1 hAr hNm => ?_
  · rw [show (0 : Int32) = iI 0 by decide, iI_lt (by omega) (by omega)]
    omega
  · have hcA := newarr_id hKD ht hno hNm
    subst hcA
    have hq := hP.fresh
    refine K H.size hq H1 locs ls (hP.put (Nat.le_trans hSF.1 hS.1) ?_ (fun b _ hb => o1 b hb)) (dom_hu hA (hA0 _ hS.1)) ⟨Nat.le_trans hS.1 (by omega), fun x h1 h2 => (o1 x (Nat.lt_of_lt_of_le h1 hS.1)).trans (hS.2.1 x h1 h2), hS.2.2⟩ hl
    show H1[H.size]? = some (arrV _ _ _)
    rw [e1, hv0]
theorem z_anew {idx N : Nat} {z : Int} (F : Fx p s m args meth c own cc nL G N0 A) (hcl : Cond.classLink own idx "java/lang/Object" ∈ LW) (hz : z = (N : Int)) (hbytes : N * 4 ≤ 536870912) (hN31 : N < 2147483648) (hc1 : k + 1 ≤ R.cells) (hc2 : n + N ≤ R.slots) (d : decode cc pc = .ok (.anewarray idx, 3))
    (K : ∀ q : Nat, h q = none → Z p l e R s m args below meth c nL G N0 A Q (hu h q (eA 5 N (fun _ => vN))) (k + 1) (n + N) (pc + 3) lv (vR q :: st)) : Z p l e R s m args below meth c nL G N0 A Q h k n pc lv (vI z :: st) := by
  obtain ⟨hx, hb, hml, hown, hts, hlocks, hKD, hSF, hA0, hAN⟩ := F
  intro H locs ls hP hA hS hl
  subst hz
  have ec : (iI (N : Int)).toNatClampNeg = N := by rw [iI_clamp (by omega)]; omega
  refine W.anew (n := iI (N : Int)) hx hb hown (hts _ hcl) (va_AO.use hSF.2.2.2.2.2.1.2.2.2.1) rfl d rfl ?_ (by rw [ec]; exact hbytes) hc1 (by rw [ec]; exact hc2) fun cA kA comp f1 f2 f3 f4 => ?_
  · rw [show (0 : Int32) = iI 0 by decide, iI_lt (by omega) (by omega)]
    omega
  · obtain ⟨kA2, comp2, k1, k2, k3, k4⟩ := (hKD.2 5 _ rfl).2
    have hcA : cA = G.2.1 5 := Option.some.inj (f1.symm.trans k4)
    subst hcA
    have hq := hP.fresh
    rw [ec]
    refine K H.size hq _ locs ls (hP.put (Nat.le_trans hSF.1 hS.1) ?_ (fun b _ hb => ?_)) (dom_hu hA (hA0 _ hS.1)) ⟨?_, fun x h1 h2 => ?_, hS.2.2⟩ hl
    · show (H.push _)[H.size]? = some (arrV _ _ _)
      rw [Array.getElem?_push_size, arrV_new]
      rfl
    · rw [Array.getElem?_push, if_neg (Nat.ne_of_lt hb)]
    · rw [Array.size_push]; exact Nat.le_trans hS.1 (by omega)
    · rw [Array.getElem?_push, if_neg (Nat.ne_of_lt (Nat.lt_of_lt_of_le h1 hS.1))]
      exact hS.2.1 x h1 h2
theorem hAH {F0' : Nat → Prop} {G : GG} {N0 : Nat} (hAN : ∀ q, A q → N0 ≤ q) {H : Heap} {locs : List Loc} {s : State} (hS : va_S A s.heap H locs) (hSF : SF G N0 s s.heap) : va_S (fun q => N0 ≤ q) s.heap H locs := ⟨hS.1, fun q h1 h2 => hS.2.1 q h1 (fun z => h2 (hAN q z)), fun q hq => hAN _ (hS.2.2 q hq)⟩
/-- the empty list's array -/
theorem z_getE {idx : Nat} (F : Fx p s m args meth c own cc nL G N0 A) (hlink : Cond.fieldLink own idx "java/util/ArrayList" "DEFAULTCAPACITY_EMPTY_ELEMENTDATA" "[Ljava/lang/Object;" ∈ LW) (d : decode cc pc = .ok (.getstatic idx, 3))
    (K : Z p l e R s m args below meth c nL G N0 A Q h k n (pc + 3) lv (vR (G.2.2 0) :: st)) : Z p l e R s m args below meth c nL G N0 A Q h k n pc lv st := by
  obtain ⟨hx, hb, hml, hown, hts, hlocks, hKD, hSF, hA0, hAN⟩ := F
  intro H locs ls hP hA hS hl
  exact va_gets hx hb hSF.2.1 (hAH (F0' := A) hAN hS hSF) hown (hts _ hlink) (fun _ z => z) d (K H locs ls hP hA hS hl)
theorem z_alenE (F : Fx p s m args meth c own cc nL G N0 A) (d : decode cc pc = .ok (.arraylength, 1))
    (K : Z p l e R s m args below meth c nL G N0 A Q h k n (pc + 1) lv (vI 0 :: st)) : Z p l e R s m args below meth c nL G N0 A Q h k n pc lv (vR (G.2.2 0) :: st) := by
  obtain ⟨hx, hb, hml, hown, hts, hlocks, hKD, hSF, hA0, hAN⟩ := F
  intro H locs ls hP hA hS hl
  exact va_tlen (v := iI 0) hx hb hSF.2.2.1 (hAH (F0' := A) hAN hS hSF) (by decide) d (K H locs ls hP hA hS hl)
theorem z_cast {a ci idx : Nat} {fs : List AV} {nm : String} (F : Fx p s m args meth c own cc nL G N0 A) (he : h a = some (eO ci fs)) (hcl : Cond.classLink own idx nm ∈ LW) (hc : ∀ r : vw_C, kCl[ci]? = some r → r.1 = nm) (d : decode cc pc = .ok (.checkcast idx, 3))
    (K : Z p l e R s m args below meth c nL G N0 A Q h k n (pc + 3) lv (vR a :: st)) : Z p l e R s m args below meth c nL G N0 A Q h k n pc lv (vR a :: st) := by
  obtain ⟨hx, hb, hml, hown, hts, hlocks, hKD, hSF, hA0, hAN⟩ := F
  intro H locs ls hP hA hS hl
  obtain ⟨r, hr, cell, g1, g2, g3, -⟩ := (hP _ _ he).2
  have hcls := (hKD.1 ci r hr).2
  have e1 := hc r hr
  subst e1
  exact va_castS hx hb hown (hts _ hcl) hcls ⟨cell, g1, by rw [g3]; rfl, by rw [g2]; exact hcls.1⟩ d (K H locs ls hP hA hS hl)

theorem rI {z w : Int} (h : z = w) : some (vI z) = some (vI w) := by rw [h]
theorem s_hu {h h1 : Hp} {a b : Nat} {e e1 : AE} (eh : hu h a e = h1) (hn : b ≠ a) (hb : h b = some e1) : h1 b = some e1 := by rw [← eh, hu_n h e hn]; exact hb
/-! calls, entries, ends, throws -/
def rl (r : Option AV) (st : List AV) : List AV := match r with
  | some v => v :: st
  | none => st
theorem rl_map (r : Option AV) (st : List AV) : (r.map cv).toList ++ st.map cv = (rl r st).map cv := by cases r <;> rfl
def lvA : Nat → List AV → List (Nat × AV)
  | _, [] => []
  | i, v :: vs => (i, v) :: lvA (if cat2 v = true then i + 2 else i + 1) vs
theorem lvA_args : ∀ (as : List AV) (i : Nat), lvc (lvA i as) = lv_args i (as.map cv)
  | [], _ => rfl
  | v :: vs, i => by
    show (i, cv v) :: lvc (lvA _ vs) = (i, cv v) :: lv_args _ (vs.map cv)
    rw [lvA_args vs, ← cat2_cv v]
    simp only [beq_iff_eq]
def catS : List AV → Nat
  | [] => 0
  | v :: vs => (if cat2 v = true then 2 else 1) + catS vs
theorem catS_map : ∀ st : List AV, ((st.map cv).map fun v => v.category).sum = catS st
  | [] => rfl
  | v :: vs => by
    simp only [List.map_cons, List.sum_cons, catS, catS_map vs]
    congr 1
    have h := cat2_cv v
    rcases lv_cat (cv v) with q | q
    · rw [q]; rw [q] at h; simp at h; rw [h]; rfl
    · rw [q]; rw [q] at h; simp at h; rw [h]; rfl
def lenA (as : List AV) : Nat := catS as
theorem lenA_sl : ∀ as : List AV, (lg_sl (as.map cv)).length = lenA as
  | [] => rfl
  | v :: vs => by
    have ih := lenA_sl vs
    unfold lg_sl at ih ⊢
    rw [List.map_cons, List.flatMap_cons, List.length_append, ih]
    show _ = (if cat2 v = true then 2 else 1) + catS vs
    congr 1
    have h := cat2_cv v
    rcases lv_cat (cv v) with q | q
    · rw [if_neg (by rw [q]; decide)]; rw [q] at h; simp at h; rw [h]; rfl
    · rw [if_pos q]; rw [q] at h; simp at h; rw [h]; rfl
theorem cA_N {h : Hp} {sz : Nat} {H : Heap} (hP : WP G N0 h H) (hz : N0 ≤ sz) (q : Nat) (hq : cA h sz q) : N0 ≤ q := by
  rcases hq with hq | hq
  · cases hh : h q with
    | none => exact absurd hh hq
    | some e9 => exact (hP q e9 hh).1
  · exact Nat.le_trans hz hq
theorem entry_Z {h : Hp} {as : List AV} {maxL : Nat} {Q : State → Prop} (hP : WP G N0 h s.heap) (hlen : (lenA as).ble maxL = true)
    (K : Z p l e R s m args below meth c maxL G N0 (cA h s.heap.size) Q h 0 0 0 (lvA 0 as) []) : W p l e R s m args below meth c s.heap [] 0 0 Q (entryFrame m (as.map cv).toArray maxL) := by
  have hl := lv_entry (as.map cv) (n := maxL) (by rw [lenA_sl]; exact Nat.le_of_ble_eq_true hlen)
  rw [lg_entry_eq]
  generalize (lg_sl (as.map cv) ++ List.replicate (maxL - (lg_sl (as.map cv)).length) Slot.unset).toArray = ls at hl ⊢
  rw [← lvA_args] at hl
  exact K s.heap [] ls hP (fun _ z => Or.inl z) va_S.rf hl
/-- a method that returns -/
theorem ct_of {y : MethodName} {maxL : Nat} {ret : Option FieldType} {rm : Room} {as : List AV} {P : Option AV → Hp → Prop} {bc : ByteArray} (hy : plainName y.cls = true) (hlen : (lenA as).ble maxL = true)
    (body : ∀ (p : Program) (e : Env) (s : State) (m : MethodId) (args : Array Value) (below : List Frame) (meth : Method) (c : Code), Fx p s m args meth c y.cls bc maxL G N0 (cA h s.heap.size) → meth.sig.returnType = ret → meth.name = y.name →
      Z p l e rm s m args below meth c maxL G N0 (cA h s.heap.size) (MQ below (cQc G N0 h s.heap.size P) args s rm.cells rm.slots (cA h s.heap.size)) h 0 0 0 (lvA 0 as) []) : Ct l G N0 y (Cond.code y bc maxL ret :: LW) rm as h P := by
  intro sz
  refine Met.ofW (cc := bc) (maxL := maxL) (ret := ret) hy rfl ?_
  intro p e s m args below meth c s₁ B hml hv
  obtain ⟨rfl, rfl, hP, hKD, hSF⟩ := hv
  have hts := atoms_spec (ws := Cond.code y bc maxL ret :: LW) B.pre
  exact entry_Z hP hlen (body p e s m _ below meth c ⟨B.exec, B.bytes, hml, findClass_of_methodNamed B.named, fun w hw => hts w (List.mem_cons_of_mem _ hw), B.notSynchronized, hKD, hSF, fun q hq => Or.inr hq, fun q hq => cA_N hP hSF.1 q hq⟩ B.returns (name_of_methodNamed B.named B.method).1)
/-- .. that returns or throws -/
theorem ctX_of {y : MethodName} {maxL : Nat} {ret : Option FieldType} {rm : Room} {as : List AV} {P : Option AV → Hp → Prop} {X : String → Hp → Prop} {bc : ByteArray} (hy : plainName y.cls = true) (hlen : (lenA as).ble maxL = true)
    (body : ∀ (p : Program) (e : Env) (s : State) (m : MethodId) (args : Array Value) (below : List Frame) (meth : Method) (c : Code), Fx p s m args meth c y.cls bc maxL G N0 (cA h s.heap.size) → meth.sig.returnType = ret → (∀ x ∈ c.exceptionTable.toList, False) →
      Z p l e rm s m args below meth c maxL G N0 (cA h s.heap.size) (vx_MQ below (cQc G N0 h s.heap.size P) (cXC G N0 h s.heap.size X) args s rm.cells rm.slots (cA h s.heap.size)) h 0 0 0 (lvA 0 as) []) : CtX l G N0 y (Cond.code y bc maxL ret :: LW) rm as h P X := by
  intro sz
  refine vx_ofW (cc := bc) (maxL := maxL) (ret := ret) hy rfl ?_
  intro p e s m args below meth c s₁ B hml htab hv
  obtain ⟨rfl, rfl, hP, hKD, hSF⟩ := hv
  have hts := atoms_spec (ws := Cond.code y bc maxL ret :: LW) B.pre
  exact entry_Z hP hlen (body p e s m _ below meth c ⟨B.exec, B.bytes, hml, findClass_of_methodNamed B.named, fun w hw => hts w (List.mem_cons_of_mem _ hw), B.notSynchronized, hKD, hSF, fun q hq => Or.inr hq, fun q hq => cA_N hP hSF.1 q hq⟩ B.returns htab)
theorem z_iret {h0 : Hp} {mc0 ms0 : Nat} {P0 : Option AV → Hp → Prop} {z : Int} {ty : FieldType} (hnf : NF ty (vI z)) (F : Fx p s m args meth c own cc nL G N0 (cA h0 s.heap.size)) (hr : meth.sig.returnType = some ty) (hmc : k ≤ mc0) (hms : n ≤ ms0) (d : decode cc pc = .ok (.ireturn, 1))
    (K : P0 (some (vI z)) h) : Z p l e R s m args below meth c nL G N0 (cA h0 s.heap.size) (MQ below (cQc G N0 h0 s.heap.size P0) args s mc0 ms0 (cA h0 s.heap.size)) h k n pc lv [vI z] := by
  obtain ⟨hx, hb, hml, hown, hts, hlocks, hKD, hSF, hA0, hAN⟩ := F
  intro H locs ls hP hA hS hl
  refine W.widen hmc hms ?_
  exact W.zret hx hb hr hnf.1 (fun t ht hW => ⟨(some (vI z)), h, rfl, K, fun a9 ha => hA a9 ha, by rw [ht]; exact hP, hS.F ht⟩) hS.2.2 d hlocks
theorem z_fret {h0 : Hp} {mc0 ms0 : Nat} {P0 : Option AV → Hp → Prop} {z : UInt32} (F : Fx p s m args meth c own cc nL G N0 (cA h0 s.heap.size)) (hr : meth.sig.returnType = some .float) (hmc : k ≤ mc0) (hms : n ≤ ms0) (d : decode cc pc = .ok (.freturn, 1))
    (K : P0 (some (vF z)) h) : Z p l e R s m args below meth c nL G N0 (cA h0 s.heap.size) (MQ below (cQc G N0 h0 s.heap.size P0) args s mc0 ms0 (cA h0 s.heap.size)) h k n pc lv [vF z] := by
  obtain ⟨hx, hb, hml, hown, hts, hlocks, hKD, hSF, hA0, hAN⟩ := F
  intro H locs ls hP hA hS hl
  refine W.widen hmc hms ?_
  exact W.fret hx hb hr (fun t ht hW => ⟨(some (vF z)), h, rfl, K, fun a9 ha => hA a9 ha, by rw [ht]; exact hP, hS.F ht⟩) hS.2.2 d hlocks
theorem z_dret {h0 : Hp} {mc0 ms0 : Nat} {P0 : Option AV → Hp → Prop} {z : UInt64} (F : Fx p s m args meth c own cc nL G N0 (cA h0 s.heap.size)) (hr : meth.sig.returnType = some .double) (hmc : k ≤ mc0) (hms : n ≤ ms0) (d : decode cc pc = .ok (.dreturn, 1))
    (K : P0 (some (vD z)) h) : Z p l e R s m args below meth c nL G N0 (cA h0 s.heap.size) (MQ below (cQc G N0 h0 s.heap.size P0) args s mc0 ms0 (cA h0 s.heap.size)) h k n pc lv [vD z] := by
  obtain ⟨hx, hb, hml, hown, hts, hlocks, hKD, hSF, hA0, hAN⟩ := F
  intro H locs ls hP hA hS hl
  refine W.widen hmc hms ?_
  exact W.dret hx hb hr (fun t ht hW => ⟨(some (vD z)), h, rfl, K, fun a9 ha => hA a9 ha, by rw [ht]; exact hP, hS.F ht⟩) hS.2.2 d hlocks
theorem z_lret {h0 : Hp} {mc0 ms0 : Nat} {P0 : Option AV → Hp → Prop} {z : Int} (F : Fx p s m args meth c own cc nL G N0 (cA h0 s.heap.size)) (hr : meth.sig.returnType = some .long) (hmc : k ≤ mc0) (hms : n ≤ ms0) (d : decode cc pc = .ok (.lreturn, 1))
    (K : P0 (some (vL z)) h) : Z p l e R s m args below meth c nL G N0 (cA h0 s.heap.size) (MQ below (cQc G N0 h0 s.heap.size P0) args s mc0 ms0 (cA h0 s.heap.size)) h k n pc lv [vL z] := by
  obtain ⟨hx, hb, hml, hown, hts, hlocks, hKD, hSF, hA0, hAN⟩ := F
  intro H locs ls hP hA hS hl
  refine W.widen hmc hms ?_
  exact W.lret hx hb hr (fun t ht hW => ⟨(some (vL z)), h, rfl, K, fun a9 ha => hA a9 ha, by rw [ht]; exact hP, hS.F ht⟩) hS.2.2 d hlocks
theorem z_aret {h0 : Hp} {mc0 ms0 : Nat} {P0 : Option AV → Hp → Prop} {z : Nat} {ty : FieldType} (hty : (∃ n, ty = .object n) ∨ ∃ t, ty = .array t) (F : Fx p s m args meth c own cc nL G N0 (cA h0 s.heap.size)) (hr : meth.sig.returnType = some ty) (hmc : k ≤ mc0) (hms : n ≤ ms0) (d : decode cc pc = .ok (.areturn, 1))
    (K : P0 (some (vR z)) h) : Z p l e R s m args below meth c nL G N0 (cA h0 s.heap.size) (MQ below (cQc G N0 h0 s.heap.size P0) args s mc0 ms0 (cA h0 s.heap.size)) h k n pc lv [vR z] := by
  obtain ⟨hx, hb, hml, hown, hts, hlocks, hKD, hSF, hA0, hAN⟩ := F
  intro H locs ls hP hA hS hl
  refine W.widen hmc hms ?_
  exact W.aret hx hb hr hty (Or.inr ⟨z, rfl⟩) (fun t ht hW => ⟨(some (vR z)), h, rfl, K, fun a9 ha => hA a9 ha, by rw [ht]; exact hP, hS.F ht⟩) hS.2.2 d hlocks
theorem z_vret {h0 : Hp} {mc0 ms0 : Nat} {P0 : Option AV → Hp → Prop} (F : Fx p s m args meth c own cc nL G N0 (cA h0 s.heap.size)) (hr : meth.sig.returnType = none) (hmc : k ≤ mc0) (hms : n ≤ ms0) (d : decode cc pc = .ok (.return_, 1))
    (K : P0 none h) : Z p l e R s m args below meth c nL G N0 (cA h0 s.heap.size) (MQ below (cQc G N0 h0 s.heap.size P0) args s mc0 ms0 (cA h0 s.heap.size)) h k n pc lv [] := by
  obtain ⟨hx, hb, hml, hown, hts, hlocks, hKD, hSF, hA0, hAN⟩ := F
  intro H locs ls hP hA hS hl
  refine W.widen hmc hms ?_
  exact W.vret hx hb hr (fun t ht hW => ⟨none, h, rfl, K, fun a9 ha => hA a9 ha, by rw [ht]; exact hP, hS.F ht⟩) hS.2.2 d hlocks
theorem z_iretX {h0 : Hp} {mc0 ms0 : Nat} {P0 : Option AV → Hp → Prop} {X0 : String → Hp → Prop} {z : Int} {ty : FieldType} (hnf : NF ty (vI z)) (F : Fx p s m args meth c own cc nL G N0 (cA h0 s.heap.size)) (hr : meth.sig.returnType = some ty) (hmc : k ≤ mc0) (hms : n ≤ ms0) (d : decode cc pc = .ok (.ireturn, 1))
    (K : P0 (some (vI z)) h) : Z p l e R s m args below meth c nL G N0 (cA h0 s.heap.size) (vx_MQ below (cQc G N0 h0 s.heap.size P0) (cXC G N0 h0 s.heap.size X0) args s mc0 ms0 (cA h0 s.heap.size)) h k n pc lv [vI z] := by
  obtain ⟨hx, hb, hml, hown, hts, hlocks, hKD, hSF, hA0, hAN⟩ := F
  intro H locs ls hP hA hS hl
  refine vx_ret ?_
  refine W.widen hmc hms ?_
  exact W.zret hx hb hr hnf.1 (fun t ht hW => ⟨(some (vI z)), h, rfl, K, fun a9 ha => hA a9 ha, by rw [ht]; exact hP, hS.F ht⟩) hS.2.2 d hlocks
theorem z_fretX {h0 : Hp} {mc0 ms0 : Nat} {P0 : Option AV → Hp → Prop} {X0 : String → Hp → Prop} {z : UInt32} (F : Fx p s m args meth c own cc nL G N0 (cA h0 s.heap.size)) (hr : meth.sig.returnType = some .float) (hmc : k ≤ mc0) (hms : n ≤ ms0) (d : decode cc pc = .ok (.freturn, 1))
    (K : P0 (some (vF z)) h) : Z p l e R s m args below meth c nL G N0 (cA h0 s.heap.size) (vx_MQ below (cQc G N0 h0 s.heap.size P0) (cXC G N0 h0 s.heap.size X0) args s mc0 ms0 (cA h0 s.heap.size)) h k n pc lv [vF z] := by
  obtain ⟨hx, hb, hml, hown, hts, hlocks, hKD, hSF, hA0, hAN⟩ := F
  intro H locs ls hP hA hS hl
  refine vx_ret ?_
  refine W.widen hmc hms ?_
  exact W.fret hx hb hr (fun t ht hW => ⟨(some (vF z)), h, rfl, K, fun a9 ha => hA a9 ha, by rw [ht]; exact hP, hS.F ht⟩) hS.2.2 d hlocks
theorem z_dretX {h0 : Hp} {mc0 ms0 : Nat} {P0 : Option AV → Hp → Prop} {X0 : String → Hp → Prop} {z : UInt64} (F : Fx p s m args meth c own cc nL G N0 (cA h0 s.heap.size)) (hr : meth.sig.returnType = some .double) (hmc : k ≤ mc0) (hms : n ≤ ms0) (d : decode cc pc = .ok (.dreturn, 1))
    (K : P0 (some (vD z)) h) : Z p l e R s m args below meth c nL G N0 (cA h0 s.heap.size) (vx_MQ below (cQc G N0 h0 s.heap.size P0) (cXC G N0 h0 s.heap.size X0) args s mc0 ms0 (cA h0 s.heap.size)) h k n pc lv [vD z] := by
  obtain ⟨hx, hb, hml, hown, hts, hlocks, hKD, hSF, hA0, hAN⟩ := F
  intro H locs ls hP hA hS hl
  refine vx_ret ?_
  refine W.widen hmc hms ?_
  exact W.dret hx hb hr (fun t ht hW => ⟨(some (vD z)), h, rfl, K, fun a9 ha => hA a9 ha, by rw [ht]; exact hP, hS.F ht⟩) hS.2.2 d hlocks
theorem z_lretX {h0 : Hp} {mc0 ms0 : Nat} {P0 : Option AV → Hp → Prop} {X0 : String → Hp → Prop} {z : Int} (F : Fx p s m args meth c own cc nL G N0 (cA h0 s.heap.size)) (hr : meth.sig.returnType = some .long) (hmc : k ≤ mc0) (hms : n ≤ ms0) (d : decode cc pc = .ok (.lreturn, 1))
    (K : P0 (some (vL z)) h) : Z p l e R s m args below meth c nL G N0 (cA h0 s.heap.size) (vx_MQ below (cQc G N0 h0 s.heap.size P0) (cXC G N0 h0 s.heap.size X0) args s mc0 ms0 (cA h0 s.heap.size)) h k n pc lv [vL z] := by
  obtain ⟨hx, hb, hml, hown, hts, hlocks, hKD, hSF, hA0, hAN⟩ := F
  intro H locs ls hP hA hS hl
  refine vx_ret ?_
  refine W.widen hmc hms ?_
  exact W.lret hx hb hr (fun t ht hW => ⟨(some (vL z)), h, rfl, K, fun a9 ha => hA a9 ha, by rw [ht]; exact hP, hS.F ht⟩) hS.2.2 d hlocks
theorem z_aretX {h0 : Hp} {mc0 ms0 : Nat} {P0 : Option AV → Hp → Prop} {X0 : String → Hp → Prop} {z : Nat} {ty : FieldType} (hty : (∃ n, ty = .object n) ∨ ∃ t, ty = .array t) (F : Fx p s m args meth c own cc nL G N0 (cA h0 s.heap.size)) (hr : meth.sig.returnType = some ty) (hmc : k ≤ mc0) (hms : n ≤ ms0) (d : decode cc pc = .ok (.areturn, 1))
    (K : P0 (some (vR z)) h) : Z p l e R s m args below meth c nL G N0 (cA h0 s.heap.size) (vx_MQ below (cQc G N0 h0 s.heap.size P0) (cXC G N0 h0 s.heap.size X0) args s mc0 ms0 (cA h0 s.heap.size)) h k n pc lv [vR z] := by
  obtain ⟨hx, hb, hml, hown, hts, hlocks, hKD, hSF, hA0, hAN⟩ := F
  intro H locs ls hP hA hS hl
  refine vx_ret ?_
  refine W.widen hmc hms ?_
  exact W.aret hx hb hr hty (Or.inr ⟨z, rfl⟩) (fun t ht hW => ⟨(some (vR z)), h, rfl, K, fun a9 ha => hA a9 ha, by rw [ht]; exact hP, hS.F ht⟩) hS.2.2 d hlocks
theorem z_vretX {h0 : Hp} {mc0 ms0 : Nat} {P0 : Option AV → Hp → Prop} {X0 : String → Hp → Prop} (F : Fx p s m args meth c own cc nL G N0 (cA h0 s.heap.size)) (hr : meth.sig.returnType = none) (hmc : k ≤ mc0) (hms : n ≤ ms0) (d : decode cc pc = .ok (.return_, 1))
    (K : P0 none h) : Z p l e R s m args below meth c nL G N0 (cA h0 s.heap.size) (vx_MQ below (cQc G N0 h0 s.heap.size P0) (cXC G N0 h0 s.heap.size X0) args s mc0 ms0 (cA h0 s.heap.size)) h k n pc lv [] := by
  obtain ⟨hx, hb, hml, hown, hts, hlocks, hKD, hSF, hA0, hAN⟩ := F
  intro H locs ls hP hA hS hl
  refine vx_ret ?_
  refine W.widen hmc hms ?_
  exact W.vret hx hb hr (fun t ht hW => ⟨none, h, rfl, K, fun a9 ha => hA a9 ha, by rw [ht]; exact hP, hS.F ht⟩) hS.2.2 d hlocks
/-- behind a call -/
theorem z_after {H : Heap} {locs : List Loc} {ls : Array Slot} {mc ms : Nat} {P : Option AV → Hp → Prop} {a9 : Array Value} {st0 : List Value} (F : Fx p s m args meth c own cc nL G N0 A) (hA : ∀ a, h a ≠ none → A a) (hS : va_S A s.heap H locs) (hl : lv_has ls nL (lvc lv))
    (hr : va_Run p l e R s m args below meth c H locs k n mc ms (F0 m pc ls st0) (st.map cv) (cQc G N0 h H.size P a9) (cA h H.size))
    (K : ∀ (r : Option AV) (h' : Hp), P r h' → Z p l e R s m args below meth c nL G N0 A Q h' (k + mc) (n + ms) (pc + 3) lv (rl r st)) : W p l e R s m args below meth c H locs k n Q (F0 m pc ls st0) := by
  obtain ⟨hx, hb, hml, hown, hts, hlocks, hKD, hSF, hA0, hAN⟩ := F
  intro T hT X
  obtain ⟨v, st₀, t, T', L, h0, X', hL, e1, e2, ⟨r, h', hv, hp, hdom, hWP, hz, hk⟩, stp⟩ := hr T hT X
  cases hv
  rw [h0] at hz hk
  have hcA : ∀ q, cA h H.size q → A q := fun q hq => hq.elim (hA q) (fun z => hA0 q (Nat.le_trans hS.1 z))
  have K1 := K r h' hp T'.heap (locs ++ L) ls (by rw [e1]; exact hWP) (fun a9 ha => (hdom a9 ha).elim (hA a9) (fun z => hA0 a9 (Nat.le_trans hS.1 z)))
    ⟨Nat.le_trans hS.1 (by rw [e1]; exact hz), fun q h1 h2 => by rw [e1, hk q (Nat.lt_of_lt_of_le h1 hS.1) (fun z => h2 (hcA q z))]; exact hS.2.1 q h1 h2, fun q hq => by
      rcases List.mem_append.mp hq with z | z
      · exact hS.2.2 q z
      · exact hcA _ (hL q z)⟩ hl
  rw [← rl_map] at K1
  obtain ⟨t2, a1, b1⟩ := K1 T' rfl X'
  exact ⟨t2, stp t2 a1, b1⟩
theorem call_pre {H : Heap} {locs : List Loc} {As : List AV} (F : Fx p s m args meth c own cc nL G N0 A) (hP : WP G N0 h H) (hS : va_S A s.heap H locs) : ∀ U : State, U.heap = H → s.WarmedH U.vm → cPc G N0 h As H.size (As.map cv).toArray U := by
  obtain ⟨hx, hb, hml, hown, hts, hlocks, hKD, hSF, hA0, hAN⟩ := F
  intro U hU hW
  refine ⟨rfl, by rw [hU], by rw [hU]; exact hP, hKD.moved hW.alike, ?_⟩
  rw [hU]
  exact (hSF.kept hS.1 (fun a h1 h2 => hS.2.1 a h1 (fun z => h2 (hAN a z)))).moved hW
theorem recv_Z {H : Heap} {b ci : Nat} {fs : List AV} {C : String} (hKD : KD G s) (hP : WP G N0 h H) (he : h b = some (eO ci fs)) (hC : ∀ r : vw_C, kCl[ci]? = some r → r.1 = C) : ∃ cellB : Cell, H[b]? = some cellB ∧ cellB.vm.isStatics = false ∧ s.vm.findClass C = some cellB.cls := by
  obtain ⟨r, hr, cell, g1, g2, g3, -⟩ := (hP _ _ he).2
  have hcls := (hKD.1 ci r hr).2
  rw [← hC r hr]
  exact ⟨cell, g1, by rw [g3]; rfl, by rw [g2]; exact hcls.1⟩
section Calls9
variable {y : MethodName} {bc : ByteArray} {maxL idx b ci nA : Nat} {ret : Option FieldType} {rm : Room} {As : List AV} {fs : List AV} {P : Option AV → Hp → Prop} {C : String} {st0 : List AV}
theorem catZ {st : List AV} (hcat : (catS st).ble 8 = true) {ls : Array Slot} {q : List Value} : 2 * (F0 m pc ls q).monitorRoom + ((st.map cv).map fun v => v.category).sum ≤ 8 := lv_room (by rw [catS_map]; exact Nat.le_of_ble_eq_true hcat)
theorem z_callV (F : Fx p s m args meth c own cc nL G N0 A) (hM : Ct l G N0 y (Cond.code y bc maxL ret :: LW) rm (vR b :: As) h P) (hcv : CV own idx C y bc maxL ret nA) (he : h b = some (eO ci fs)) (hC : ∀ r : vw_C, kCl[ci]? = some r → r.1 = C) (hst : st0 = As.reverse ++ vR b :: st) (hn : As.length = nA) (hR : rm.frames + 1 ≤ R.frames ∧ 8 + (maxL + 11) + rm.locals ≤ R.locals) (hcat : (catS st).ble 8 = true) (hf : k + rm.cells ≤ R.cells ∧ n + rm.slots ≤ R.slots) (d : decode cc pc = .ok (.invokevirtual idx, 3))
    (K : ∀ (r : Option AV) (h' : Hp), P r h' → Z p l e R s m args below meth c nL G N0 A Q h' (k + rm.cells) (n + rm.slots) (pc + 3) lv (rl r st)) : Z p l e R s m args below meth c nL G N0 A Q h k n pc lv st0 := by
  intro H locs ls hP hA hS hl
  have F' := F
  obtain ⟨hx, hb, hml, hown, hts, hlocks, hKD, hSF, hA0, hAN⟩ := F'
  subst hst
  refine z_after F hA hS hl (va_runV (As := As.map cv) (rest := st.map cv) (b := b) ⟨hx, hb, hml, hown, hts⟩ (hM H.size) (cwV nA hts hcv.1 rfl rfl rfl hcv.2 hR) ⟨cPc_blind _ _ _ _ _, recv_Z hKD hP he hC, call_pre (As := vR b :: As) F hP hS⟩ rfl (by rw [List.length_map]; exact hn) hl.1 ?_ (catZ hcat) d hf) K
  show ((As.reverse ++ vR b :: st).map cv) = _
  rw [List.map_append, List.map_reverse]
  rfl
theorem z_callS (F : Fx p s m args meth c own cc nL G N0 A) (hM : Ct l G N0 y (Cond.code y bc maxL ret :: LW) rm As h P) (hcv : (Cond.methodLink own idx y ∈ LW ∧ Cond.static y ∈ LW ∧ Cond.initialized y.cls ∈ LW ∧ Cond.code y bc maxL ret ∈ LW) ∧ (y.cls ≠ "java/lang/invoke/MethodHandle" ∧ y.cls ≠ "java/lang/invoke/VarHandle" ∧ (parseMethodDescriptor y.desc).map (fun d => d.parameters.length) = some nA)) (hst : st0 = As.reverse ++ st) (hn : As.length = nA) (hR : rm.frames + 1 ≤ R.frames ∧ 8 + (maxL + 11) + rm.locals ≤ R.locals) (hcat : (catS st).ble 8 = true) (hf : k + rm.cells ≤ R.cells ∧ n + rm.slots ≤ R.slots) (d : decode cc pc = .ok (.invokestatic idx, 3))
    (K : ∀ (r : Option AV) (h' : Hp), P r h' → Z p l e R s m args below meth c nL G N0 A Q h' (k + rm.cells) (n + rm.slots) (pc + 3) lv (rl r st)) : Z p l e R s m args below meth c nL G N0 A Q h k n pc lv st0 := by
  intro H locs ls hP hA hS hl
  have F' := F
  obtain ⟨hx, hb, hml, hown, hts, hlocks, hKD, hSF, hA0, hAN⟩ := F'
  subst hst
  refine z_after F hA hS hl (va_runS (As := As.map cv) (rest := st.map cv) ⟨hx, hb, hml, hown, hts⟩ (hM H.size) ⟨callB_of nA hts (giW hcv.1.2.2.2) rfl rfl rfl (hts _ hcv.1.2.2.1) (hts _ hcv.1.1) hcv.2 hR, hts _ hcv.1.2.1⟩ ⟨cPc_blind _ _ _ _ _, call_pre (As := As) F hP hS⟩ rfl (by rw [List.length_map]; exact hn) hl.1 ?_ (catZ hcat) d hf) K
  show ((As.reverse ++ st).map cv) = _
  rw [List.map_append, List.map_reverse]
theorem z_callI (F : Fx p s m args meth c own cc nL G N0 A) (hM : Ct l G N0 y (Cond.code y bc maxL none :: LW) rm (vR b :: As) h P) (hcv : (Cond.methodLink own idx y ∈ LW ∧ Cond.instanceMethod y ∈ LW ∧ Cond.initialized y.cls ∈ LW ∧ Cond.code y bc maxL none ∈ LW) ∧ y.name = "<init>" ∧ (y.cls ≠ "java/lang/invoke/MethodHandle" ∧ y.cls ≠ "java/lang/invoke/VarHandle" ∧ (parseMethodDescriptor y.desc).map (fun d => d.parameters.length) = some nA)) (hst : st0 = As.reverse ++ vR b :: st) (hn : As.length = nA) (hR : rm.frames + 1 ≤ R.frames ∧ 8 + (maxL + 11) + rm.locals ≤ R.locals) (hcat : (catS st).ble 8 = true) (hf : k + rm.cells ≤ R.cells ∧ n + rm.slots ≤ R.slots) (d : decode cc pc = .ok (.invokespecial idx, 3))
    (K : ∀ (r : Option AV) (h' : Hp), P r h' → Z p l e R s m args below meth c nL G N0 A Q h' (k + rm.cells) (n + rm.slots) (pc + 3) lv (rl r st)) : Z p l e R s m args below meth c nL G N0 A Q h k n pc lv st0 := by
  intro H locs ls hP hA hS hl
  have F' := F
  obtain ⟨hx, hb, hml, hown, hts, hlocks, hKD, hSF, hA0, hAN⟩ := F'
  subst hst
  refine z_after F hA hS hl (va_runI (As := As.map cv) (rest := st.map cv) (b := b) ⟨hx, hb, hml, hown, hts⟩ (hM H.size) ⟨callB_of nA hts (giW hcv.1.2.2.2) rfl rfl rfl (hts _ hcv.1.2.2.1) (hts _ hcv.1.1) hcv.2.2 hR, hcv.2.1, hts _ hcv.1.2.1⟩ ⟨cPc_blind _ _ _ _ _, call_pre (As := vR b :: As) F hP hS⟩ rfl (by rw [List.length_map]; exact hn) hl.1 ?_ (catZ hcat) d hf) K
  show ((As.reverse ++ vR b :: st).map cv) = _
  rw [List.map_append, List.map_reverse]
  rfl
/-- a callee that may throw; this method has no handlers and lets it pass -/
theorem z_xcallV {X X0 : String → Hp → Prop} {P0 : Option AV → Hp → Prop} {h0 : Hp} {mc0 ms0 : Nat} (F : Fx p s m args meth c own cc nL G N0 (cA h0 s.heap.size)) (htab : ∀ x ∈ c.exceptionTable.toList, False) (hM : CtX l G N0 y (Cond.code y bc maxL ret :: LW) rm (vR b :: As) h P X) (hcv : CV own idx C y bc maxL ret nA) (he : h b = some (eO ci fs)) (hC : ∀ r : vw_C, kCl[ci]? = some r → r.1 = C) (hst : st0 = As.reverse ++ vR b :: st) (hn : As.length = nA) (hR : rm.frames + 1 ≤ R.frames ∧ 8 + (maxL + 11) + rm.locals ≤ R.locals) (hcat : (catS st).ble 8 = true) (hf : k + rm.cells ≤ R.cells ∧ n + rm.slots ≤ R.slots) (d : decode cc pc = .ok (.invokevirtual idx, 3))
    (hX : ∀ (E : String) (h' : Hp), X E h' → X0 E h') (hmc : k + rm.cells ≤ mc0) (hms : n + rm.slots ≤ ms0)
    (K : ∀ (r : Option AV) (h' : Hp), P r h' → Z p l e R s m args below meth c nL G N0 (cA h0 s.heap.size) (vx_MQ below (cQc G N0 h0 s.heap.size P0) (cXC G N0 h0 s.heap.size X0) args s mc0 ms0 (cA h0 s.heap.size)) h' (k + rm.cells) (n + rm.slots) (pc + 3) lv (rl r st)) : Z p l e R s m args below meth c nL G N0 (cA h0 s.heap.size) (vx_MQ below (cQc G N0 h0 s.heap.size P0) (cXC G N0 h0 s.heap.size X0) args s mc0 ms0 (cA h0 s.heap.size)) h k n pc lv st0 := by
  intro H locs ls hP hA hS hl
  have F' := F
  obtain ⟨hx, hb, hml, hown, hts, hlocks, hKD, hSF, hA0, hAN⟩ := F'
  subst hst
  have hr := vx_runV (e := e) (below := below) (meth := meth) (As := As.map cv) (rest := st.map cv) (b := b) (cells := k) (slots := n) (locs := locs) (g := F0 m pc ls ((As.reverse ++ vR b :: st).map cv)) ⟨hx, hb, hml, hown, hts⟩ (hM H.size) (cwV nA hts hcv.1 rfl rfl rfl hcv.2 hR) ⟨cPc_blind _ _ _ _ _, recv_Z hKD hP he hC, call_pre (As := vR b :: As) F hP hS⟩ rfl (by rw [List.length_map]; exact hn) hl.1 (by
    show ((As.reverse ++ vR b :: st).map cv) = _
    rw [List.map_append, List.map_reverse]
    rfl) (catZ hcat) d hf
  have hcA : ∀ q, cA h H.size q → cA h0 s.heap.size q := fun q hq => hq.elim (hA q) (fun z => hA0 q (Nat.le_trans hS.1 z))
  intro T hT X9
  rcases hr T hT X9 with ⟨v, st₀, t, T', L, g0, X', hL, e1, e2, ⟨r, h', hv, hp, hdom, hWP, hz, hk⟩, stp⟩ | ⟨q, st₀, t, T', L, E, ce, g0, X', hL, e1, e2, ⟨h', hp, hdom, hWP, hz, hk⟩, hce, hcv9, hcl, stp⟩
  · cases hv
    rw [g0] at hz hk
    have K1 := K r h' hp T'.heap (locs ++ L) ls (by rw [e1]; exact hWP) (fun a9 ha => (hdom a9 ha).elim (hA a9) (fun z => hA0 a9 (Nat.le_trans hS.1 z)))
      ⟨Nat.le_trans hS.1 (by rw [e1]; exact hz), fun q h1 h2 => by rw [e1, hk q (Nat.lt_of_lt_of_le h1 hS.1) (fun z => h2 (hcA q z))]; exact hS.2.1 q h1 h2, fun q hq => by
        rcases List.mem_append.mp hq with z | z
        · exact hS.2.2 q z
        · exact hcA _ (hL q z)⟩ hl
    rw [← rl_map] at K1
    obtain ⟨t2, a1, b1⟩ := K1 T' rfl X'
    exact ⟨t2, stp t2 a1, b1⟩
  · rw [g0] at hz hk
    have hS1 : va_S (cA h0 s.heap.size) s.heap T'.heap (locs ++ L) := ⟨Nat.le_trans hS.1 (by rw [e1]; exact hz), fun q h1 h2 => by rw [e1, hk q (Nat.lt_of_lt_of_le h1 hS.1) (fun z => h2 (hcA q z))]; exact hS.2.1 q h1 h2, fun q hq => by
        rcases List.mem_append.mp hq with z | z
        · exact hS.2.2 q z
        · exact hcA _ (hL q z)⟩
    obtain ⟨t2, a1, b1⟩ := vx_out (H := T'.heap) (pc := pc) (ls := ls) (rest := st.map cv) (Qc := cQc G N0 h0 s.heap.size P0) (XC := cXC G N0 h0 s.heap.size X0) (fun x hx9 => (htab x hx9).elim) hlocks (by rw [e1]; exact hce) hcv9 hcl
      (fun t9 ht9 ha9 => ⟨h', hX E h' hp, fun a9 ha => (hdom a9 ha).elim (hA a9) (fun z => hA0 a9 (Nat.le_trans hS.1 z)), by rw [ht9, e1]; exact hWP, hS1.F ht9⟩) hS1.2.2 hmc hms T' rfl X'
    exact ⟨t2, stp.trans a1, b1⟩
end Calls9
theorem z_objInit {a idx : Nat} (F : Fx p s m args meth c own cc nL G N0 A) (hw : Cond.methodLink own idx Lib.objectInit ∈ LW ∧ Cond.instanceMethod Lib.objectInit ∈ LW ∧ Cond.code Lib.objectInit ⟨#[0xb1]⟩ 1 none ∈ LW) (hf : 1 ≤ R.frames) (hlo : 40 ≤ R.locals) (hcat : (catS st).ble 8 = true) (d : decode cc pc = .ok (.invokespecial idx, 3))
    (K : Z p l e R s m args below meth c nL G N0 A Q h k n (pc + 3) lv st) : Z p l e R s m args below meth c nL G N0 A Q h k n pc lv (vR a :: st) := by
  obtain ⟨hx, hb, hml, hown, hts, hlocks, hKD, hSF, hA0, hAN⟩ := F
  intro H locs ls hP hA hS hl
  refine W.objInit hx hb hown (hts _ hw.1) (hts _ hw.2.1) (hts _ hw.2.2) rfl (by rw [hml]; exact hl.1) rfl d hf ?_ (K H locs ls hP hA hS hl)
  have := catZ (m := m) (pc := pc) (ls := ls) (q := []) hcat
  exact Nat.le_trans (Nat.add_le_add_right this 12) (Nat.le_trans (by decide) hlo)
theorem z_throwS {E text : String} {ik is ic : Nat} {names : List String} {X0 : String → Hp → Prop} {P0 : Option AV → Hp → Prop} {h0 : Hp} {mc0 ms0 : Nat} (F : Fx p s m args meth c own cc nL G N0 (cA h0 s.heap.size)) (htab : ∀ x ∈ c.exceptionTable.toList, False) (hl9 : l.stackTraces = false)
    (hcls : Bundle.fit E = true ∧ ∀ n ∈ names, Bundle.fit n = true) (hk : Cond.classLink own ik E ∈ LW) (hini : Cond.initialized E ∈ LW) (hat : ∀ w ∈ vx_atS own ic E names, w ∈ LW) (hstr : (own, is, text) ∈ strL)
    (d0 : decode cc pc = .ok (.new ik, 3)) (d3 : decode cc (pc + 3) = .ok (.dup, 1)) (d4 : decode cc (pc + 4) = .ok (.ldc is, 2)) (d6 : decode cc (pc + 6) = .ok (.invokespecial ic, 3)) (d9 : decode cc (pc + 9) = .ok (.athrow, 1))
    (hR : names.length + 3 < R.frames ∧ catS st + (13 * (names.length + 1) + 43) ≤ R.locals ∧ k + 1 ≤ R.cells ∧ n + 6 ≤ R.slots) (hmc : k + 1 ≤ mc0) (hms : n + 6 ≤ ms0)
    (K : X0 E h) : Z p l e R s m args below meth c nL G N0 (cA h0 s.heap.size) (vx_MQ below (cQc G N0 h0 s.heap.size P0) (cXC G N0 h0 s.heap.size X0) args s mc0 ms0 (cA h0 s.heap.size)) h k n pc lv st := by
  obtain ⟨hx, hb, hml, hown, hts, hlocks, hKD, hSF, hA0, hAN⟩ := F
  intro H locs ls hP hA hS hl
  obtain ⟨sa, hsa⟩ := hSF.2.2.2.2.2.1.1 _ hstr
  refine vx_throwS (A := fun q => N0 ≤ q) hx hb hl9 hown hcls.1 hcls.2 (hts _ hk) (hts _ hini) hsa (fun w hw => hts _ (hat w hw)) ?_ hSF.2.2.2.1 hSF.2.2.2.2.1 ⟨hS.1, fun q h1 h2 => hS.2.1 q h1 (fun z => h2 (hAN q z)), fun q hq => hAN _ (hS.2.2 q hq)⟩ (by rw [hml]; exact hl.1) d0 d3 d4 d6 d9 (fun x hx9 => (htab x hx9).elim) hR.1 (by rw [catS_map]; exact hR.2.1) hR.2.2.1 hR.2.2.2 hlocks ?_ hS.2.2 hmc hms
  · intro w hw
    have g : ∀ {w : Cond}, w ∈ LW → vx_ot w = true := fun {w} hw => by
      unfold vx_ot
      rw [(List.mem_filter.mp hw).2, Bool.or_true]
    rcases List.mem_cons.mp hw with rfl | hw
    · exact g hk
    · rcases List.mem_cons.mp hw with rfl | hw
      · exact g hini
      · exact g (hat w hw)
  · intro t ha hz hk9
    refine ⟨h, K, fun a9 ha9 => hA a9 ha9, fun a9 e9 he => ⟨(hP a9 e9 he).1, (hP a9 e9 he).2.kept (hk9 a9 (hP a9 e9 he).2.lt)⟩, ⟨Nat.le_trans hS.1 hz, fun q h1 h2 => by rw [hk9 q (Nat.lt_of_lt_of_le h1 hS.1)]; exact hS.2.1 q h1 h2⟩⟩
theorem z_mmax {x y : Int} {idx : Nat} (F : Fx p s m args meth c own cc nL G N0 A) (hw : Cond.methodLink own idx Lib.Math.max.name ∈ LW ∧ Cond.static Lib.Math.max.name ∈ LW ∧ Cond.initialized "java/lang/Math" ∈ LW ∧ Cond.code Lib.Math.max.name Lib.Math.max.code 2 (some .int) ∈ LW) (hR : 1 ≤ R.frames ∧ catS st + 13 ≤ R.locals ∧ k ≤ R.cells ∧ n ≤ R.slots) (rx : -2147483648 ≤ x ∧ x < 2147483648) (ry : -2147483648 ≤ y ∧ y < 2147483648) (d : decode cc pc = .ok (.invokestatic idx, 3))
    (K : Z p l e R s m args below meth c nL G N0 A Q h k n (pc + 3) lv (vI (if x < y then y else x) :: st)) : Z p l e R s m args below meth c nL G N0 A Q h k n pc lv (vI y :: vI x :: st) := by
  obtain ⟨hx, hb, hml, hown, hts, hlocks, hKD, hSF, hA0, hAN⟩ := F
  intro H locs ls hP hA hS hl
  refine va_mmax hx hb (by rw [hml]; exact hl.1.symm) hown (hts _ hw.1) (hts _ hw.2.1) (hts _ hw.2.2.1) (hts _ hw.2.2.2) hR.1 (by rw [catS_map]; exact hR.2.1) hR.2.2.1 hR.2.2.2 d ?_
  have e1 : (if iI x < iI y then iI y else iI x) = iI (if x < y then y else x) := by
    by_cases q : x < y
    · rw [if_pos q, if_pos ((iI_lt rx ry).mpr q)]
    · rw [if_neg q, if_neg (fun z => q ((iI_lt rx ry).mp z))]
  rw [e1]
  exact K H locs ls hP hA hS hl
theorem z_mmin {x y : Int} {idx : Nat} (F : Fx p s m args meth c own cc nL G N0 A) (hw : Cond.methodLink own idx Lib.Math.min.name ∈ LW ∧ Cond.static Lib.Math.min.name ∈ LW ∧ Cond.initialized "java/lang/Math" ∈ LW ∧ Cond.code Lib.Math.min.name Lib.Math.min.code 2 (some .int) ∈ LW) (hR : 1 ≤ R.frames ∧ catS st + 13 ≤ R.locals ∧ k ≤ R.cells ∧ n ≤ R.slots) (rx : -2147483648 ≤ x ∧ x < 2147483648) (ry : -2147483648 ≤ y ∧ y < 2147483648) (d : decode cc pc = .ok (.invokestatic idx, 3))
    (K : Z p l e R s m args below meth c nL G N0 A Q h k n (pc + 3) lv (vI (if y < x then y else x) :: st)) : Z p l e R s m args below meth c nL G N0 A Q h k n pc lv (vI y :: vI x :: st) := by
  obtain ⟨hx, hb, hml, hown, hts, hlocks, hKD, hSF, hA0, hAN⟩ := F
  intro H locs ls hP hA hS hl
  refine va_mmin hx hb (by rw [hml]; exact hl.1.symm) hown (hts _ hw.1) (hts _ hw.2.1) (hts _ hw.2.2.1) (hts _ hw.2.2.2) hR.1 (by rw [catS_map]; exact hR.2.1) hR.2.2.1 hR.2.2.2 d ?_
  have e1 : (if iI y < iI x then iI y else iI x) = iI (if y < x then y else x) := by
    by_cases q : y < x
    · rw [if_pos q, if_pos ((iI_lt ry rx).mpr q)]
    · rw [if_neg q, if_neg (fun z => q ((iI_lt ry rx).mp z))]
  first | rw [e1] | (simp only [iI_lt rx ry, iI_lt ry rx]; split)
  exact K H locs ls hP hA hS hl
end ZK
