/-! 'throw new E("text")' in the class -/
abbrev dcL : List MethodName := [⟨"java/lang/RuntimeException", "<init>", "(Ljava/lang/String;)V"⟩, ⟨"java/lang/Exception", "<init>", "(Ljava/lang/String;)V"⟩, ⟨"java/lang/Throwable", "<init>", "(Ljava/lang/String;)V"⟩]
theorem decl_of {args : Array Value} {s : State} {y : MethodName} {bc : ByteArray} {n : Nat} {ret : Option FieldType} (h1 : (Cond.instanceMethod y).before args s = true) (h2 : (Cond.code y bc n ret).before args s = true) : (Cond.declares y).before args s = true := by
  obtain ⟨m, meth, e1, e2, e3, -⟩ := Cond.instanceMethod_spec h1
  obtain ⟨meth', c, e4, -, -, -, -, -, -, e5⟩ := Cond.code_spec e1 h2
  cases e2.symm.trans e4
  show (Cond.declares y).holds args s none s [] = true
  simp only [Cond.holds, Cond.value, e1, Option.bind_some, e2, Option.map_some, e3, e5]
  simp
theorem dc_w : ∀ q ∈ dcL, ∃ bc n ret, Cond.instanceMethod q ∈ LW ∧ Cond.code q bc n ret ∈ LW := fun q hq => by
  rcases List.mem_cons.mp hq with rfl | hq
  · exact ⟨prog_30_method_2_code, 2, none, inT 526 (by decide +kernel) (by decide +kernel), inT 527 (by decide +kernel) (by decide +kernel)⟩
  · rcases List.mem_cons.mp hq with rfl | hq
    · exact ⟨prog_21_method_2_code, 2, none, inT 529 (by decide +kernel) (by decide +kernel), inT 530 (by decide +kernel) (by decide +kernel)⟩
    · rcases List.mem_cons.mp hq with rfl | hq
      · exact ⟨prog_37_method_2_code, 2, none, inT 532 (by decide +kernel) (by decide +kernel), inT 533 (by decide +kernel) (by decide +kernel)⟩
      · exact absurd hq (List.not_mem_nil)
/-- a word of a throw: a good one, or a cast, or a declaration -/
def TW (w : Cond) : Prop := w ∈ LW ∨ (∃ q ∈ castL, w = Cond.castable q.1 q.2) ∨ ∃ q ∈ dcL, w = Cond.declares q
theorem at_of {ws : List Cond} (h : (ws.all fun w => (decide (w ∈ tables_1) && goodWord w) || (castL.any (fun q => decide (w = Cond.castable q.1 q.2)) || dcL.any (fun q => decide (w = Cond.declares q)))) = true) : ∀ w ∈ ws, TW w := fun w hw => by
  have h1 := List.all_eq_true.mp h w hw
  rw [Bool.or_eq_true, Bool.and_eq_true, Bool.or_eq_true] at h1
  rcases h1 with ⟨h1, h2⟩ | h1 | h1
  · exact Or.inl (List.mem_filter.mpr ⟨List.mem_append_right _ (of_decide_eq_true h1), h2⟩)
  · obtain ⟨q, q1, q2⟩ := List.any_eq_true.mp h1
    exact Or.inr (Or.inl ⟨q, q1, of_decide_eq_true q2⟩)
  · obtain ⟨q, q1, q2⟩ := List.any_eq_true.mp h1
    exact Or.inr (Or.inr ⟨q, q1, of_decide_eq_true q2⟩)
set_option maxRecDepth 100000 in
set_option maxHeartbeats 4000000 in
theorem hatA : ∀ w ∈ vx_atS "TimerLedger" 65 "java/lang/IllegalArgumentException" ["java/lang/RuntimeException", "java/lang/Exception"], TW w := at_of (by decide +kernel)
set_option maxRecDepth 100000 in
set_option maxHeartbeats 4000000 in
theorem hatS : ∀ w ∈ vx_atS "TimerLedger" 72 "java/lang/IllegalStateException" ["java/lang/RuntimeException", "java/lang/Exception"], TW w := at_of (by decide +kernel)
set_option maxRecDepth 100000 in
set_option maxHeartbeats 4000000 in
theorem hatI : ∀ w ∈ vx_atS "TimerLedger" 208 "java/lang/IndexOutOfBoundsException" ["java/lang/RuntimeException", "java/lang/Exception"], TW w := at_of (by decide +kernel)
set_option maxRecDepth 100000 in
set_option maxHeartbeats 4000000 in
theorem hatU : ∀ w ∈ vx_atS "TimerLedger" 217 "java/lang/UnsupportedOperationException" ["java/lang/RuntimeException", "java/lang/Exception"], TW w := at_of (by decide +kernel)
set_option maxRecDepth 100000 in
set_option maxHeartbeats 4000000 in
theorem hatR : ∀ w ∈ vx_atS "TimerLedger" 336 "java/lang/ArithmeticException" ["java/lang/RuntimeException", "java/lang/Exception"], TW w := at_of (by decide +kernel)
theorem fitN : ∀ n ∈ ["java/lang/RuntimeException", "java/lang/Exception"], Bundle.fit n = true := by decide +kernel
section ZT
variable {p : Program} {l : Launch} {e : Env} {R : Room} {s : State} {m : MethodId} {args : Array Value} {below : List Frame} {meth : Method} {c : Code} {own : String} {cc : ByteArray} {nL : Nat} {G : GG} {N0 : Nat} {h : Hp} {k n pc : Nat} {lv : List (Nat × AV)} {st : List AV}
theorem ot_of {w : Cond} (h : TW w) : vx_ot w = true := by
  rcases h with h | ⟨q, -, rfl⟩ | ⟨q, -, rfl⟩
  · unfold vx_ot
    rw [(List.mem_filter.mp h).2, Bool.or_true]
  · rfl
  · rfl
theorem z_throwC {E text : String} {ik is ic : Nat} {names : List String} {X0 : String → Hp → Prop} {P0 : Option AV → Hp → Prop} {h0 : Hp} {mc0 ms0 : Nat} (F : Fx p s m args meth c own cc nL G N0 (cA h0 s.heap.size)) (htab : ∀ x ∈ c.exceptionTable.toList, False) (hl9 : l.stackTraces = false)
    (hcls : Bundle.fit E = true ∧ ∀ n ∈ names, Bundle.fit n = true) (hk : Cond.classLink own ik E ∈ LW) (hini : Cond.initialized E ∈ LW) (hat : ∀ w ∈ vx_atS own ic E names, TW w) (hstr : (own, is, text) ∈ strL)
    (d0 : decode cc pc = .ok (.new ik, 3)) (d3 : decode cc (pc + 3) = .ok (.dup, 1)) (d4 : decode cc (pc + 4) = .ok (.ldc is, 2)) (d6 : decode cc (pc + 6) = .ok (.invokespecial ic, 3)) (d9 : decode cc (pc + 9) = .ok (.athrow, 1))
    (hR : names.length + 3 < R.frames ∧ catS st + (13 * (names.length + 1) + 43) ≤ R.locals ∧ k + 1 ≤ R.cells ∧ n + 6 ≤ R.slots) (hmc : k + 1 ≤ mc0) (hms : n + 6 ≤ ms0)
    (K : X0 E h) : Z p l e R s m args below meth c nL G N0 (cA h0 s.heap.size) (vx_MQ below (cQc G N0 h0 s.heap.size P0) (cXC G N0 h0 s.heap.size X0) args s mc0 ms0 (cA h0 s.heap.size)) h k n pc lv st := by
  obtain ⟨hx, hb, hml, hown, hts, hlocks, hKD, hSF, hA0, hAN⟩ := F
  intro H locs ls hP hA hS hl
  obtain ⟨sa, hsa⟩ := hSF.2.2.2.2.2.1.1 _ hstr
  have hB : ∀ w ∈ vx_atS own ic E names, w.before args s = true := fun w hw => by
    rcases hat w hw with h | ⟨q, hq, rfl⟩ | ⟨q, hq, rfl⟩
    · exact hts _ h
    · exact va_Nw.use rfl (hSF.2.2.2.2.2.1.2.1 q hq)
    · obtain ⟨bc, n9, ret, w1, w2⟩ := dc_w q hq
      exact decl_of (hts _ w1) (hts _ w2)
  refine vx_throwS (A := fun q => N0 ≤ q) hx hb hl9 hown hcls.1 hcls.2 (hts _ hk) (hts _ hini) hsa hB ?_ hSF.2.2.2.1 hSF.2.2.2.2.1 ⟨hS.1, fun q h1 h2 => hS.2.1 q h1 (fun z => h2 (hAN q z)), fun q hq => hAN _ (hS.2.2 q hq)⟩ (by rw [hml]; exact hl.1) d0 d3 d4 d6 d9 (fun x hx9 => (htab x hx9).elim) hR.1 (by rw [catS_map]; exact hR.2.1) hR.2.2.1 hR.2.2.2 hlocks ?_ hS.2.2 hmc hms
  · intro w hw
    rcases List.mem_cons.mp hw with rfl | hw
    · exact ot_of (Or.inl hk)
    · rcases List.mem_cons.mp hw with rfl | hw
      · exact ot_of (Or.inl hini)
      · exact ot_of (hat w hw)
  · intro t ha hz hk9
    refine ⟨h, K, fun a9 ha9 => hA a9 ha9, fun a9 e9 he => ⟨(hP a9 e9 he).1, (hP a9 e9 he).2.kept (hk9 a9 (hP a9 e9 he).2.lt)⟩, ⟨Nat.le_trans hS.1 hz, fun q h1 h2 => by rw [hk9 q (Nat.lt_of_lt_of_le h1 hS.1)]; exact hS.2.1 q h1 h2⟩⟩
theorem z_throwCW {E text : String} {ik is ic : Nat} {names : List String} {X0 : String → Hp → Prop} {P0 : Option AV → Hp → Prop} {h0 : Hp} {mc0 ms0 : Nat} (F : Fx p s m args meth c own cc nL G N0 (cA h0 s.heap.size)) (htab : ∀ x ∈ c.exceptionTable.toList, False) (hl9 : l.stackTraces = false)
    (hcls : Bundle.fit E = true ∧ ∀ n ∈ names, Bundle.fit n = true) (hk : Cond.classLink own ik E ∈ LW) (hini : Cond.initialized E ∈ LW) (hat : ∀ w ∈ vx_atS own ic E names, TW w) (hstr : (own, is, text) ∈ strL)
    (d0 : decode cc pc = .ok (.new ik, 3)) (d3 : decode cc (pc + 3) = .ok (.dup, 1)) (d4 : decode cc (pc + 4) = .ok (.ldc_w is, 3)) (d7 : decode cc (pc + 7) = .ok (.invokespecial ic, 3)) (d10 : decode cc (pc + 10) = .ok (.athrow, 1))
    (hR : names.length + 3 < R.frames ∧ catS st + (13 * (names.length + 1) + 43) ≤ R.locals ∧ k + 1 ≤ R.cells ∧ n + 6 ≤ R.slots) (hmc : k + 1 ≤ mc0) (hms : n + 6 ≤ ms0)
    (K : X0 E h) : Z p l e R s m args below meth c nL G N0 (cA h0 s.heap.size) (vx_MQ below (cQc G N0 h0 s.heap.size P0) (cXC G N0 h0 s.heap.size X0) args s mc0 ms0 (cA h0 s.heap.size)) h k n pc lv st := by
  obtain ⟨hx, hb, hml, hown, hts, hlocks, hKD, hSF, hA0, hAN⟩ := F
  intro H locs ls hP hA hS hl
  obtain ⟨sa, hsa⟩ := hSF.2.2.2.2.2.1.1 _ hstr
  have hB : ∀ w ∈ vx_atS own ic E names, w.before args s = true := fun w hw => by
    rcases hat w hw with h | ⟨q, hq, rfl⟩ | ⟨q, hq, rfl⟩
    · exact hts _ h
    · exact va_Nw.use rfl (hSF.2.2.2.2.2.1.2.1 q hq)
    · obtain ⟨bc, n9, ret, w1, w2⟩ := dc_w q hq
      exact decl_of (hts _ w1) (hts _ w2)
  refine vx_throwSW (A := fun q => N0 ≤ q) hx hb hl9 hown hcls.1 hcls.2 (hts _ hk) (hts _ hini) hsa hB ?_ hSF.2.2.2.1 hSF.2.2.2.2.1 ⟨hS.1, fun q h1 h2 => hS.2.1 q h1 (fun z => h2 (hAN q z)), fun q hq => hAN _ (hS.2.2 q hq)⟩ (by rw [hml]; exact hl.1) d0 d3 d4 d7 d10 (fun x hx9 => (htab x hx9).elim) hR.1 (by rw [catS_map]; exact hR.2.1) hR.2.2.1 hR.2.2.2 hlocks ?_ hS.2.2 hmc hms
  · intro w hw
    rcases List.mem_cons.mp hw with rfl | hw
    · exact ot_of (Or.inl hk)
    · rcases List.mem_cons.mp hw with rfl | hw
      · exact ot_of (Or.inl hini)
      · exact ot_of (hat w hw)
  · intro t ha hz hk9
    refine ⟨h, K, fun a9 ha9 => hA a9 ha9, fun a9 e9 he => ⟨(hP a9 e9 he).1, (hP a9 e9 he).2.kept (hk9 a9 (hP a9 e9 he).2.lt)⟩, ⟨Nat.le_trans hS.1 hz, fun q h1 h2 => by rw [hk9 q (Nat.lt_of_lt_of_le h1 hS.1)]; exact hS.2.1 q h1 h2⟩⟩
end ZT
