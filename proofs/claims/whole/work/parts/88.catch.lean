/-! THE LAW: a call that may throw, caught by a row of this method's table -/
theorem z_xcallC {p : Program} {l : Launch} {e : Env} {R : Room} {s : State} {m : MethodId} {args : Array Value} {below : List Frame} {meth : Method} {c : Code} {own : String} {cc : ByteArray} {nL : Nat} {G : GG} {N0 : Nat} {A : Nat → Prop} {Q : State → Prop} {h : Hp} {k n pc : Nat} {lv : List (Nat × AV)} {st st0 : List AV} {y : MethodName} {bc : ByteArray} {maxL b ci idx nA : Nat} {ret : Option FieldType} {rm : Room} {C : String} {As fs : List AV} {P : Option AV → Hp → Prop} {X : String → Hp → Prop}
    (F : Fx p s m args meth c own cc nL G N0 A) (hM : CtX l G N0 y (Cond.code y bc maxL ret :: LW) rm (vR b :: As) h P X) (hcv : CV own idx C y bc maxL ret nA) (he : h b = some (eO ci fs)) (hC : ∀ r : vw_C, kCl[ci]? = some r → r.1 = C) (hst : st0 = As.reverse ++ vR b :: st) (hn : As.length = nA) (hR : rm.frames + 1 ≤ R.frames ∧ 8 + (maxL + 11) + rm.locals ≤ R.locals) (hcat : (catS st).ble 8 = true) (hf : k + rm.cells ≤ R.cells ∧ n + rm.slots ≤ R.slots) (d : decode cc pc = .ok (.invokevirtual idx, 3))
    (hE : ∀ (E : String) (h' : Hp), X E h' → ∃ (pre : List ExceptionTableEntry) (x : ExceptionTableEntry) (suf : List ExceptionTableEntry), c.exceptionTable.toList = pre ++ x :: suf ∧ (∀ z ∈ pre, z.catchType ≠ 0 ∧ ∃ nm : String, Cond.classLink own z.catchType nm ∈ LW ∧ (E, nm) ∈ ncastL) ∧ covers x pc = true ∧ x.catchType ≠ 0 ∧ ∃ nm : String, Cond.classLink own x.catchType nm ∈ LW ∧ (E, nm) ∈ castL ∧ ∀ q : Nat, Z p l e R s m args below meth c nL G N0 A Q h' (k + rm.cells) (n + rm.slots) x.handlerPc lv [vR q])
    (K : ∀ (r : Option AV) (h' : Hp), P r h' → Z p l e R s m args below meth c nL G N0 A Q h' (k + rm.cells) (n + rm.slots) (pc + 3) lv (rl r st)) : Z p l e R s m args below meth c nL G N0 A Q h k n pc lv st0 := by
  intro H locs ls hP hA hS hl
  have F' := F
  obtain ⟨hx, hb, hml, hown, hts, hlocks, hKD, hSF, hA0, hAN⟩ := F'
  subst hst
  have hr := vx_runV (e := e) (below := below) (meth := meth) (As := As.map cv) (rest := st.map cv) (b := b) (cells := k) (slots := n) (locs := locs) (g := F0 m pc ls ((As.reverse ++ vR b :: st).map cv)) ⟨hx, hb, hml, hown, hts⟩ (hM H.size) (cwV nA hts hcv.1 rfl rfl rfl hcv.2 hR) ⟨cPc_blind _ _ _ _ _, recv_Z hKD hP he hC, call_pre (As := vR b :: As) F hP hS⟩ rfl (by rw [List.length_map]; exact hn) hl.1 (by
    show ((As.reverse ++ vR b :: st).map cv) = _
    rw [List.map_append, List.map_reverse]
    rfl) (catZ hcat) d hf
  have hcA : ∀ q, cA h H.size q → A q := fun q hq => hq.elim (hA q) (fun z => hA0 q (Nat.le_trans hS.1 z))
  intro T hT X9
  rcases hr T hT X9 with ⟨v, st₀, t, T', L, g0, X', hL, e1, e2, ⟨r, h', hv, hp, hdom, hWP, hz, hk⟩, stp⟩ | ⟨q, st₀, t, T', L, E, ce, g0, X', hL, e1, e2, ⟨h', hp, hdom, hWP, hz, hk⟩, hce, hcv9, hcl, stp⟩
  · cases hv
    rw [g0] at hz hk
    have K1 := K r h' hp T'.heap (locs ++ L) ls (by rw [e1]; exact hWP) (fun a9 ha => (hdom a9 ha).elim (hA a9) (fun z => hA0 a9 (Nat.le_trans hS.1 z)))
      ⟨Nat.le_trans hS.1 (by rw [e1]; exact hz), fun q h1 h2 => by rw [e1, hk q (Nat.lt_of_lt_of_le h1 hS.1) (fun z => h2 (hcA q z))]; exact hS.2.1 q h1 h2, fun q hq => by
        rcases List.mem_append.mp hq with z | z
        · exact hS.2.2 q z
        · exact hcA _ (hL q z)⟩ hl
    rw [← rl_map] at K1
    obtain ⟨t2, a1, b1⟩ := K1 T' rfl X'
    exact ⟨t2, stp t2 a1, b1⟩
  · rw [g0] at hz hk
    have hS1 : va_S A s.heap T'.heap (locs ++ L) := ⟨Nat.le_trans hS.1 (by rw [e1]; exact hz), fun q h1 h2 => by rw [e1, hk q (Nat.lt_of_lt_of_le h1 hS.1) (fun z => h2 (hcA q z))]; exact hS.2.1 q h1 h2, fun q hq => by
        rcases List.mem_append.mp hq with z | z
        · exact hS.2.2 q z
        · exact hcA _ (hL q z)⟩
    obtain ⟨pre, x, suf, h1, h2, h3, h4, nm, h5, h6, h7⟩ := hE E h' hp
    have hST := hSF.2.2.2.2.2.1
    have K1 := h7 q T'.heap (locs ++ L) ls (by rw [e1]; exact hWP) (fun a9 ha => (hdom a9 ha).elim (hA a9) (fun z => hA0 a9 (Nat.le_trans hS.1 z))) hS1 hl
    obtain ⟨t2, a1, b1⟩ := vx_catch (H := T'.heap) (pc := pc) (ls := ls) (rest := st.map cv) hown pre x suf h1 (fun z hz9 => by
      obtain ⟨z1, nm9, z2, z3⟩ := h2 z hz9
      exact Or.inr ⟨z1, nm9, hts _ z2, hST.2.2.1 _ z3⟩) h3 h4 (hts _ h5) (va_Nw.use rfl (hST.2.1 _ h6)) (by rw [e1]; exact hce) hcv9 hcl K1 T' rfl X'
    exact ⟨t2, stp.trans a1, b1⟩
