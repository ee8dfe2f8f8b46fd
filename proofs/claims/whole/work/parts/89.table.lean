/-! THE LAW: a method with a table of its own -/
theorem ofWC {l : Launch} {y : MethodName} {ws ws' : List Cond} {rm : Room} {Pc : Array Value → State → Prop} {Qc : Array Value → State → Outcome → State → Prop} {mc ms : Nat} {free : Addr → Prop} {cc : ByteArray} {maxL : Nat} {ret : Option FieldType} {hh : List (Nat × Nat × Nat × Nat)}
    (hy : plainName y.cls = true) (hw : ws = Cond.codeWith y cc maxL ret hh :: ws')
    (body : ∀ p e s m args below meth c s₁, BodyLoose p l y (headSpec ws rm) cc maxL ret e s m args below meth c s₁ → c.maxLocals = maxL → c.exceptionTable.toList = tableOf hh → Pc args s →
      W p l e (headSpec ws rm).room s m args below meth c s.heap [] 0 0 (MQ below Qc args s mc ms free) (entryFrame m args maxL)) : Met l y ws rm Pc Qc mc ms free := by
  refine MetFree.of_bodyS (code := cc) (maxLocals := maxL) (ret := ret) hy ?_ ?_
  · intro args s m h hn
    obtain ⟨m9, meth, c, hn9, h1, h2, h3, h4, -, h5, h6, -⟩ := Cond.codeWith_spec (atoms_spec (ws := ws) h _ (by rw [hw]; exact List.mem_cons_self))
    cases Option.some.inj (hn9.symm.trans hn)
    exact ⟨meth, c, h1, h2, h3, h4, h5, h6⟩
  · intro p e s m args below meth c s₁ B hml hP _
    have hh0 : s₁.heap = s.heap := by rw [B.state]; rfl
    have ht := vx_table (x := y) B (atoms_spec (ws := ws) B.pre _ (by rw [hw]; exact List.mem_cons_self))
    obtain ⟨t, a1, o, b1, b2, b3⟩ := body p e s m args below meth c s₁ B hml ht hP s₁ hh0 (Stand.of_body B)
    exact ⟨t, o, a1, b1, b2, b3⟩
theorem ctC_of {l : Launch} {G : GG} {N0 : Nat} {h : Hp} {y : MethodName} {maxL : Nat} {ret : Option FieldType} {rm : Room} {as : List AV} {P : Option AV → Hp → Prop} {bc : ByteArray} {hh : List (Nat × Nat × Nat × Nat)} (hy : plainName y.cls = true) (hlen : (lenA as).ble maxL = true)
    (body : ∀ (p : Program) (e : Env) (s : State) (m : MethodId) (args : Array Value) (below : List Frame) (meth : Method) (c : Code), Fx p s m args meth c y.cls bc maxL G N0 (cA h s.heap.size) → meth.sig.returnType = ret → c.exceptionTable.toList = tableOf hh →
      Z p l e rm s m args below meth c maxL G N0 (cA h s.heap.size) (MQ below (cQc G N0 h s.heap.size P) args s rm.cells rm.slots (cA h s.heap.size)) h 0 0 0 (lvA 0 as) []) : Ct l G N0 y (Cond.codeWith y bc maxL ret hh :: LW) rm as h P := by
  intro sz
  refine ofWC (cc := bc) (maxL := maxL) (ret := ret) hy rfl ?_
  intro p e s m args below meth c s₁ B hml htab hv
  obtain ⟨rfl, rfl, hP, hKD, hSF⟩ := hv
  have hts := atoms_spec (ws := Cond.codeWith y bc maxL ret hh :: LW) B.pre
  exact entry_Z hP hlen (body p e s m _ below meth c ⟨B.exec, B.bytes, hml, findClass_of_methodNamed B.named, fun w hw => hts w (List.mem_cons_of_mem _ hw), B.notSynchronized, hKD, hSF, fun q hq => Or.inr hq, fun q hq => cA_N hP hSF.1 q hq⟩ B.returns htab)
