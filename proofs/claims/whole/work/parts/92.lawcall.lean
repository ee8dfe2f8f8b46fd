/-! THE LAW: a static call of a method with a table of its own -/
theorem good_LW {w : Cond} (hw : w ∈ LW) : (w.onTables && w.keeps) = true ∨ ∃ ty, w = .arrayClass ty := (giW q51 w (List.mem_cons_of_mem _ hw)).2
theorem z_callSW {p : Program} {l : Launch} {e : Env} {R : Room} {s : State} {m : MethodId} {args : Array Value} {below : List Frame} {meth : Method} {c : Code} {own : String} {cc : ByteArray} {nL : Nat} {G : GG} {N0 : Nat} {A : Nat → Prop} {Q : State → Prop} {h : Hp} {k n pc : Nat} {lv : List (Nat × AV)} {st st0 : List AV} {y : MethodName} {bc : ByteArray} {maxL idx nA : Nat} {ret : Option FieldType} {hh : List (Nat × Nat × Nat × Nat)} {rm : Room} {As : List AV} {P : Option AV → Hp → Prop}
    (F : Fx p s m args meth c own cc nL G N0 A) (hM : Ct l G N0 y (Cond.codeWith y bc maxL ret hh :: LW) rm As h P) (hcw : (Cond.codeWith y bc maxL ret hh).before args s = true) (hcv : (Cond.methodLink own idx y ∈ LW ∧ Cond.static y ∈ LW ∧ Cond.initialized y.cls ∈ LW) ∧ (y.cls ≠ "java/lang/invoke/MethodHandle" ∧ y.cls ≠ "java/lang/invoke/VarHandle" ∧ (parseMethodDescriptor y.desc).map (fun d => d.parameters.length) = some nA)) (hst : st0 = As.reverse ++ st) (hn : As.length = nA) (hR : rm.frames + 1 ≤ R.frames ∧ 8 + (maxL + 11) + rm.locals ≤ R.locals) (hcat : (catS st).ble 8 = true) (hf : k + rm.cells ≤ R.cells ∧ n + rm.slots ≤ R.slots) (d : decode cc pc = .ok (.invokestatic idx, 3))
    (K : ∀ (r : Option AV) (h' : Hp), P r h' → Z p l e R s m args below meth c nL G N0 A Q h' (k + rm.cells) (n + rm.slots) (pc + 3) lv (rl r st)) : Z p l e R s m args below meth c nL G N0 A Q h k n pc lv st0 := by
  intro H locs ls hP hA hS hl
  have F' := F
  obtain ⟨hx, hb, hml, hown, hts, hlocks, hKD, hSF, hA0, hAN⟩ := F'
  subst hst
  have hts2 : ∀ w ∈ (Cond.codeWith y bc maxL ret hh :: LW), w.before args s = true := fun w hw => by
    rcases List.mem_cons.mp hw with z | z
    · rw [z]; exact hcw
    · exact hts w z
  have hG : GoodIn (Cond.codeWith y bc maxL ret hh :: LW) (va_wsS own idx y (Cond.codeWith y bc maxL ret hh :: LW)) := fun w hw => by
    unfold va_wsS at hw
    rcases List.mem_append.mp hw with z | z
    · have : w ∈ LW := by
        simp only [List.mem_cons, List.not_mem_nil, or_false] at z
        rcases z with z | z | z
        · rw [z]; exact hcv.1.1
        · rw [z]; exact hcv.1.2.1
        · rw [z]; exact hcv.1.2.2
      exact ⟨List.mem_cons_of_mem _ this, good_LW this⟩
    · refine ⟨z, ?_⟩
      rcases List.mem_cons.mp z with z | z
      · rw [z]; exact Or.inl rfl
      · exact good_LW z
  refine z_after F hA hS hl (vx_runSW (As := As.map cv) (rest := st.map cv) ⟨hx, hb, hml, hown, hts2⟩ (hM H.size) (vx_cwSW nA hts2 hG rfl rfl rfl hcv.2 hR) ⟨cPc_blind _ _ _ _ _, call_pre (As := As) F hP hS⟩ rfl (by rw [List.length_map]; exact hn) hl.1 ?_ (catZ hcat) d hf) K
  show ((As.reverse ++ st).map cv) = _
  rw [List.map_append, List.map_reverse]
