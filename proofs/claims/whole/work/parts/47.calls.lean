/-! calls of inherited methods (also private ones) and super calls, over the Z layer -/
theorem sel_priv {C : String} {y : MethodName} {s : State} {args : Array Value} {n : Nat} (hy : y.cls ≠ "java/lang/invoke/MethodHandle" ∧ y.cls ≠ "java/lang/invoke/VarHandle")
    (hins : (Cond.instantiable C n).before args s = true) (hpriv : (Cond.privateMethod y).before args s = true) (hinst : (Cond.instanceMethod y).before args s = true) (hsame : (Cond.sameMethod y.cls y.cls y.name y.desc).before args s = true) :
    (Cond.selects C y y).before args s = true := by
  obtain ⟨c, k, hc, hk, -, hniab, -, -⟩ := Cond.instantiable_spec hins
  obtain ⟨mk, methM, hnamed, hmethM, -, -⟩ := Cond.instanceMethod_spec hinst
  have hfound : s.methodFound? y.cls y.name y.desc = some mk := State.methodFound?_of_named hnamed hy
  have hsel : selectMethod {} s.vm c mk = .method mk := selectMethod_private hmethM (Cond.privateMethod_at hpriv mk methM hnamed hmethM)
  obtain ⟨cn, ck, r1, hcn, hck, hni, hf, hn1⟩ := Cond.sameMethod_found hsame
  have hcls : mk.cls = cn := Option.some.inj ((findClass_of_methodNamed hnamed).symm.trans hcn)
  simp only [Cond.before, Cond.holds, Cond.value, hc, hfound, hnamed, hsel, hcls, hck]
  simp
  exact hni
section ZU
variable {p : Program} {l : Launch} {e : Env} {R : Room} {s : State} {m : MethodId} {args : Array Value} {below : List Frame} {meth : Method} {c : Code} {own : String} {cc : ByteArray} {nL : Nat} {G : GG} {N0 : Nat} {A : Nat → Prop}
variable {Q : State → Prop} {h : Hp} {k n pc : Nat} {lv : List (Nat × AV)} {st : List AV}
variable {y : MethodName} {bc : ByteArray} {maxL idx b ci nA : Nat} {ret : Option FieldType} {rm : Room} {As : List AV} {fs : List AV} {P : Option AV → Hp → Prop} {C : String} {st0 : List AV}
theorem z_callU (F : Fx p s m args meth c own cc nL G N0 A) (hM : Ct l G N0 y (Cond.code y bc maxL ret :: LW) rm (vR b :: As) h P)
    (hcv : (Cond.methodLink own idx y ∈ LW ∧ Cond.sameMethod y.cls y.cls y.name y.desc ∈ LW ∧ Cond.instanceMethod y ∈ LW ∧ Cond.initialized y.cls ∈ LW ∧ Cond.code y bc maxL ret ∈ LW) ∧ y = ⟨y.cls, y.name, y.desc⟩ ∧ (y.cls ≠ "java/lang/invoke/MethodHandle" ∧ y.cls ≠ "java/lang/invoke/VarHandle" ∧ (parseMethodDescriptor y.desc).map (fun d => d.parameters.length) = some nA))
    (hsel : Cond.selects C y y ∈ LW ∨ (C = "java/lang/StringBuilder" ∧ y ∈ selL))
    (he : h b = some (eO ci fs)) (hC : ∀ r : vw_C, kCl[ci]? = some r → r.1 = C) (hst : st0 = As.reverse ++ vR b :: st) (hn : As.length = nA) (hR : rm.frames + 1 ≤ R.frames ∧ 8 + (maxL + 11) + rm.locals ≤ R.locals) (hcat : (catS st).ble 8 = true) (hf : k + rm.cells ≤ R.cells ∧ n + rm.slots ≤ R.slots) (d : decode cc pc = .ok (.invokevirtual idx, 3))
    (K : ∀ (r : Option AV) (h' : Hp), P r h' → Z p l e R s m args below meth c nL G N0 A Q h' (k + rm.cells) (n + rm.slots) (pc + 3) lv (rl r st)) : Z p l e R s m args below meth c nL G N0 A Q h k n pc lv st0 := by
  intro H locs ls hP hA hS hl
  have F' := F
  obtain ⟨hx, hb, hml, hown, hts, hlocks, hKD, hSF, hA0, hAN⟩ := F'
  subst hst
  obtain ⟨⟨w1, w2, w3, w4, w5⟩, hy, n1, n2, n3⟩ := hcv
  have hs9 : (Cond.selects C y y).before args s = true := by
    rcases hsel with q | ⟨q1, q2⟩
    · exact hts _ q
    · rw [q1]
      exact hSF.2.2.2.2.2.1.2.2.2.2.2.2.2 y q2
  have cw : va_CU R s args own C y.cls idx y y bc maxL ret (Cond.code y bc maxL ret :: LW) rm rm.cells rm.slots nA := by
    refine ⟨⟨rfl, rfl, hR.1, hR.2, pay_in hts (giW w5), List.mem_cons_self⟩, hts _ w5, hts _ w4, ⟨n1, n2⟩, fun sig hsig => ?_, hts _ w1, hts _ w2, by rw [← hy]; exact va_Decl.of (hts _ w3) (hts _ w5), hs9, hts _ w3⟩
    rw [hsig] at n3
    exact (Option.some.inj n3).symm
  refine z_after F hA hS hl (va_runU (As := As.map cv) (rest := st.map cv) (b := b) ⟨hx, hb, hml, hown, hts⟩ (hM H.size) cw ⟨cPc_blind _ _ _ _ _, recv_Z hKD hP he hC, call_pre (As := vR b :: As) F hP hS⟩ rfl (by rw [List.length_map]; exact hn) hl.1 ?_ (catZ hcat) d hf) K
  show ((As.reverse ++ vR b :: st).map cv) = _
  rw [List.map_append, List.map_reverse]
  rfl
theorem z_callSU (F : Fx p s m args meth c own cc nL G N0 A) (hM : Ct l G N0 y (Cond.code y bc maxL ret :: LW) rm (vR b :: As) h P)
    (hcv : (Cond.methodLink own idx y ∈ LW ∧ Cond.sameMethod y.cls y.cls y.name y.desc ∈ LW ∧ Cond.superclass own y.cls ∈ LW ∧ Cond.instanceMethod y ∈ LW ∧ Cond.initialized y.cls ∈ LW ∧ Cond.code y bc maxL ret ∈ LW) ∧ y.name ≠ "<init>" ∧ (parseMethodDescriptor y.desc).map (fun d => d.parameters.length) = some nA)
    (he : h b = some (eO ci fs)) (hC : ∀ r : vw_C, kCl[ci]? = some r → r.1 = C) (hst : st0 = As.reverse ++ vR b :: st) (hn : As.length = nA) (hR : rm.frames + 1 ≤ R.frames ∧ 8 + (maxL + 11) + rm.locals ≤ R.locals) (hcat : (catS st).ble 8 = true) (hf : k + rm.cells ≤ R.cells ∧ n + rm.slots ≤ R.slots) (d : decode cc pc = .ok (.invokespecial idx, 3))
    (K : ∀ (r : Option AV) (h' : Hp), P r h' → Z p l e R s m args below meth c nL G N0 A Q h' (k + rm.cells) (n + rm.slots) (pc + 3) lv (rl r st)) : Z p l e R s m args below meth c nL G N0 A Q h k n pc lv st0 := by
  intro H locs ls hP hA hS hl
  have F' := F
  obtain ⟨hx, hb, hml, hown, hts, hlocks, hKD, hSF, hA0, hAN⟩ := F'
  subst hst
  obtain ⟨⟨w1, w2, w6, w3, w4, w5⟩, n1, n3⟩ := hcv
  have cw : va_CS R s args own idx y bc maxL ret (Cond.code y bc maxL ret :: LW) rm rm.cells rm.slots nA := by
    refine ⟨⟨rfl, rfl, hR.1, hR.2, pay_in hts (giW w5), List.mem_cons_self⟩, hts _ w1, hts _ w2, hts _ w6, hts _ w3, hts _ w4, hts _ w5, n1, fun sig hsig => ?_⟩
    rw [hsig] at n3
    exact (Option.some.inj n3).symm
  obtain ⟨r, hr, -⟩ := (hP _ _ he).2
  have hat := (hKD.1 ci r hr).2
  rw [hC r hr] at hat
  refine z_after F hA hS hl (va_runSU (As := As.map cv) (rest := st.map cv) (b := b) hat ⟨hx, hb, hml, hown, hts⟩ (hM H.size) cw ⟨cPc_blind _ _ _ _ _, recv_Z hKD hP he hC, call_pre (As := vR b :: As) F hP hS⟩ rfl (by rw [List.length_map]; exact hn) hl.1 ?_ (catZ hcat) d hf) K
  show ((As.reverse ++ vR b :: st).map cv) = _
  rw [List.map_append, List.map_reverse]
  rfl
end ZU
