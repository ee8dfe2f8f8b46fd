/-- the start of a walk of a method whose class has natives in bytecode's place, but not for it -/
theorem metofWF {l : Launch} {y : MethodName} {ws ws' : List Cond} {rm : Room} {Pc : Array Value → State → Prop} {Qc : Array Value → State → Outcome → State → Prop} {mc ms : Nat} {free : Addr → Prop} {cc : ByteArray} {maxL : Nat} {ret : Option FieldType}
    (hy : plainFor y = true) (hw : ws = Cond.code y cc maxL ret :: ws')
    (body : ∀ p e s m args below meth c s₁, BodyLoose p l y (headSpec ws rm) cc maxL ret e s m args below meth c s₁ → c.maxLocals = maxL → Pc args s →
      W p l e (headSpec ws rm).room s m args below meth c s.heap [] 0 0 (MQ below Qc args s mc ms free) (entryFrame m args maxL)) : Met l y ws rm Pc Qc mc ms free := by
  refine MetFree.of_bodySF (code := cc) (maxLocals := maxL) (ret := ret) hy ?_ ?_
  · intro args s m h hn
    obtain ⟨meth, c, h1, h2, h3, h4, h5, h6, -, -⟩ := Cond.code_spec hn (atoms_spec (ws := ws) h _ (by rw [hw]; exact List.mem_cons_self))
    exact ⟨meth, c, h1, h2, h3, h4, h5, h6⟩
  · intro p e s m args below meth c s₁ B hml hP _
    have hh0 : s₁.heap = s.heap := by rw [B.state]; rfl
    obtain ⟨t, a1, o, b1, b2, b3⟩ := body p e s m args below meth c s₁ B hml hP s₁ hh0 (Stand.of_body B)
    exact ⟨t, o, a1, b1, b2, ⟨b3.1, b3.2⟩⟩
theorem ct_ofF {l : Launch} {G : GG} {N0 : Nat} {h : Hp} {y : MethodName} {maxL : Nat} {ret : Option FieldType} {rm : Room} {as : List AV} {P : Option AV → Hp → Prop} {bc : ByteArray} (hy : plainFor y = true) (hlen : (lenA as).ble maxL = true)
    (body : ∀ (p : Program) (e : Env) (s : State) (m : MethodId) (args : Array Value) (below : List Frame) (meth : Method) (c : Code), Fx p s m args meth c y.cls bc maxL G N0 (cA h s.heap.size) → meth.sig.returnType = ret → meth.name = y.name →
      Z p l e rm s m args below meth c maxL G N0 (cA h s.heap.size) (MQ below (cQc G N0 h s.heap.size P) args s rm.cells rm.slots (cA h s.heap.size)) h 0 0 0 (lvA 0 as) []) : Ct l G N0 y (Cond.code y bc maxL ret :: LW) rm as h P := by
  intro sz
  refine metofWF (cc := bc) (maxL := maxL) (ret := ret) hy rfl ?_
  intro p e s m args below meth c s₁ B hml hv
  obtain ⟨rfl, rfl, hP, hKD, hSF⟩ := hv
  have hts := atoms_spec (ws := Cond.code y bc maxL ret :: LW) B.pre
  exact entry_Z hP hlen (body p e s m _ below meth c ⟨B.exec, B.bytes, hml, findClass_of_methodNamed B.named, fun w hw => hts w (List.mem_cons_of_mem _ hw), B.notSynchronized, hKD, hSF, fun q hq => Or.inr hq, fun q hq => cA_N hP hSF.1 q hq⟩ B.returns (name_of_methodNamed B.named B.method).1)
set_option maxRecDepth 100000 in
set_option maxHeartbeats 4000000 in
theorem mX9_lines (l : Launch) (G : GG) (N0 : Nat) (h : Hp) (g : Nat → Nat) (σ : Sg) (i9 : Int) (hI : MI g σ h) (hR : RG σ) (hV : MV σ) (r_i9 : -2147483648 ≤ i9 ∧ i9 < 2147483648) : Ct l G N0 yX9_lines (Cond.code yX9_lines cX9_lines 2 (some FieldType.int) :: LW) ({ frames := 2, cells := 0, slots := 0, locals := 70 }) [vR (g 0), vI i9] h (fun r h' => ((¬ (0 ≤ i9 ∧ i9 < σ 16 0)) ∧ r = some (vI 0) ∧ MI g (su σ 30 0 1) h') ∨ (¬ (¬ (0 ≤ i9 ∧ i9 < σ 16 0)) ∧ r = some (vI (σ 17 i9)) ∧ MI g (su σ 30 0 0) h')) := by
  refine ct_of rfl rfl ?_
  intro p e s m args below meth c F hr hnm
  have F : Fx p s m args meth c RX9 cX9_lines 2 G N0 (cA h s.heap.size) := F
  obtain ⟨v0, v1, v2, v8, v16, v24, v29, vC, vE, vL, vK, vT⟩ := id hV
  have L_i := vL i9
  show Z _ _ _ _ _ _ _ _ _ _ _ _ _ _ _ _ _ _ _ [(0, vR (g 0)), (1, vI i9)] []
  refine z_aload_n F dX9_lines_0 rfl 0 rfl ?_
  refine z_aload_n F dX9_lines_1 rfl 0 rfl ?_
  refine z_iload_n F dX9_lines_2 rfl 1 rfl ?_
  refine z_callV (As := [vI i9]) (st := [vR (g 0)]) F (mX9_isNoInvoice l G N0 h g σ i9 hI hR (by omega) (by omega)) cvX9_209 (mI hI 0 rfl) (fun r9 h9 => by cases h9; rfl) rfl rfl ⟨Nat.le_of_ble_eq_true rfl, Nat.le_of_ble_eq_true rfl⟩ rfl ⟨Nat.le_of_ble_eq_true rfl, Nat.le_of_ble_eq_true rfl⟩ dX9_lines_3 ?_
  rintro _ h9 ⟨rfl, hh9⟩
  rw [hh9]
  clear hh9 h9
  generalize ex1 : (if 0 ≤ i9 ∧ i9 < σ 16 0 then (0 : Int) else 1) = x1
  show Z _ _ _ _ _ _ _ _ _ _ _ _ _ _ _ _ _ _ _ _ [vI x1, vR (g 0)]
  refine z_if_eq (tgt := 13) F dX9_lines_6 (by decide) (by omega) (fun c6 => ?_) (fun c6 => ?_)
  · refine z_iconst F dX9_lines_13 ?_
    refine z_callV (As := [vI 0]) (st := []) F (mX9_fails l G N0 h g σ 0 hI hR (by decide)) cvX9_107 (mI hI 0 rfl) (fun r9 h9 => by cases h9; rfl) rfl rfl ⟨Nat.le_of_ble_eq_true rfl, Nat.le_of_ble_eq_true rfl⟩ rfl ⟨Nat.le_of_ble_eq_true rfl, Nat.le_of_ble_eq_true rfl⟩ dX9_lines_14 ?_
    rintro _ h2 ⟨rfl, Ih2⟩
    rw [if_neg (by decide)]
    show Z _ _ _ _ _ _ _ _ _ _ _ _ _ _ _ _ _ _ _ _ [vI 0]
    refine z_if_eq (tgt := 24) F dX9_lines_17 (by decide) (by decide) (fun c17 => ?_) (fun c17 => ?_)
    · refine z_aload_n F dX9_lines_24 rfl 0 rfl ?_
      refine z_get (v := vR (g 17)) F (mI Ih2 0 rfl) fX9_51 rfl dX9_lines_25 ?_
      refine z_iload_n F dX9_lines_28 rfl 1 rfl ?_
      refine z_iaload (N := 8) (f := fun j => σ 17 j) F (mI Ih2 17 rfl) (by omega) (by omega) (by omega) dX9_lines_29 ?_
      exact z_iret (nf_i _) F hr (Nat.le_of_ble_eq_true rfl) (Nat.le_of_ble_eq_true rfl) dX9_lines_30 (Or.inr (⟨by omega, rfl, Ih2⟩))
    · exact absurd c17 (by decide)
  · refine z_iconst F dX9_lines_9 ?_
    refine z_goto (tgt := 14) F dX9_lines_10 (by decide) ?_
    refine z_callV (As := [vI 1]) (st := []) F (mX9_fails l G N0 h g σ 1 hI hR (by decide)) cvX9_107 (mI hI 0 rfl) (fun r9 h9 => by cases h9; rfl) rfl rfl ⟨Nat.le_of_ble_eq_true rfl, Nat.le_of_ble_eq_true rfl⟩ rfl ⟨Nat.le_of_ble_eq_true rfl, Nat.le_of_ble_eq_true rfl⟩ dX9_lines_14 ?_
    rintro _ h3 ⟨rfl, Ih3⟩
    rw [if_pos (by decide)]
    show Z _ _ _ _ _ _ _ _ _ _ _ _ _ _ _ _ _ _ _ _ [vI 1]
    refine z_if_eq (tgt := 24) F dX9_lines_17 (by decide) (by decide) (fun c17 => ?_) (fun c17 => ?_)
    · exact absurd c17 (by decide)
    · refine z_iconst F dX9_lines_20 ?_
      refine z_goto (tgt := 30) F dX9_lines_21 (by decide) ?_
      exact z_iret (nf_i _) F hr (Nat.le_of_ble_eq_true rfl) (Nat.le_of_ble_eq_true rfl) dX9_lines_30 (Or.inl ⟨by omega, rfl, Ih3⟩)
set_option maxRecDepth 100000 in
set_option maxHeartbeats 4000000 in
theorem mX9_isNoLine (l : Launch) (G : GG) (N0 : Nat) (h : Hp) (g : Nat → Nat) (σ : Sg) (i9 q9 : Int) (hI : MI g σ h) (hR : RG σ) (hV : MV σ) (r_i9 : -2147483648 ≤ i9 ∧ i9 < 2147483648) (r_q9 : -2147483648 ≤ q9 ∧ q9 < 2147483648) : Ct l G N0 yX9_isNoLine (Cond.code yX9_isNoLine cX9_isNoLine 3 (some FieldType.boolean) :: LW) ({ frames := 2, cells := 0, slots := 0, locals := 70 }) [vR (g 0), vI i9, vI q9] h (fun r h' => (¬ ((0 ≤ i9 ∧ i9 < σ 16 0) ∧ (0 ≤ q9 ∧ q9 < σ 17 i9)) ∧ r = some (vI 1) ∧ MI g (su σ 30 0 1) h') ∨ (¬ ¬ ((0 ≤ i9 ∧ i9 < σ 16 0) ∧ (0 ≤ q9 ∧ q9 < σ 17 i9)) ∧ r = some (vI 0) ∧ MI g (su σ 30 0 0) h')) := by
  refine ct_of rfl rfl ?_
  intro p e s m args below meth c F hr hnm
  have F : Fx p s m args meth c RX9 cX9_isNoLine 3 G N0 (cA h s.heap.size) := F
  obtain ⟨v0, v1, v2, v8, v16, v24, v29, vC, vE, vL, vK, vT⟩ := id hV
  have L_i := vL i9
  show Z _ _ _ _ _ _ _ _ _ _ _ _ _ _ _ _ _ _ _ [(0, vR (g 0)), (1, vI i9), (2, vI q9)] []
  refine z_aload_n F dX9_isNoLine_0 rfl 0 rfl ?_
  refine z_aload_n F dX9_isNoLine_1 rfl 0 rfl ?_
  refine z_iload_n F dX9_isNoLine_2 rfl 1 rfl ?_
  refine z_callV (As := [vI i9]) (st := [vR (g 0)]) F (mX9_isNoInvoice l G N0 h g σ i9 hI hR (by omega) (by omega)) cvX9_209 (mI hI 0 rfl) (fun r9 h9 => by cases h9; rfl) rfl rfl ⟨Nat.le_of_ble_eq_true rfl, Nat.le_of_ble_eq_true rfl⟩ rfl ⟨Nat.le_of_ble_eq_true rfl, Nat.le_of_ble_eq_true rfl⟩ dX9_isNoLine_3 ?_
  rintro _ h9 ⟨rfl, hh9⟩
  rw [hh9]
  clear hh9 h9
  generalize ex1 : (if 0 ≤ i9 ∧ i9 < σ 16 0 then (0 : Int) else 1) = x1
  show Z _ _ _ _ _ _ _ _ _ _ _ _ _ _ _ _ _ _ _ _ [vI x1, vR (g 0)]
  refine z_if_ne (tgt := 25) F dX9_isNoLine_6 (by decide) (by omega) (fun c6 => ?_) (fun c6 => ?_)
  · refine z_iconst F dX9_isNoLine_25 ?_
    refine z_goto (tgt := 30) F dX9_isNoLine_26 (by decide) ?_
    refine z_callV (As := [vI 1]) (st := []) F (mX9_fails l G N0 h g σ 1 hI hR (by decide)) cvX9_107 (mI hI 0 rfl) (fun r9 h9 => by cases h9; rfl) rfl rfl ⟨Nat.le_of_ble_eq_true rfl, Nat.le_of_ble_eq_true rfl⟩ rfl ⟨Nat.le_of_ble_eq_true rfl, Nat.le_of_ble_eq_true rfl⟩ dX9_isNoLine_30 ?_
    rintro _ h2 ⟨rfl, Ih2⟩
    rw [if_pos (by decide)]
    show Z _ _ _ _ _ _ _ _ _ _ _ _ _ _ _ _ _ _ _ _ [vI 1]
    exact z_iret (nf_z (by omega)) F hr (Nat.le_of_ble_eq_true rfl) (Nat.le_of_ble_eq_true rfl) dX9_isNoLine_33 (Or.inl ⟨by omega, rI (by omega), Ih2⟩)
  · refine z_iload_n F dX9_isNoLine_9 rfl 2 rfl ?_
    refine z_iconst F dX9_isNoLine_10 ?_
    refine z_aload_n F dX9_isNoLine_11 rfl 0 rfl ?_
    refine z_get (v := vR (g 17)) F (mI hI 0 rfl) fX9_51 rfl dX9_isNoLine_12 ?_
    refine z_iload_n F dX9_isNoLine_15 rfl 1 rfl ?_
    refine z_iaload (N := 8) (f := fun j => σ 17 j) F (mI hI 17 rfl) (by omega) (by omega) (by omega) dX9_isNoLine_16 ?_
    refine z_iconst F dX9_isNoLine_17 ?_
    refine z_isub F dX9_isNoLine_18 ?_
    refine z_callS (As := [vI q9, vI 0, vI ((σ 17 i9) - 1)]) (st := [vR (g 0)]) F (mX9_in l G N0 h q9 0 ((σ 17 i9) - 1) (by omega) (by decide) (by omega)) csX9_93 rfl rfl ⟨Nat.le_of_ble_eq_true rfl, Nat.le_of_ble_eq_true rfl⟩ rfl ⟨Nat.le_of_ble_eq_true rfl, Nat.le_of_ble_eq_true rfl⟩ dX9_isNoLine_19 ?_
    rintro _ h9 ⟨rfl, hh9⟩
    rw [hh9]
    clear hh9 h9
    generalize ex3 : (if 0 ≤ q9 ∧ q9 ≤ (σ 17 i9) - 1 then (1 : Int) else 0) = x3
    show Z _ _ _ _ _ _ _ _ _ _ _ _ _ _ _ _ _ _ _ _ [vI x3, vR (g 0)]
    refine z_if_ne (tgt := 29) F dX9_isNoLine_22 (by decide) (by omega) (fun c22 => ?_) (fun c22 => ?_)
    · refine z_iconst F dX9_isNoLine_29 ?_
      refine z_callV (As := [vI 0]) (st := []) F (mX9_fails l G N0 h g σ 0 hI hR (by decide)) cvX9_107 (mI hI 0 rfl) (fun r9 h9 => by cases h9; rfl) rfl rfl ⟨Nat.le_of_ble_eq_true rfl, Nat.le_of_ble_eq_true rfl⟩ rfl ⟨Nat.le_of_ble_eq_true rfl, Nat.le_of_ble_eq_true rfl⟩ dX9_isNoLine_30 ?_
      rintro _ h4 ⟨rfl, Ih4⟩
      rw [if_neg (by decide)]
      show Z _ _ _ _ _ _ _ _ _ _ _ _ _ _ _ _ _ _ _ _ [vI 0]
      exact z_iret (nf_z (by omega)) F hr (Nat.le_of_ble_eq_true rfl) (Nat.le_of_ble_eq_true rfl) dX9_isNoLine_33 (Or.inr ⟨by omega, rI (by omega), Ih4⟩)
    · refine z_iconst F dX9_isNoLine_25 ?_
      refine z_goto (tgt := 30) F dX9_isNoLine_26 (by decide) ?_
      refine z_callV (As := [vI 1]) (st := []) F (mX9_fails l G N0 h g σ 1 hI hR (by decide)) cvX9_107 (mI hI 0 rfl) (fun r9 h9 => by cases h9; rfl) rfl rfl ⟨Nat.le_of_ble_eq_true rfl, Nat.le_of_ble_eq_true rfl⟩ rfl ⟨Nat.le_of_ble_eq_true rfl, Nat.le_of_ble_eq_true rfl⟩ dX9_isNoLine_30 ?_
      rintro _ h5 ⟨rfl, Ih5⟩
      rw [if_pos (by decide)]
      show Z _ _ _ _ _ _ _ _ _ _ _ _ _ _ _ _ _ _ _ _ [vI 1]
      exact z_iret (nf_z (by omega)) F hr (Nat.le_of_ble_eq_true rfl) (Nat.le_of_ble_eq_true rfl) dX9_isNoLine_33 (Or.inl ⟨by omega, rI (by omega), Ih5⟩)
set_option maxRecDepth 100000 in
set_option maxHeartbeats 4000000 in
theorem mX9_lineKind (l : Launch) (G : GG) (N0 : Nat) (h : Hp) (g : Nat → Nat) (σ : Sg) (i9 q9 : Int) (hI : MI g σ h) (hR : RG σ) (hV : MV σ) (r_i9 : -2147483648 ≤ i9 ∧ i9 < 2147483648) (r_q9 : -2147483648 ≤ q9 ∧ q9 < 2147483648) : Ct l G N0 yX9_lineKind (Cond.code yX9_lineKind cX9_lineKind 3 (some FieldType.char) :: LW) ({ frames := 3, cells := 0, slots := 0, locals := 110 }) [vR (g 0), vI i9, vI q9] h (fun r h' => ((¬ ((0 ≤ i9 ∧ i9 < σ 16 0) ∧ (0 ≤ q9 ∧ q9 < σ 17 i9))) ∧ r = some (vI 32) ∧ MI g (su σ 30 0 1) h') ∨ (¬ (¬ ((0 ≤ i9 ∧ i9 < σ 16 0) ∧ (0 ≤ q9 ∧ q9 < σ 17 i9))) ∧ r = some (vI (σ 19 (40 * i9 + q9))) ∧ MI g (su σ 30 0 0) h')) := by
  refine ct_of rfl rfl ?_
  intro p e s m args below meth c F hr hnm
  have F : Fx p s m args meth c RX9 cX9_lineKind 3 G N0 (cA h s.heap.size) := F
  obtain ⟨v0, v1, v2, v8, v16, v24, v29, vC, vE, vL, vK, vT⟩ := id hV
  have L_i := vL i9
  have Q_i := fun q1 q2 q3 q4 q5 => ((L_i q1 q2).2 q3).2.2 q9 q4 q5
  show Z _ _ _ _ _ _ _ _ _ _ _ _ _ _ _ _ _ _ _ [(0, vR (g 0)), (1, vI i9), (2, vI q9)] []
  refine z_aload_n F dX9_lineKind_0 rfl 0 rfl ?_
  refine z_iload_n F dX9_lineKind_1 rfl 1 rfl ?_
  refine z_iload_n F dX9_lineKind_2 rfl 2 rfl ?_
  refine z_callV (As := [vI i9, vI q9]) (st := []) F (mX9_isNoLine l G N0 h g σ i9 q9 hI hR hV (by omega) (by omega)) cvX9_212 (mI hI 0 rfl) (fun r9 h9 => by cases h9; rfl) rfl rfl ⟨Nat.le_of_ble_eq_true rfl, Nat.le_of_ble_eq_true rfl⟩ rfl ⟨Nat.le_of_ble_eq_true rfl, Nat.le_of_ble_eq_true rfl⟩ dX9_lineKind_3 ?_
  intro r9 h1 hp9
  obtain ⟨x2, rfl, ex2, Ih1⟩ : ∃ z : Int, r9 = some (vI z) ∧ ((¬ ((0 ≤ i9 ∧ i9 < σ 16 0) ∧ (0 ≤ q9 ∧ q9 < σ 17 i9)) ∧ z = 1) ∨ (¬ ¬ ((0 ≤ i9 ∧ i9 < σ 16 0) ∧ (0 ≤ q9 ∧ q9 < σ 17 i9)) ∧ z = 0)) ∧ MI g (su σ 30 0 z) h1 := by rcases hp9 with ⟨a1, a2, a3⟩ | ⟨a1, a2, a3⟩ <;> first | exact ⟨1, a2, Or.inl ⟨a1, rfl⟩, a3⟩ | exact ⟨0, a2, Or.inr ⟨a1, rfl⟩, a3⟩
  show Z _ _ _ _ _ _ _ _ _ _ _ _ _ _ _ _ _ _ _ _ [vI x2]
  refine z_if_eq (tgt := 14) F dX9_lineKind_6 (by decide) (by omega) (fun c6 => ?_) (fun c6 => ?_)
  · refine z_aload_n F dX9_lineKind_14 rfl 0 rfl ?_
    refine z_get (v := vR (g 19)) F (mI Ih1 0 rfl) fX9_57 rfl dX9_lineKind_15 ?_
    refine z_bipush F dX9_lineKind_18 (by decide) ?_
    refine z_iload_n F dX9_lineKind_20 rfl 1 rfl ?_
    refine z_imul F dX9_lineKind_21 ?_
    refine z_iload_n F dX9_lineKind_22 rfl 2 rfl ?_
    refine z_iadd F dX9_lineKind_23 ?_
    refine z_caload (N := 320) (f := fun j => σ 19 j) F (mI Ih1 19 rfl) (by omega) (by omega) (by omega) dX9_lineKind_24 ?_
    exact z_iret (nf_c (by omega)) F hr (Nat.le_of_ble_eq_true rfl) (Nat.le_of_ble_eq_true rfl) dX9_lineKind_25 (by have z9 : x2 = 0 := (by omega); rw [z9] at Ih1; exact Or.inr ⟨by omega, rfl, Ih1⟩)
  · refine z_bipush F dX9_lineKind_9 (by decide) ?_
    refine z_goto (tgt := 25) F dX9_lineKind_11 (by decide) ?_
    exact z_iret (nf_c (by omega)) F hr (Nat.le_of_ble_eq_true rfl) (Nat.le_of_ble_eq_true rfl) dX9_lineKind_25 (by have z9 : x2 = 1 := (by omega); rw [z9] at Ih1; exact Or.inl ⟨by omega, rfl, Ih1⟩)
set_option maxRecDepth 100000 in
set_option maxHeartbeats 4000000 in
theorem mX9_lineMinutes (l : Launch) (G : GG) (N0 : Nat) (h : Hp) (g : Nat → Nat) (σ : Sg) (i9 q9 : Int) (hI : MI g σ h) (hR : RG σ) (hV : MV σ) (r_i9 : -2147483648 ≤ i9 ∧ i9 < 2147483648) (r_q9 : -2147483648 ≤ q9 ∧ q9 < 2147483648) : Ct l G N0 yX9_lineMinutes (Cond.code yX9_lineMinutes cX9_lineMinutes 3 (some FieldType.int) :: LW) ({ frames := 3, cells := 0, slots := 0, locals := 110 }) [vR (g 0), vI i9, vI q9] h (fun r h' => ((¬ ((0 ≤ i9 ∧ i9 < σ 16 0) ∧ (0 ≤ q9 ∧ q9 < σ 17 i9))) ∧ r = some (vI 0) ∧ MI g (su σ 30 0 1) h') ∨ (¬ (¬ ((0 ≤ i9 ∧ i9 < σ 16 0) ∧ (0 ≤ q9 ∧ q9 < σ 17 i9))) ∧ r = some (vI (σ 20 (40 * i9 + q9))) ∧ MI g (su σ 30 0 0) h')) := by
  refine ct_of rfl rfl ?_
  intro p e s m args below meth c F hr hnm
  have F : Fx p s m args meth c RX9 cX9_lineMinutes 3 G N0 (cA h s.heap.size) := F
  obtain ⟨v0, v1, v2, v8, v16, v24, v29, vC, vE, vL, vK, vT⟩ := id hV
  have L_i := vL i9
  show Z _ _ _ _ _ _ _ _ _ _ _ _ _ _ _ _ _ _ _ [(0, vR (g 0)), (1, vI i9), (2, vI q9)] []
  refine z_aload_n F dX9_lineMinutes_0 rfl 0 rfl ?_
  refine z_iload_n F dX9_lineMinutes_1 rfl 1 rfl ?_
  refine z_iload_n F dX9_lineMinutes_2 rfl 2 rfl ?_
  refine z_callV (As := [vI i9, vI q9]) (st := []) F (mX9_isNoLine l G N0 h g σ i9 q9 hI hR hV (by omega) (by omega)) cvX9_212 (mI hI 0 rfl) (fun r9 h9 => by cases h9; rfl) rfl rfl ⟨Nat.le_of_ble_eq_true rfl, Nat.le_of_ble_eq_true rfl⟩ rfl ⟨Nat.le_of_ble_eq_true rfl, Nat.le_of_ble_eq_true rfl⟩ dX9_lineMinutes_3 ?_
  intro r9 h1 hp9
  obtain ⟨x2, rfl, ex2, Ih1⟩ : ∃ z : Int, r9 = some (vI z) ∧ ((¬ ((0 ≤ i9 ∧ i9 < σ 16 0) ∧ (0 ≤ q9 ∧ q9 < σ 17 i9)) ∧ z = 1) ∨ (¬ ¬ ((0 ≤ i9 ∧ i9 < σ 16 0) ∧ (0 ≤ q9 ∧ q9 < σ 17 i9)) ∧ z = 0)) ∧ MI g (su σ 30 0 z) h1 := by rcases hp9 with ⟨a1, a2, a3⟩ | ⟨a1, a2, a3⟩ <;> first | exact ⟨1, a2, Or.inl ⟨a1, rfl⟩, a3⟩ | exact ⟨0, a2, Or.inr ⟨a1, rfl⟩, a3⟩
  show Z _ _ _ _ _ _ _ _ _ _ _ _ _ _ _ _ _ _ _ _ [vI x2]
  refine z_if_eq (tgt := 13) F dX9_lineMinutes_6 (by decide) (by omega) (fun c6 => ?_) (fun c6 => ?_)
  · refine z_aload_n F dX9_lineMinutes_13 rfl 0 rfl ?_
    refine z_get (v := vR (g 20)) F (mI Ih1 0 rfl) fX9_60 rfl dX9_lineMinutes_14 ?_
    refine z_bipush F dX9_lineMinutes_17 (by decide) ?_
    refine z_iload_n F dX9_lineMinutes_19 rfl 1 rfl ?_
    refine z_imul F dX9_lineMinutes_20 ?_
    refine z_iload_n F dX9_lineMinutes_21 rfl 2 rfl ?_
    refine z_iadd F dX9_lineMinutes_22 ?_
    refine z_iaload (N := 320) (f := fun j => σ 20 j) F (mI Ih1 20 rfl) (by omega) (by omega) (by omega) dX9_lineMinutes_23 ?_
    exact z_iret (nf_i _) F hr (Nat.le_of_ble_eq_true rfl) (Nat.le_of_ble_eq_true rfl) dX9_lineMinutes_24 (by have z9 : x2 = 0 := (by omega); rw [z9] at Ih1; exact Or.inr ⟨by omega, rfl, Ih1⟩)
  · refine z_iconst F dX9_lineMinutes_9 ?_
    refine z_goto (tgt := 24) F dX9_lineMinutes_10 (by decide) ?_
    exact z_iret (nf_i _) F hr (Nat.le_of_ble_eq_true rfl) (Nat.le_of_ble_eq_true rfl) dX9_lineMinutes_24 (by have z9 : x2 = 1 := (by omega); rw [z9] at Ih1; exact Or.inl ⟨by omega, rfl, Ih1⟩)
set_option maxRecDepth 100000 in
set_option maxHeartbeats 4000000 in
theorem mX9_lineSubject (l : Launch) (G : GG) (N0 : Nat) (h : Hp) (g : Nat → Nat) (σ : Sg) (i9 q9 : Int) (hI : MI g σ h) (hR : RG σ) (hV : MV σ) (r_i9 : -2147483648 ≤ i9 ∧ i9 < 2147483648) (r_q9 : -2147483648 ≤ q9 ∧ q9 < 2147483648) : Ct l G N0 yX9_lineSubject (Cond.code yX9_lineSubject cX9_lineSubject 3 (some FieldType.int) :: LW) ({ frames := 3, cells := 0, slots := 0, locals := 110 }) [vR (g 0), vI i9, vI q9] h (fun r h' => ((¬ ((0 ≤ i9 ∧ i9 < σ 16 0) ∧ (0 ≤ q9 ∧ q9 < σ 17 i9))) ∧ r = some (vI 0) ∧ MI g (su σ 30 0 1) h') ∨ (¬ (¬ ((0 ≤ i9 ∧ i9 < σ 16 0) ∧ (0 ≤ q9 ∧ q9 < σ 17 i9))) ∧ r = some (vI (σ 21 (40 * i9 + q9))) ∧ MI g (su σ 30 0 0) h')) := by
  refine ct_of rfl rfl ?_
  intro p e s m args below meth c F hr hnm
  have F : Fx p s m args meth c RX9 cX9_lineSubject 3 G N0 (cA h s.heap.size) := F
  obtain ⟨v0, v1, v2, v8, v16, v24, v29, vC, vE, vL, vK, vT⟩ := id hV
  have L_i := vL i9
  show Z _ _ _ _ _ _ _ _ _ _ _ _ _ _ _ _ _ _ _ [(0, vR (g 0)), (1, vI i9), (2, vI q9)] []
  refine z_aload_n F dX9_lineSubject_0 rfl 0 rfl ?_
  refine z_iload_n F dX9_lineSubject_1 rfl 1 rfl ?_
  refine z_iload_n F dX9_lineSubject_2 rfl 2 rfl ?_
  refine z_callV (As := [vI i9, vI q9]) (st := []) F (mX9_isNoLine l G N0 h g σ i9 q9 hI hR hV (by omega) (by omega)) cvX9_212 (mI hI 0 rfl) (fun r9 h9 => by cases h9; rfl) rfl rfl ⟨Nat.le_of_ble_eq_true rfl, Nat.le_of_ble_eq_true rfl⟩ rfl ⟨Nat.le_of_ble_eq_true rfl, Nat.le_of_ble_eq_true rfl⟩ dX9_lineSubject_3 ?_
  intro r9 h1 hp9
  obtain ⟨x2, rfl, ex2, Ih1⟩ : ∃ z : Int, r9 = some (vI z) ∧ ((¬ ((0 ≤ i9 ∧ i9 < σ 16 0) ∧ (0 ≤ q9 ∧ q9 < σ 17 i9)) ∧ z = 1) ∨ (¬ ¬ ((0 ≤ i9 ∧ i9 < σ 16 0) ∧ (0 ≤ q9 ∧ q9 < σ 17 i9)) ∧ z = 0)) ∧ MI g (su σ 30 0 z) h1 := by rcases hp9 with ⟨a1, a2, a3⟩ | ⟨a1, a2, a3⟩ <;> first | exact ⟨1, a2, Or.inl ⟨a1, rfl⟩, a3⟩ | exact ⟨0, a2, Or.inr ⟨a1, rfl⟩, a3⟩
  show Z _ _ _ _ _ _ _ _ _ _ _ _ _ _ _ _ _ _ _ _ [vI x2]
  refine z_if_eq (tgt := 13) F dX9_lineSubject_6 (by decide) (by omega) (fun c6 => ?_) (fun c6 => ?_)
  · refine z_aload_n F dX9_lineSubject_13 rfl 0 rfl ?_
    refine z_get (v := vR (g 21)) F (mI Ih1 0 rfl) fX9_63 rfl dX9_lineSubject_14 ?_
    refine z_bipush F dX9_lineSubject_17 (by decide) ?_
    refine z_iload_n F dX9_lineSubject_19 rfl 1 rfl ?_
    refine z_imul F dX9_lineSubject_20 ?_
    refine z_iload_n F dX9_lineSubject_21 rfl 2 rfl ?_
    refine z_iadd F dX9_lineSubject_22 ?_
    refine z_iaload (N := 320) (f := fun j => σ 21 j) F (mI Ih1 21 rfl) (by omega) (by omega) (by omega) dX9_lineSubject_23 ?_
    exact z_iret (nf_i _) F hr (Nat.le_of_ble_eq_true rfl) (Nat.le_of_ble_eq_true rfl) dX9_lineSubject_24 (by have z9 : x2 = 0 := (by omega); rw [z9] at Ih1; exact Or.inr ⟨by omega, rfl, Ih1⟩)
  · refine z_iconst F dX9_lineSubject_9 ?_
    refine z_goto (tgt := 24) F dX9_lineSubject_10 (by decide) ?_
    exact z_iret (nf_i _) F hr (Nat.le_of_ble_eq_true rfl) (Nat.le_of_ble_eq_true rfl) dX9_lineSubject_24 (by have z9 : x2 = 1 := (by omega); rw [z9] at Ih1; exact Or.inl ⟨by omega, rfl, Ih1⟩)
set_option maxRecDepth 100000 in
set_option maxHeartbeats 4000000 in
theorem mX9_lineAmount (l : Launch) (G : GG) (N0 : Nat) (h : Hp) (g : Nat → Nat) (σ : Sg) (i9 q9 : Int) (hI : MI g σ h) (hR : RG σ) (hV : MV σ) (r_i9 : -2147483648 ≤ i9 ∧ i9 < 2147483648) (r_q9 : -2147483648 ≤ q9 ∧ q9 < 2147483648) : Ct l G N0 yX9_lineAmount (Cond.code yX9_lineAmount cX9_lineAmount 3 (some FieldType.float) :: LW) ({ frames := 3, cells := 0, slots := 0, locals := 110 }) [vR (g 0), vI i9, vI q9] h (fun r h' => ((¬ ((0 ≤ i9 ∧ i9 < σ 16 0) ∧ (0 ≤ q9 ∧ q9 < σ 17 i9))) ∧ r = some (vF 0) ∧ MI g (su σ 30 0 1) h') ∨ (¬ (¬ ((0 ≤ i9 ∧ i9 < σ 16 0) ∧ (0 ≤ q9 ∧ q9 < σ 17 i9))) ∧ r = some (vF (fb (σ 22 (40 * i9 + q9)))) ∧ MI g (su σ 30 0 0) h')) := by
  refine ct_of rfl rfl ?_
  intro p e s m args below meth c F hr hnm
  have F : Fx p s m args meth c RX9 cX9_lineAmount 3 G N0 (cA h s.heap.size) := F
  obtain ⟨v0, v1, v2, v8, v16, v24, v29, vC, vE, vL, vK, vT⟩ := id hV
  have L_i := vL i9
  show Z _ _ _ _ _ _ _ _ _ _ _ _ _ _ _ _ _ _ _ [(0, vR (g 0)), (1, vI i9), (2, vI q9)] []
  refine z_aload_n F dX9_lineAmount_0 rfl 0 rfl ?_
  refine z_iload_n F dX9_lineAmount_1 rfl 1 rfl ?_
  refine z_iload_n F dX9_lineAmount_2 rfl 2 rfl ?_
  refine z_callV (As := [vI i9, vI q9]) (st := []) F (mX9_isNoLine l G N0 h g σ i9 q9 hI hR hV (by omega) (by omega)) cvX9_212 (mI hI 0 rfl) (fun r9 h9 => by cases h9; rfl) rfl rfl ⟨Nat.le_of_ble_eq_true rfl, Nat.le_of_ble_eq_true rfl⟩ rfl ⟨Nat.le_of_ble_eq_true rfl, Nat.le_of_ble_eq_true rfl⟩ dX9_lineAmount_3 ?_
  intro r9 h1 hp9
  obtain ⟨x2, rfl, ex2, Ih1⟩ : ∃ z : Int, r9 = some (vI z) ∧ ((¬ ((0 ≤ i9 ∧ i9 < σ 16 0) ∧ (0 ≤ q9 ∧ q9 < σ 17 i9)) ∧ z = 1) ∨ (¬ ¬ ((0 ≤ i9 ∧ i9 < σ 16 0) ∧ (0 ≤ q9 ∧ q9 < σ 17 i9)) ∧ z = 0)) ∧ MI g (su σ 30 0 z) h1 := by rcases hp9 with ⟨a1, a2, a3⟩ | ⟨a1, a2, a3⟩ <;> first | exact ⟨1, a2, Or.inl ⟨a1, rfl⟩, a3⟩ | exact ⟨0, a2, Or.inr ⟨a1, rfl⟩, a3⟩
  show Z _ _ _ _ _ _ _ _ _ _ _ _ _ _ _ _ _ _ _ _ [vI x2]
  refine z_if_eq (tgt := 13) F dX9_lineAmount_6 (by decide) (by omega) (fun c6 => ?_) (fun c6 => ?_)
  · refine z_aload_n F dX9_lineAmount_13 rfl 0 rfl ?_
    refine z_get (v := vR (g 22)) F (mI Ih1 0 rfl) fX9_66 rfl dX9_lineAmount_14 ?_
    refine z_bipush F dX9_lineAmount_17 (by decide) ?_
    refine z_iload_n F dX9_lineAmount_19 rfl 1 rfl ?_
    refine z_imul F dX9_lineAmount_20 ?_
    refine z_iload_n F dX9_lineAmount_21 rfl 2 rfl ?_
    refine z_iadd F dX9_lineAmount_22 ?_
    refine z_faload (N := 320) (f := fun j => fb (σ 22 j)) F (mI Ih1 22 rfl) (by omega) (by omega) (by omega) dX9_lineAmount_23 ?_
    exact z_fret F hr (Nat.le_of_ble_eq_true rfl) (Nat.le_of_ble_eq_true rfl) dX9_lineAmount_24 (by have z9 : x2 = 0 := (by omega); rw [z9] at Ih1; exact Or.inr ⟨by omega, rfl, Ih1⟩)
  · refine z_fconst0 F dX9_lineAmount_9 ?_
    refine z_goto (tgt := 24) F dX9_lineAmount_10 (by decide) ?_
    exact z_fret F hr (Nat.le_of_ble_eq_true rfl) (Nat.le_of_ble_eq_true rfl) dX9_lineAmount_24 (by have z9 : x2 = 1 := (by omega); rw [z9] at Ih1; exact Or.inl ⟨by omega, rfl, Ih1⟩)
set_option maxRecDepth 100000 in
set_option maxHeartbeats 4000000 in
theorem mX9_total (l : Launch) (G : GG) (N0 : Nat) (h : Hp) (g : Nat → Nat) (σ : Sg) (i9 : Int) (hI : MI g σ h) (hR : RG σ) (hV : MV σ) (r_i9 : -2147483648 ≤ i9 ∧ i9 < 2147483648) : Ct l G N0 yX9_total (Cond.code yX9_total cX9_total 2 (some FieldType.float) :: LW) ({ frames := 2, cells := 0, slots := 0, locals := 70 }) [vR (g 0), vI i9] h (fun r h' => ((¬ (0 ≤ i9 ∧ i9 < σ 16 0)) ∧ r = some (vF 0) ∧ MI g (su σ 30 0 1) h') ∨ (¬ (¬ (0 ≤ i9 ∧ i9 < σ 16 0)) ∧ r = some (vF (fb (σ 23 i9))) ∧ MI g (su σ 30 0 0) h')) := by
  refine ct_of rfl rfl ?_
  intro p e s m args below meth c F hr hnm
  have F : Fx p s m args meth c RX9 cX9_total 2 G N0 (cA h s.heap.size) := F
  obtain ⟨v0, v1, v2, v8, v16, v24, v29, vC, vE, vL, vK, vT⟩ := id hV
  have L_i := vL i9
  show Z _ _ _ _ _ _ _ _ _ _ _ _ _ _ _ _ _ _ _ [(0, vR (g 0)), (1, vI i9)] []
  refine z_aload_n F dX9_total_0 rfl 0 rfl ?_
  refine z_aload_n F dX9_total_1 rfl 0 rfl ?_
  refine z_iload_n F dX9_total_2 rfl 1 rfl ?_
  refine z_callV (As := [vI i9]) (st := [vR (g 0)]) F (mX9_isNoInvoice l G N0 h g σ i9 hI hR (by omega) (by omega)) cvX9_209 (mI hI 0 rfl) (fun r9 h9 => by cases h9; rfl) rfl rfl ⟨Nat.le_of_ble_eq_true rfl, Nat.le_of_ble_eq_true rfl⟩ rfl ⟨Nat.le_of_ble_eq_true rfl, Nat.le_of_ble_eq_true rfl⟩ dX9_total_3 ?_
  rintro _ h9 ⟨rfl, hh9⟩
  rw [hh9]
  clear hh9 h9
  generalize ex1 : (if 0 ≤ i9 ∧ i9 < σ 16 0 then (0 : Int) else 1) = x1
  show Z _ _ _ _ _ _ _ _ _ _ _ _ _ _ _ _ _ _ _ _ [vI x1, vR (g 0)]
  refine z_if_eq (tgt := 13) F dX9_total_6 (by decide) (by omega) (fun c6 => ?_) (fun c6 => ?_)
  · refine z_iconst F dX9_total_13 ?_
    refine z_callV (As := [vI 0]) (st := []) F (mX9_fails l G N0 h g σ 0 hI hR (by decide)) cvX9_107 (mI hI 0 rfl) (fun r9 h9 => by cases h9; rfl) rfl rfl ⟨Nat.le_of_ble_eq_true rfl, Nat.le_of_ble_eq_true rfl⟩ rfl ⟨Nat.le_of_ble_eq_true rfl, Nat.le_of_ble_eq_true rfl⟩ dX9_total_14 ?_
    rintro _ h2 ⟨rfl, Ih2⟩
    rw [if_neg (by decide)]
    show Z _ _ _ _ _ _ _ _ _ _ _ _ _ _ _ _ _ _ _ _ [vI 0]
    refine z_if_eq (tgt := 24) F dX9_total_17 (by decide) (by decide) (fun c17 => ?_) (fun c17 => ?_)
    · refine z_aload_n F dX9_total_24 rfl 0 rfl ?_
      refine z_get (v := vR (g 23)) F (mI Ih2 0 rfl) fX9_70 rfl dX9_total_25 ?_
      refine z_iload_n F dX9_total_28 rfl 1 rfl ?_
      refine z_faload (N := 8) (f := fun j => fb (σ 23 j)) F (mI Ih2 23 rfl) (by omega) (by omega) (by omega) dX9_total_29 ?_
      exact z_fret F hr (Nat.le_of_ble_eq_true rfl) (Nat.le_of_ble_eq_true rfl) dX9_total_30 (Or.inr (⟨by omega, rfl, Ih2⟩))
    · exact absurd c17 (by decide)
  · refine z_iconst F dX9_total_9 ?_
    refine z_goto (tgt := 14) F dX9_total_10 (by decide) ?_
    refine z_callV (As := [vI 1]) (st := []) F (mX9_fails l G N0 h g σ 1 hI hR (by decide)) cvX9_107 (mI hI 0 rfl) (fun r9 h9 => by cases h9; rfl) rfl rfl ⟨Nat.le_of_ble_eq_true rfl, Nat.le_of_ble_eq_true rfl⟩ rfl ⟨Nat.le_of_ble_eq_true rfl, Nat.le_of_ble_eq_true rfl⟩ dX9_total_14 ?_
    rintro _ h3 ⟨rfl, Ih3⟩
    rw [if_pos (by decide)]
    show Z _ _ _ _ _ _ _ _ _ _ _ _ _ _ _ _ _ _ _ _ [vI 1]
    refine z_if_eq (tgt := 24) F dX9_total_17 (by decide) (by decide) (fun c17 => ?_) (fun c17 => ?_)
    · exact absurd c17 (by decide)
    · refine z_fconst0 F dX9_total_20 ?_
      refine z_goto (tgt := 30) F dX9_total_21 (by decide) ?_
      exact z_fret F hr (Nat.le_of_ble_eq_true rfl) (Nat.le_of_ble_eq_true rfl) dX9_total_30 (Or.inl ⟨by omega, rfl, Ih3⟩)
set_option maxRecDepth 100000 in
set_option maxHeartbeats 4000000 in
theorem mX9_totalCents (l : Launch) (G : GG) (N0 : Nat) (h : Hp) (g : Nat → Nat) (σ : Sg) (i9 : Int) (hI : MI g σ h) (hR : RG σ) (hV : MV σ) (r_i9 : -2147483648 ≤ i9 ∧ i9 < 2147483648) : Ct l G N0 yX9_totalCents (Cond.code yX9_totalCents cX9_totalCents 2 (some FieldType.int) :: LW) ({ frames := 2, cells := 0, slots := 0, locals := 70 }) [vR (g 0), vI i9] h (fun r h' => ((¬ (0 ≤ i9 ∧ i9 < σ 16 0)) ∧ r = some (vI 0) ∧ MI g (su σ 30 0 1) h') ∨ (¬ (¬ (0 ≤ i9 ∧ i9 < σ 16 0)) ∧ r = some (vI (FP.f2i (fb (σ 23 i9))).toInt) ∧ MI g (su σ 30 0 0) h')) := by
  refine ct_of rfl rfl ?_
  intro p e s m args below meth c F hr hnm
  have F : Fx p s m args meth c RX9 cX9_totalCents 2 G N0 (cA h s.heap.size) := F
  obtain ⟨v0, v1, v2, v8, v16, v24, v29, vC, vE, vL, vK, vT⟩ := id hV
  have L_i := vL i9
  show Z _ _ _ _ _ _ _ _ _ _ _ _ _ _ _ _ _ _ _ [(0, vR (g 0)), (1, vI i9)] []
  refine z_aload_n F dX9_totalCents_0 rfl 0 rfl ?_
  refine z_aload_n F dX9_totalCents_1 rfl 0 rfl ?_
  refine z_iload_n F dX9_totalCents_2 rfl 1 rfl ?_
  refine z_callV (As := [vI i9]) (st := [vR (g 0)]) F (mX9_isNoInvoice l G N0 h g σ i9 hI hR (by omega) (by omega)) cvX9_209 (mI hI 0 rfl) (fun r9 h9 => by cases h9; rfl) rfl rfl ⟨Nat.le_of_ble_eq_true rfl, Nat.le_of_ble_eq_true rfl⟩ rfl ⟨Nat.le_of_ble_eq_true rfl, Nat.le_of_ble_eq_true rfl⟩ dX9_totalCents_3 ?_
  rintro _ h9 ⟨rfl, hh9⟩
  rw [hh9]
  clear hh9 h9
  generalize ex1 : (if 0 ≤ i9 ∧ i9 < σ 16 0 then (0 : Int) else 1) = x1
  show Z _ _ _ _ _ _ _ _ _ _ _ _ _ _ _ _ _ _ _ _ [vI x1, vR (g 0)]
  refine z_if_eq (tgt := 13) F dX9_totalCents_6 (by decide) (by omega) (fun c6 => ?_) (fun c6 => ?_)
  · refine z_iconst F dX9_totalCents_13 ?_
    refine z_callV (As := [vI 0]) (st := []) F (mX9_fails l G N0 h g σ 0 hI hR (by decide)) cvX9_107 (mI hI 0 rfl) (fun r9 h9 => by cases h9; rfl) rfl rfl ⟨Nat.le_of_ble_eq_true rfl, Nat.le_of_ble_eq_true rfl⟩ rfl ⟨Nat.le_of_ble_eq_true rfl, Nat.le_of_ble_eq_true rfl⟩ dX9_totalCents_14 ?_
    rintro _ h2 ⟨rfl, Ih2⟩
    rw [if_neg (by decide)]
    show Z _ _ _ _ _ _ _ _ _ _ _ _ _ _ _ _ _ _ _ _ [vI 0]
    refine z_if_eq (tgt := 24) F dX9_totalCents_17 (by decide) (by decide) (fun c17 => ?_) (fun c17 => ?_)
    · refine z_aload_n F dX9_totalCents_24 rfl 0 rfl ?_
      refine z_get (v := vR (g 23)) F (mI Ih2 0 rfl) fX9_70 rfl dX9_totalCents_25 ?_
      refine z_iload_n F dX9_totalCents_28 rfl 1 rfl ?_
      refine z_faload (N := 8) (f := fun j => fb (σ 23 j)) F (mI Ih2 23 rfl) (by omega) (by omega) (by omega) dX9_totalCents_29 ?_
      refine z_f2i F dX9_totalCents_30 ?_
      exact z_iret (nf_i _) F hr (Nat.le_of_ble_eq_true rfl) (Nat.le_of_ble_eq_true rfl) dX9_totalCents_31 (Or.inr (⟨by omega, rfl, Ih2⟩))
    · exact absurd c17 (by decide)
  · refine z_iconst F dX9_totalCents_9 ?_
    refine z_goto (tgt := 14) F dX9_totalCents_10 (by decide) ?_
    refine z_callV (As := [vI 1]) (st := []) F (mX9_fails l G N0 h g σ 1 hI hR (by decide)) cvX9_107 (mI hI 0 rfl) (fun r9 h9 => by cases h9; rfl) rfl rfl ⟨Nat.le_of_ble_eq_true rfl, Nat.le_of_ble_eq_true rfl⟩ rfl ⟨Nat.le_of_ble_eq_true rfl, Nat.le_of_ble_eq_true rfl⟩ dX9_totalCents_14 ?_
    rintro _ h3 ⟨rfl, Ih3⟩
    rw [if_pos (by decide)]
    show Z _ _ _ _ _ _ _ _ _ _ _ _ _ _ _ _ _ _ _ _ [vI 1]
    refine z_if_eq (tgt := 24) F dX9_totalCents_17 (by decide) (by decide) (fun c17 => ?_) (fun c17 => ?_)
    · exact absurd c17 (by decide)
    · refine z_iconst F dX9_totalCents_20 ?_
      refine z_goto (tgt := 31) F dX9_totalCents_21 (by decide) ?_
      exact z_iret (nf_i _) F hr (Nat.le_of_ble_eq_true rfl) (Nat.le_of_ble_eq_true rfl) dX9_totalCents_31 (Or.inl ⟨by omega, rfl, Ih3⟩)
set_option maxRecDepth 100000 in
set_option maxHeartbeats 4000000 in
theorem mX9_adds (l : Launch) (G : GG) (N0 : Nat) (h : Hp) (g : Nat → Nat) (σ : Sg) (kd sb mi : Int) (K : Nat) (hI : MI g σ h) (hR : RG σ) (v16 : 0 ≤ σ 16 0 ∧ σ 16 0 < 8) (hln : 0 ≤ σ 17 (σ 16 0) ∧ σ 17 (σ 16 0) < 40) (hpy : 0 ≤ σ 18 (σ 16 0) ∧ σ 18 (σ 16 0) < 5) (hra : 0 ≤ σ 6 (σ 18 (σ 16 0)) ∧ σ 6 (σ 18 (σ 16 0)) ≤ 50000) (hmi : -100000 ≤ mi ∧ mi ≤ 100000) (hK : 159 ≤ K ∧ K ≤ 250) (hT : MG K (fb (σ 23 (σ 16 0)))) (r_kd : 0 ≤ kd ∧ kd < 65536) (r_sb : -2147483648 ≤ sb ∧ sb < 2147483648) : Ct l G N0 yX9_adds (Cond.code yX9_adds cX9_adds 5 none :: LW) ({ frames := 0, cells := 0, slots := 0, locals := 0 }) [vR (g 0), vI kd, vI sb, vI mi] h (fun r h' => r = none ∧ MI g (adS σ kd sb mi) h') := by
  refine ct_of rfl rfl ?_
  intro p e s m args below meth c F hr hnm
  have F : Fx p s m args meth c RX9 cX9_adds 5 G N0 (cA h s.heap.size) := F
  have ham : MG 159 (amt mi (σ 6 (σ 18 (σ 16 0)))) := mg_amt (by omega) (by omega)
  have hmu := mg_mul (z := mi) (r := σ 6 (σ 18 (σ 16 0))) (by omega) (by omega)
  have had := mg_add hT (ham.le hK.1) (by omega)
  show Z _ _ _ _ _ _ _ _ _ _ _ _ _ _ _ _ _ _ _ [(0, vR (g 0)), (1, vI kd), (2, vI sb), (3, vI mi)] []
  refine z_bipush F dX9_adds_0 (by decide) ?_
  refine z_aload_n F dX9_adds_2 rfl 0 rfl ?_
  refine z_get (v := vI (σ 16 0)) F (mI hI 0 rfl) fX9_192 rfl dX9_adds_3 ?_
  refine z_imul F dX9_adds_6 ?_
  refine z_aload_n F dX9_adds_7 rfl 0 rfl ?_
  refine z_get (v := vR (g 17)) F (mI hI 0 rfl) fX9_51 rfl dX9_adds_8 ?_
  refine z_aload_n F dX9_adds_11 rfl 0 rfl ?_
  refine z_get (v := vI (σ 16 0)) F (mI hI 0 rfl) fX9_192 rfl dX9_adds_12 ?_
  refine z_iaload (N := 8) (f := fun j => σ 17 j) F (mI hI 17 rfl) (by omega) (by omega) (by omega) dX9_adds_15 ?_
  refine z_iadd F dX9_adds_16 ?_
  refine z_istore (lv' := [(4, vI ((40 * (σ 16 0)) + (σ 17 (σ 16 0)))), (0, vR (g 0)), (1, vI kd), (2, vI sb), (3, vI mi)]) F dX9_adds_17 (by decide) rfl ?_
  refine z_aload_n F dX9_adds_19 rfl 1 rfl ?_
  refine z_get (v := vR (g 19)) F (mI hI 0 rfl) fX9_57 rfl dX9_adds_20 ?_
  refine z_iload F dX9_adds_23 0 rfl ?_
  refine z_iload_n F dX9_adds_25 rfl 2 rfl ?_
  obtain ⟨h1, eh1, Ih1⟩ : ∃ z : Hp, hu h (g 19) (eA 1 320 (fun j => vI (if j = (40 * (σ 16 0)) + (σ 17 (σ 16 0)) then kd else σ 19 j))) = z ∧ MI g (su σ 19 ((40 * (σ 16 0)) + (σ 17 (σ 16 0))) kd) z := ⟨_, rfl, mP hI 19 rfl rfl ((40 * (σ 16 0)) + (σ 17 (σ 16 0))) kd⟩
  refine z_castore (N := 320) (f := fun j => σ 19 j) (h' := h1) F (mI hI 19 rfl) (nf_c (by omega)) (by omega) (by omega) (by omega) dX9_adds_26 eh1 ?_
  refine z_aload_n F dX9_adds_27 rfl 1 rfl ?_
  refine z_get (v := vR (g 21)) F (mI Ih1 0 rfl) fX9_63 rfl dX9_adds_28 ?_
  refine z_iload F dX9_adds_31 0 rfl ?_
  refine z_iload_n F dX9_adds_33 rfl 3 rfl ?_
  obtain ⟨h2, eh2, Ih2⟩ : ∃ z : Hp, hu h1 (g 21) (eA 0 320 (fun j => vI (if j = (40 * (σ 16 0)) + (σ 17 (σ 16 0)) then sb else σ 21 j))) = z ∧ MI g (su (su σ 19 ((40 * (σ 16 0)) + (σ 17 (σ 16 0))) kd) 21 ((40 * (σ 16 0)) + (σ 17 (σ 16 0))) sb) z := ⟨_, rfl, mP Ih1 21 rfl rfl ((40 * (σ 16 0)) + (σ 17 (σ 16 0))) sb⟩
  refine z_iastore (N := 320) (f := fun j => σ 21 j) (h' := h2) F (mI Ih1 21 rfl) (by omega) (by omega) (by omega) dX9_adds_34 eh2 ?_
  refine z_aload_n F dX9_adds_35 rfl 1 rfl ?_
  refine z_get (v := vR (g 20)) F (mI Ih2 0 rfl) fX9_60 rfl dX9_adds_36 ?_
  refine z_iload F dX9_adds_39 0 rfl ?_
  refine z_iload_n F dX9_adds_41 rfl 4 rfl ?_
  obtain ⟨h3, eh3, Ih3⟩ : ∃ z : Hp, hu h2 (g 20) (eA 0 320 (fun j => vI (if j = (40 * (σ 16 0)) + (σ 17 (σ 16 0)) then mi else σ 20 j))) = z ∧ MI g (su (su (su σ 19 ((40 * (σ 16 0)) + (σ 17 (σ 16 0))) kd) 21 ((40 * (σ 16 0)) + (σ 17 (σ 16 0))) sb) 20 ((40 * (σ 16 0)) + (σ 17 (σ 16 0))) mi) z := ⟨_, rfl, mP Ih2 20 rfl rfl ((40 * (σ 16 0)) + (σ 17 (σ 16 0))) mi⟩
  refine z_iastore (N := 320) (f := fun j => σ 20 j) (h' := h3) F (mI Ih2 20 rfl) (by omega) (by omega) (by omega) dX9_adds_42 eh3 ?_
  refine z_aload_n F dX9_adds_43 rfl 1 rfl ?_
  refine z_get (v := vR (g 22)) F (mI Ih3 0 rfl) fX9_66 rfl dX9_adds_44 ?_
  refine z_iload F dX9_adds_47 0 rfl ?_
  refine z_iload_n F dX9_adds_49 rfl 4 rfl ?_
  refine z_i2f F dX9_adds_50 ?_
  refine z_aload_n F dX9_adds_51 rfl 1 rfl ?_
  refine z_get (v := vR (g 6)) F (mI Ih3 0 rfl) fX9_24 rfl dX9_adds_52 ?_
  refine z_aload_n F dX9_adds_55 rfl 1 rfl ?_
  refine z_get (v := vR (g 18)) F (mI Ih3 0 rfl) fX9_54 rfl dX9_adds_56 ?_
  refine z_aload_n F dX9_adds_59 rfl 1 rfl ?_
  refine z_get (v := vI (σ 16 0)) F (mI Ih3 0 rfl) fX9_192 rfl dX9_adds_60 ?_
  refine z_iaload (N := 8) (f := fun j => σ 18 j) F (mI Ih3 18 rfl) (by omega) (by omega) (by omega) dX9_adds_63 ?_
  refine z_iaload (N := 5) (f := fun j => σ 6 j) F (mI Ih3 6 rfl) (by omega) (by omega) (by omega) dX9_adds_64 ?_
  refine z_i2f F dX9_adds_65 ?_
  refine z_fmul F dX9_adds_66 (hmu.n (by decide)) ?_
  refine z_ldcf F q1799 dX9_adds_67 ?_
  refine z_fdiv F dX9_adds_69 (ham.n (by decide)) ?_
  obtain ⟨h4, eh4, Ih4⟩ : ∃ z : Hp, hu h3 (g 22) (eA 2 320 (fun j => vF (if j = (40 * (σ 16 0)) + (σ 17 (σ 16 0)) then FP.fdiv (FP.fmul (FP.i2f (iI mi)) (FP.i2f (iI (σ 6 (σ 18 (σ 16 0)))))) 1114636288 else fb (σ 22 j)))) = z ∧ MI g (su (su (su (su σ 19 ((40 * (σ 16 0)) + (σ 17 (σ 16 0))) kd) 21 ((40 * (σ 16 0)) + (σ 17 (σ 16 0))) sb) 20 ((40 * (σ 16 0)) + (σ 17 (σ 16 0))) mi) 22 ((40 * (σ 16 0)) + (σ 17 (σ 16 0))) (fi (FP.fdiv (FP.fmul (FP.i2f (iI mi)) (FP.i2f (iI (σ 6 (σ 18 (σ 16 0)))))) 1114636288))) z := ⟨_, rfl, mPf Ih3 22 rfl ((40 * (σ 16 0)) + (σ 17 (σ 16 0))) (FP.fdiv (FP.fmul (FP.i2f (iI mi)) (FP.i2f (iI (σ 6 (σ 18 (σ 16 0)))))) 1114636288)⟩
  refine z_fastore (N := 320) (f := fun j => fb (σ 22 j)) (h' := h4) F (mI Ih3 22 rfl) (by omega) (by omega) (by omega) dX9_adds_70 eh4 ?_
  refine z_aload_n F dX9_adds_71 rfl 1 rfl ?_
  refine z_get (v := vR (g 23)) F (mI Ih4 0 rfl) fX9_70 rfl dX9_adds_72 ?_
  refine z_aload_n F dX9_adds_75 rfl 1 rfl ?_
  refine z_get (v := vI (σ 16 0)) F (mI Ih4 0 rfl) fX9_192 rfl dX9_adds_76 ?_
  refine z_dup2 F dX9_adds_79 rfl rfl ?_
  refine z_faload (N := 8) (f := fun j => fb (σ 23 j)) F (mI Ih4 23 rfl) (by omega) (by omega) (by omega) dX9_adds_80 ?_
  refine z_aload_n F dX9_adds_81 rfl 1 rfl ?_
  refine z_get (v := vR (g 22)) F (mI Ih4 0 rfl) fX9_66 rfl dX9_adds_82 ?_
  refine z_iload F dX9_adds_85 0 rfl ?_
  refine z_faload (N := 320) (f := fun j => fb (if j = (40 * (σ 16 0)) + (σ 17 (σ 16 0)) then fi (FP.fdiv (FP.fmul (FP.i2f (iI mi)) (FP.i2f (iI (σ 6 (σ 18 (σ 16 0)))))) 1114636288) else σ 22 j)) F (mI Ih4 22 rfl) (by omega) (by omega) (by omega) dX9_adds_87 ?_
  refine z_fadd F dX9_adds_88 (by rw [if_pos rfl, fb_fi]; exact had.n (by omega)) ?_
  obtain ⟨h5, eh5, Ih5⟩ : ∃ z : Hp, hu h4 (g 23) (eA 2 8 (fun j => vF (if j = σ 16 0 then FP.fadd (fb (σ 23 (σ 16 0))) (fb (if ((40 * (σ 16 0)) + (σ 17 (σ 16 0))) = (40 * (σ 16 0)) + (σ 17 (σ 16 0)) then fi (FP.fdiv (FP.fmul (FP.i2f (iI mi)) (FP.i2f (iI (σ 6 (σ 18 (σ 16 0)))))) 1114636288) else σ 22 ((40 * (σ 16 0)) + (σ 17 (σ 16 0))))) else fb (σ 23 j)))) = z ∧ MI g (su (su (su (su (su σ 19 ((40 * (σ 16 0)) + (σ 17 (σ 16 0))) kd) 21 ((40 * (σ 16 0)) + (σ 17 (σ 16 0))) sb) 20 ((40 * (σ 16 0)) + (σ 17 (σ 16 0))) mi) 22 ((40 * (σ 16 0)) + (σ 17 (σ 16 0))) (fi (FP.fdiv (FP.fmul (FP.i2f (iI mi)) (FP.i2f (iI (σ 6 (σ 18 (σ 16 0)))))) 1114636288))) 23 (σ 16 0) (fi (FP.fadd (fb (σ 23 (σ 16 0))) (fb (if ((40 * (σ 16 0)) + (σ 17 (σ 16 0))) = (40 * (σ 16 0)) + (σ 17 (σ 16 0)) then fi (FP.fdiv (FP.fmul (FP.i2f (iI mi)) (FP.i2f (iI (σ 6 (σ 18 (σ 16 0)))))) 1114636288) else σ 22 ((40 * (σ 16 0)) + (σ 17 (σ 16 0)))))))) z := ⟨_, rfl, mPf Ih4 23 rfl (σ 16 0) (FP.fadd (fb (σ 23 (σ 16 0))) (fb (if ((40 * (σ 16 0)) + (σ 17 (σ 16 0))) = (40 * (σ 16 0)) + (σ 17 (σ 16 0)) then fi (FP.fdiv (FP.fmul (FP.i2f (iI mi)) (FP.i2f (iI (σ 6 (σ 18 (σ 16 0)))))) 1114636288) else σ 22 ((40 * (σ 16 0)) + (σ 17 (σ 16 0))))))⟩
  refine z_fastore (N := 8) (f := fun j => fb (σ 23 j)) (h' := h5) F (mI Ih4 23 rfl) (by omega) (by omega) (by omega) dX9_adds_89 eh5 ?_
  refine z_aload_n F dX9_adds_90 rfl 1 rfl ?_
  refine z_get (v := vR (g 17)) F (mI Ih5 0 rfl) fX9_51 rfl dX9_adds_91 ?_
  refine z_aload_n F dX9_adds_94 rfl 1 rfl ?_
  refine z_get (v := vI (σ 16 0)) F (mI Ih5 0 rfl) fX9_192 rfl dX9_adds_95 ?_
  refine z_dup2 F dX9_adds_98 rfl rfl ?_
  refine z_iaload (N := 8) (f := fun j => σ 17 j) F (mI Ih5 17 rfl) (by omega) (by omega) (by omega) dX9_adds_99 ?_
  refine z_iconst F dX9_adds_100 ?_
  refine z_iadd F dX9_adds_101 ?_
  obtain ⟨h6, eh6, Ih6⟩ : ∃ z : Hp, hu h5 (g 17) (eA 0 8 (fun j => vI (if j = σ 16 0 then (σ 17 (σ 16 0)) + 1 else σ 17 j))) = z ∧ MI g (su (su (su (su (su (su σ 19 ((40 * (σ 16 0)) + (σ 17 (σ 16 0))) kd) 21 ((40 * (σ 16 0)) + (σ 17 (σ 16 0))) sb) 20 ((40 * (σ 16 0)) + (σ 17 (σ 16 0))) mi) 22 ((40 * (σ 16 0)) + (σ 17 (σ 16 0))) (fi (FP.fdiv (FP.fmul (FP.i2f (iI mi)) (FP.i2f (iI (σ 6 (σ 18 (σ 16 0)))))) 1114636288))) 23 (σ 16 0) (fi (FP.fadd (fb (σ 23 (σ 16 0))) (fb (if ((40 * (σ 16 0)) + (σ 17 (σ 16 0))) = (40 * (σ 16 0)) + (σ 17 (σ 16 0)) then fi (FP.fdiv (FP.fmul (FP.i2f (iI mi)) (FP.i2f (iI (σ 6 (σ 18 (σ 16 0)))))) 1114636288) else σ 22 ((40 * (σ 16 0)) + (σ 17 (σ 16 0)))))))) 17 (σ 16 0) ((σ 17 (σ 16 0)) + 1)) z := ⟨_, rfl, mP Ih5 17 rfl rfl (σ 16 0) ((σ 17 (σ 16 0)) + 1)⟩
  refine z_iastore (N := 8) (f := fun j => σ 17 j) (h' := h6) F (mI Ih5 17 rfl) (by omega) (by omega) (by omega) dX9_adds_102 eh6 ?_
  exact z_vret F hr (Nat.le_of_ble_eq_true rfl) (Nat.le_of_ble_eq_true rfl) dX9_adds_103 (⟨rfl, by have q9 := Ih6; rw [if_pos rfl, fb_fi] at q9; exact q9⟩)
set_option maxRecDepth 100000 in
set_option maxHeartbeats 4000000 in
theorem mJxf58ca_isNaN_12338 (l : Launch) (G : GG) (N0 : Nat) (h : Hp) (x : UInt32) (hx : x.toNat % 2 ^ 31 ≤ 2139095040) : Ct l G N0 yJxf58ca_isNaN_12338 (Cond.code yJxf58ca_isNaN_12338 cJxf58ca_isNaN_12338 1 (some FieldType.boolean) :: LW) ({ frames := 0, cells := 0, slots := 0, locals := 0 }) [vF x] h (fun r h' => r = some (vI 0) ∧ h' = h) := by
  refine ct_ofF (by decide +kernel) rfl ?_
  intro p e s m args below meth c F hr hnm
  have F : Fx p s m args meth c RJxf58ca cJxf58ca_isNaN_12338 1 G N0 (cA h s.heap.size) := F
  show Z _ _ _ _ _ _ _ _ _ _ _ _ _ _ _ _ _ _ _ [(0, vF x)] []
  refine z_fload_n F dJxf58ca_isNaN_12338_0 rfl 0 rfl ?_
  refine z_fload_n F dJxf58ca_isNaN_12338_1 rfl 0 rfl ?_
  refine z_fcmp (op := .l) F dJxf58ca_isNaN_12338_2 ?_
  refine z_if_eq (tgt := 10) F dJxf58ca_isNaN_12338_3 (by decide) (iI_rng _) (fun c3 => ?_) (fun c3 => ?_)
  · refine z_iconst F dJxf58ca_isNaN_12338_10 ?_
    exact z_iret (nf_z (by omega)) F hr (Nat.le_of_ble_eq_true rfl) (Nat.le_of_ble_eq_true rfl) dJxf58ca_isNaN_12338_11 (⟨rfl, rfl⟩)
  · exact absurd (nan_f hx) c3
set_option maxRecDepth 100000 in
set_option maxHeartbeats 4000000 in
theorem mJxe99ae_isNaN_b9ae7 (l : Launch) (G : GG) (N0 : Nat) (h : Hp) (x : UInt64) (hx : x.toNat % 2 ^ 63 ≤ 9218868437227405312) : Ct l G N0 yJxe99ae_isNaN_b9ae7 (Cond.code yJxe99ae_isNaN_b9ae7 cJxe99ae_isNaN_b9ae7 2 (some FieldType.boolean) :: LW) ({ frames := 0, cells := 0, slots := 0, locals := 0 }) [vD x] h (fun r h' => r = some (vI 0) ∧ h' = h) := by
  refine ct_of rfl rfl ?_
  intro p e s m args below meth c F hr hnm
  have F : Fx p s m args meth c RJxe99ae cJxe99ae_isNaN_b9ae7 2 G N0 (cA h s.heap.size) := F
  show Z _ _ _ _ _ _ _ _ _ _ _ _ _ _ _ _ _ _ _ [(0, vD x)] []
  refine z_dload_n F dJxe99ae_isNaN_b9ae7_0 rfl 0 rfl ?_
  refine z_dload_n F dJxe99ae_isNaN_b9ae7_1 rfl 0 rfl ?_
  refine z_dcmp (op := .l) F dJxe99ae_isNaN_b9ae7_2 ?_
  refine z_if_eq (tgt := 10) F dJxe99ae_isNaN_b9ae7_3 (by decide) (iI_rng _) (fun c3 => ?_) (fun c3 => ?_)
  · refine z_iconst F dJxe99ae_isNaN_b9ae7_10 ?_
    exact z_iret (nf_z (by omega)) F hr (Nat.le_of_ble_eq_true rfl) (Nat.le_of_ble_eq_true rfl) dJxe99ae_isNaN_b9ae7_11 (⟨rfl, rfl⟩)
  · exact absurd (nan_d hx) c3
set_option maxRecDepth 100000 in
set_option maxHeartbeats 4000000 in
theorem mJxf58ca_floatToIntBits_5c35a (l : Launch) (G : GG) (N0 : Nat) (h : Hp) (x : UInt32) (hx : x.toNat % 2 ^ 31 ≤ 2139095040) : Ct l G N0 yJxf58ca_floatToIntBits_5c35a (Cond.code yJxf58ca_floatToIntBits_5c35a cJxf58ca_floatToIntBits_5c35a 1 (some FieldType.int) :: LW) ({ frames := 1, cells := 0, slots := 0, locals := 40 }) [vF x] h (fun r h' => r = some (vI (fi x)) ∧ h' = h) := by
  refine ct_ofF (by decide +kernel) rfl ?_
  intro p e s m args below meth c F hr hnm
  have F : Fx p s m args meth c RJxf58ca cJxf58ca_floatToIntBits_5c35a 1 G N0 (cA h s.heap.size) := F
  show Z _ _ _ _ _ _ _ _ _ _ _ _ _ _ _ _ _ _ _ [(0, vF x)] []
  refine z_fload_n F dJxf58ca_floatToIntBits_5c35a_0 rfl 0 rfl ?_
  refine z_callS (As := [vF x]) (st := []) F (mJxf58ca_isNaN_12338 l G N0 h x hx) csJxf58ca_59 rfl rfl ⟨Nat.le_of_ble_eq_true rfl, Nat.le_of_ble_eq_true rfl⟩ rfl ⟨Nat.le_of_ble_eq_true rfl, Nat.le_of_ble_eq_true rfl⟩ dJxf58ca_floatToIntBits_5c35a_1 ?_
  rintro _ h9 ⟨rfl, hh9⟩
  rw [hh9]
  clear hh9 h9
  show Z _ _ _ _ _ _ _ _ _ _ _ _ _ _ _ _ _ _ _ _ [vI 0]
  refine z_if_ne (tgt := 12) F dJxf58ca_floatToIntBits_5c35a_4 (by decide) (by decide) (fun c4 => ?_) (fun c4 => ?_)
  · exact absurd c4 (by decide)
  · refine z_fload_n F dJxf58ca_floatToIntBits_5c35a_7 rfl 0 rfl ?_
    refine z_f2raw F q1846 q1848 q1847 q35 (Nat.le_of_ble_eq_true rfl) (Nat.le_of_ble_eq_true rfl) dJxf58ca_floatToIntBits_5c35a_8 ?_
    exact z_iret (nf_i _) F hr (Nat.le_of_ble_eq_true rfl) (Nat.le_of_ble_eq_true rfl) dJxf58ca_floatToIntBits_5c35a_11 (⟨rfl, rfl⟩)
set_option maxRecDepth 100000 in
set_option maxHeartbeats 4000000 in
theorem mJxe99ae_doubleToLongBits_ccdee (l : Launch) (G : GG) (N0 : Nat) (h : Hp) (x : UInt64) (hx : x.toNat % 2 ^ 63 ≤ 9218868437227405312) : Ct l G N0 yJxe99ae_doubleToLongBits_ccdee (Cond.code yJxe99ae_doubleToLongBits_ccdee cJxe99ae_doubleToLongBits_ccdee 2 (some FieldType.long) :: LW) ({ frames := 1, cells := 0, slots := 0, locals := 40 }) [vD x] h (fun r h' => r = some (vL x.toInt64.toInt) ∧ h' = h) := by
  refine ct_of rfl rfl ?_
  intro p e s m args below meth c F hr hnm
  have F : Fx p s m args meth c RJxe99ae cJxe99ae_doubleToLongBits_ccdee 2 G N0 (cA h s.heap.size) := F
  show Z _ _ _ _ _ _ _ _ _ _ _ _ _ _ _ _ _ _ _ [(0, vD x)] []
  refine z_dload_n F dJxe99ae_doubleToLongBits_ccdee_0 rfl 0 rfl ?_
  refine z_callS (As := [vD x]) (st := []) F (mJxe99ae_isNaN_b9ae7 l G N0 h x hx) csJxe99ae_122 rfl rfl ⟨Nat.le_of_ble_eq_true rfl, Nat.le_of_ble_eq_true rfl⟩ rfl ⟨Nat.le_of_ble_eq_true rfl, Nat.le_of_ble_eq_true rfl⟩ dJxe99ae_doubleToLongBits_ccdee_1 ?_
  rintro _ h9 ⟨rfl, hh9⟩
  rw [hh9]
  clear hh9 h9
  show Z _ _ _ _ _ _ _ _ _ _ _ _ _ _ _ _ _ _ _ _ [vI 0]
  refine z_if_ne (tgt := 12) F dJxe99ae_doubleToLongBits_ccdee_4 (by decide) (by decide) (fun c4 => ?_) (fun c4 => ?_)
  · exact absurd c4 (by decide)
  · refine z_dload_n F dJxe99ae_doubleToLongBits_ccdee_7 rfl 0 rfl ?_
    refine z_d2raw F q1898 q1900 q1899 q38 (Nat.le_of_ble_eq_true rfl) (Nat.le_of_ble_eq_true rfl) dJxe99ae_doubleToLongBits_ccdee_8 ?_
    exact z_lret F hr (Nat.le_of_ble_eq_true rfl) (Nat.le_of_ble_eq_true rfl) dJxe99ae_doubleToLongBits_ccdee_11 (⟨rfl, rfl⟩)
set_option maxRecDepth 100000 in
set_option maxHeartbeats 4000000 in
theorem mX9_totalBits (l : Launch) (G : GG) (N0 : Nat) (h : Hp) (g : Nat → Nat) (σ : Sg) (i9 : Int) (hI : MI g σ h) (hR : RG σ) (hV : MV σ) (hF : ∀ i, 0 ≤ i → i < 8 → MG 255 (fb (σ 23 i))) (r_i9 : -2147483648 ≤ i9 ∧ i9 < 2147483648) : Ct l G N0 yX9_totalBits (Cond.code yX9_totalBits cX9_totalBits 2 (some FieldType.int) :: LW) ({ frames := 3, cells := 0, slots := 0, locals := 110 }) [vR (g 0), vI i9] h (fun r h' => ((¬ (0 ≤ i9 ∧ i9 < σ 16 0)) ∧ r = some (vI 0) ∧ MI g (su σ 30 0 1) h') ∨ (¬ (¬ (0 ≤ i9 ∧ i9 < σ 16 0)) ∧ r = some (vI (σ 23 i9)) ∧ MI g (su σ 30 0 0) h')) := by
  refine ct_of rfl rfl ?_
  intro p e s m args below meth c F hr hnm
  have F : Fx p s m args meth c RX9 cX9_totalBits 2 G N0 (cA h s.heap.size) := F
  obtain ⟨v0, v1, v2, v8, v16, v24, v29, vC, vE, vL, vK, vT⟩ := id hV
  have L_i := vL i9
  show Z _ _ _ _ _ _ _ _ _ _ _ _ _ _ _ _ _ _ _ [(0, vR (g 0)), (1, vI i9)] []
  refine z_aload_n F dX9_totalBits_0 rfl 0 rfl ?_
  refine z_aload_n F dX9_totalBits_1 rfl 0 rfl ?_
  refine z_iload_n F dX9_totalBits_2 rfl 1 rfl ?_
  refine z_callV (As := [vI i9]) (st := [vR (g 0)]) F (mX9_isNoInvoice l G N0 h g σ i9 hI hR (by omega) (by omega)) cvX9_209 (mI hI 0 rfl) (fun r9 h9 => by cases h9; rfl) rfl rfl ⟨Nat.le_of_ble_eq_true rfl, Nat.le_of_ble_eq_true rfl⟩ rfl ⟨Nat.le_of_ble_eq_true rfl, Nat.le_of_ble_eq_true rfl⟩ dX9_totalBits_3 ?_
  rintro _ h9 ⟨rfl, hh9⟩
  rw [hh9]
  clear hh9 h9
  generalize ex1 : (if 0 ≤ i9 ∧ i9 < σ 16 0 then (0 : Int) else 1) = x1
  show Z _ _ _ _ _ _ _ _ _ _ _ _ _ _ _ _ _ _ _ _ [vI x1, vR (g 0)]
  refine z_if_eq (tgt := 13) F dX9_totalBits_6 (by decide) (by omega) (fun c6 => ?_) (fun c6 => ?_)
  · refine z_iconst F dX9_totalBits_13 ?_
    refine z_callV (As := [vI 0]) (st := []) F (mX9_fails l G N0 h g σ 0 hI hR (by decide)) cvX9_107 (mI hI 0 rfl) (fun r9 h9 => by cases h9; rfl) rfl rfl ⟨Nat.le_of_ble_eq_true rfl, Nat.le_of_ble_eq_true rfl⟩ rfl ⟨Nat.le_of_ble_eq_true rfl, Nat.le_of_ble_eq_true rfl⟩ dX9_totalBits_14 ?_
    rintro _ h2 ⟨rfl, Ih2⟩
    rw [if_neg (by decide)]
    show Z _ _ _ _ _ _ _ _ _ _ _ _ _ _ _ _ _ _ _ _ [vI 0]
    refine z_if_eq (tgt := 24) F dX9_totalBits_17 (by decide) (by decide) (fun c17 => ?_) (fun c17 => ?_)
    · refine z_aload_n F dX9_totalBits_24 rfl 0 rfl ?_
      refine z_get (v := vR (g 23)) F (mI Ih2 0 rfl) fX9_70 rfl dX9_totalBits_25 ?_
      refine z_iload_n F dX9_totalBits_28 rfl 1 rfl ?_
      refine z_faload (N := 8) (f := fun j => fb (σ 23 j)) F (mI Ih2 23 rfl) (by omega) (by omega) (by omega) dX9_totalBits_29 ?_
      refine z_callS (As := [vF (fb (σ 23 i9))]) (st := []) F (mJxf58ca_floatToIntBits_5c35a l G N0 h2 (fb (σ 23 i9)) ((hF i9 (by omega) (by omega)).i (by decide))) csX9_215 rfl rfl ⟨Nat.le_of_ble_eq_true rfl, Nat.le_of_ble_eq_true rfl⟩ rfl ⟨Nat.le_of_ble_eq_true rfl, Nat.le_of_ble_eq_true rfl⟩ dX9_totalBits_30 ?_
      rintro _ h9 ⟨rfl, hh9⟩
      rw [hh9]
      clear hh9 h9
      show Z _ _ _ _ _ _ _ _ _ _ _ _ _ _ _ _ _ _ _ _ [vI (fi (fb (σ 23 i9)))]
      exact z_iret (nf_i _) F hr (Nat.le_of_ble_eq_true rfl) (Nat.le_of_ble_eq_true rfl) dX9_totalBits_33 (Or.inr ⟨by omega, rI (fi_fb (hR 23 i9)), Ih2⟩)
    · exact absurd c17 (by decide)
  · refine z_iconst F dX9_totalBits_9 ?_
    refine z_goto (tgt := 14) F dX9_totalBits_10 (by decide) ?_
    refine z_callV (As := [vI 1]) (st := []) F (mX9_fails l G N0 h g σ 1 hI hR (by decide)) cvX9_107 (mI hI 0 rfl) (fun r9 h9 => by cases h9; rfl) rfl rfl ⟨Nat.le_of_ble_eq_true rfl, Nat.le_of_ble_eq_true rfl⟩ rfl ⟨Nat.le_of_ble_eq_true rfl, Nat.le_of_ble_eq_true rfl⟩ dX9_totalBits_14 ?_
    rintro _ h3 ⟨rfl, Ih3⟩
    rw [if_pos (by decide)]
    show Z _ _ _ _ _ _ _ _ _ _ _ _ _ _ _ _ _ _ _ _ [vI 1]
    refine z_if_eq (tgt := 24) F dX9_totalBits_17 (by decide) (by decide) (fun c17 => ?_) (fun c17 => ?_)
    · exact absurd c17 (by decide)
    · refine z_iconst F dX9_totalBits_20 ?_
      refine z_goto (tgt := 33) F dX9_totalBits_21 (by decide) ?_
      exact z_iret (nf_i _) F hr (Nat.le_of_ble_eq_true rfl) (Nat.le_of_ble_eq_true rfl) dX9_totalBits_33 (Or.inl ⟨by omega, rfl, Ih3⟩)
set_option maxRecDepth 100000 in
set_option maxHeartbeats 4000000 in
theorem mX9_hasCorrection (l : Launch) (G : GG) (N0 : Nat) (h : Hp) (g : Nat → Nat) (σ : Sg) (c9 : Int) (hI : MI g σ h) (hR : RG σ) (hV : MV σ) (r_c9 : -2147483648 ≤ c9 ∧ c9 < 2147483648) : Ct l G N0 yX9_hasCorrection (Cond.code yX9_hasCorrection cX9_hasCorrection 3 (some FieldType.boolean) :: LW) ({ frames := 0, cells := 0, slots := 0, locals := 0 }) [vR (g 0), vI c9] h (fun r h' => r = some (vI (hcF σ c9 (σ 24 0).toNat)) ∧ h' = h) := by
  refine ct_of rfl rfl ?_
  intro p e s m args below meth c F hr hnm
  have F : Fx p s m args meth c RX9 cX9_hasCorrection 3 G N0 (cA h s.heap.size) := F
  obtain ⟨v0, v1, v2, v8, v16, v24, v29, vC, vE, vL, vK, vT⟩ := id hV
  obtain ⟨Q, hQ⟩ : ∃ z, z = MQ below (cQc G N0 h s.heap.size (fun r h' => r = some (vI (hcF σ c9 (σ 24 0).toNat)) ∧ h' = h)) args s 0 0 (cA h s.heap.size) := ⟨_, rfl⟩
  rw [← hQ]
  show Z _ _ _ _ _ _ _ _ _ _ _ _ _ _ _ _ _ _ _ [(0, vR (g 0)), (1, vI c9)] []
  refine z_iconst F dX9_hasCorrection_0 ?_
  refine z_istore_n (lv' := [(2, vI 0), (0, vR (g 0)), (1, vI c9)]) F dX9_hasCorrection_1 rfl (by decide) rfl ?_
  have L2 : ∀ (fuel : Nat) (i9 : Int), (0 ≤ i9) → (i9 ≤ σ 24 0) → (hcF σ c9 i9.toNat = 0) → σ 24 0 - i9 < (fuel : Int) → Z p l e ({ frames := 0, cells := 0, slots := 0, locals := 0 }) s m args below meth c 3 G N0 (cA h s.heap.size) Q h 0 0 2 [(2, vI i9), (0, vR (g 0)), (1, vI c9)] [] := by
    intro fuel
    induction fuel with
    | zero => intro i9  ha hb hn hm; exact absurd hm (by omega)
    | succ fuel ih2 =>
      intro i9  ha hb hn hm
      have K_i := vK i9 ha
      have K_e := vE (σ 25 i9)
      refine z_iload_n F dX9_hasCorrection_2 rfl 0 rfl ?_
      refine z_aload_n F dX9_hasCorrection_3 rfl 1 rfl ?_
      refine z_get (v := vI (σ 24 0)) F (mI hI 0 rfl) fX9_196 rfl dX9_hasCorrection_4 ?_
      refine z_icmp_ge (tgt := 42) F dX9_hasCorrection_7 (by decide) (by omega) (hR 24 0) (fun c7 => ?_) (fun c7 => ?_)
      · refine z_iconst F dX9_hasCorrection_42 ?_
        rw [hQ]
        exact z_iret (nf_z (by omega)) F hr (Nat.le_of_ble_eq_true rfl) (Nat.le_of_ble_eq_true rfl) dX9_hasCorrection_43 (⟨rI (by rw [show σ 24 0 = i9 by omega, hn]), rfl⟩)
      · refine z_aload_n F dX9_hasCorrection_10 rfl 1 rfl ?_
        refine z_get (v := vR (g 27)) F (mI hI 0 rfl) fX9_79 rfl dX9_hasCorrection_11 ?_
        refine z_iload_n F dX9_hasCorrection_14 rfl 0 rfl ?_
        refine z_zaload (N := 16) (f := fun j => σ 27 j) F (mI hI 27 rfl) (by omega) (by omega) (by omega) dX9_hasCorrection_15 ?_
        refine z_if_ne (tgt := 36) F dX9_hasCorrection_16 (by decide) (hR 27 i9) (fun c16 => ?_) (fun c16 => ?_)
        · refine z_iinc (lv' := [(2, vI (i9 + 1)), (0, vR (g 0)), (1, vI c9)]) F dX9_hasCorrection_36 0 rfl (by decide) rfl ?_
          refine z_goto (tgt := 2) F dX9_hasCorrection_39 (by decide) ?_
          exact ih2 (i9 + 1)  (by omega) (by omega) (by rw [hcF_s σ c9 ha, if_neg (by omega)]; exact hn) (by omega)
        · refine z_aload_n F dX9_hasCorrection_19 rfl 1 rfl ?_
          refine z_get (v := vR (g 9)) F (mI hI 0 rfl) fX9_30 rfl dX9_hasCorrection_20 ?_
          refine z_aload_n F dX9_hasCorrection_23 rfl 1 rfl ?_
          refine z_get (v := vR (g 25)) F (mI hI 0 rfl) fX9_73 rfl dX9_hasCorrection_24 ?_
          refine z_iload_n F dX9_hasCorrection_27 rfl 0 rfl ?_
          refine z_iaload (N := 16) (f := fun j => σ 25 j) F (mI hI 25 rfl) (by omega) (by omega) (by omega) dX9_hasCorrection_28 ?_
          refine z_iaload (N := 24) (f := fun j => σ 9 j) F (mI hI 9 rfl) (by omega) (by omega) (by omega) dX9_hasCorrection_29 ?_
          refine z_iload_n F dX9_hasCorrection_30 rfl 2 rfl ?_
          refine z_icmp_ne (tgt := 36) F dX9_hasCorrection_31 (by decide) (hR 9 (σ 25 i9)) (by omega) (fun c31 => ?_) (fun c31 => ?_)
          · refine z_iinc (lv' := [(2, vI (i9 + 1)), (0, vR (g 0)), (1, vI c9)]) F dX9_hasCorrection_36 0 rfl (by decide) rfl ?_
            refine z_goto (tgt := 2) F dX9_hasCorrection_39 (by decide) ?_
            exact ih2 (i9 + 1)  (by omega) (by omega) (by rw [hcF_s σ c9 ha, if_neg (by omega)]; exact hn) (by omega)
          · refine z_iconst F dX9_hasCorrection_34 ?_
            rw [hQ]
            exact z_iret (nf_z (by omega)) F hr (Nat.le_of_ble_eq_true rfl) (Nat.le_of_ble_eq_true rfl) dX9_hasCorrection_35 (⟨rI (by have z9 : hcF σ c9 (i9 + 1).toNat = 1 := (by rw [hcF_s σ c9 ha, if_pos (by omega)]); exact (hcF_mono σ c9 _ _ (by omega) z9).symm), rfl⟩)
  exact L2 ((σ 24 0 - 0 : Int).toNat + 1) 0  (by omega) (by omega) (rfl) (by omega)
set_option maxRecDepth 100000 in
set_option maxHeartbeats 4000000 in
theorem mX9_correct (l : Launch) (G : GG) (N0 : Nat) (h : Hp) (g : Nat → Nat) (σ : Sg) (e9 m9 : Int) (hI : MI g σ h) (hR : RG σ) (hV : MV σ) (r_e9 : -2147483648 ≤ e9 ∧ e9 < 2147483648) (r_m9 : -2147483648 ≤ m9 ∧ m9 < 2147483648) : Ct l G N0 yX9_correct (Cond.code yX9_correct cX9_correct 5 (some FieldType.int) :: LW) ({ frames := 2, cells := 0, slots := 0, locals := 70 }) [vR (g 0), vI e9, vI m9] h (fun r h' => ((¬ (0 ≤ e9 ∧ e9 < σ 8 0)) ∧ r = some (vI 0) ∧ MI g (su σ 30 0 1) h') ∨ (¬ (¬ (0 ≤ e9 ∧ e9 < σ 8 0)) ∧ (¬ (-600 ≤ m9 ∧ m9 ≤ 600) ∨ m9 = 0) ∧ r = some (vI 0) ∧ MI g (su σ 30 0 2) h') ∨ (¬ (¬ (0 ≤ e9 ∧ e9 < σ 8 0)) ∧ ¬ (¬ (-600 ≤ m9 ∧ m9 ≤ 600) ∨ m9 = 0) ∧ (σ 12 e9 ≠ 102 ∨ σ 24 0 = 16) ∧ r = some (vI 0) ∧ MI g (su σ 30 0 3) h') ∨ (¬ (¬ (0 ≤ e9 ∧ e9 < σ 8 0)) ∧ ¬ (¬ (-600 ≤ m9 ∧ m9 ≤ 600) ∨ m9 = 0) ∧ ¬ (σ 12 e9 ≠ 102 ∨ σ 24 0 = 16) ∧ r = some (vI (coS (σ 27) (σ 9) (fun j => if j = σ 24 0 then e9 else σ 25 j) (fun j => if j = σ 24 0 then m9 else σ 26 j) (σ 9 e9) (σ 24 0 + 1).toNat)) ∧ MI g (su (su (su (su σ 30 0 0) 25 (σ 24 0) e9) 26 (σ 24 0) m9) 24 0 (σ 24 0 + 1)) h')) := by
  refine ct_of rfl rfl ?_
  intro p e s m args below meth c F hr hnm
  have F : Fx p s m args meth c RX9 cX9_correct 5 G N0 (cA h s.heap.size) := F
  obtain ⟨v0, v1, v2, v8, v16, v24, v29, vC, vE, vL, vK, vT⟩ := id hV
  have E_e9 := vE e9
  obtain ⟨Q, hQ⟩ : ∃ z, z = MQ below (cQc G N0 h s.heap.size (fun r h' => ((¬ (0 ≤ e9 ∧ e9 < σ 8 0)) ∧ r = some (vI 0) ∧ MI g (su σ 30 0 1) h') ∨ (¬ (¬ (0 ≤ e9 ∧ e9 < σ 8 0)) ∧ (¬ (-600 ≤ m9 ∧ m9 ≤ 600) ∨ m9 = 0) ∧ r = some (vI 0) ∧ MI g (su σ 30 0 2) h') ∨ (¬ (¬ (0 ≤ e9 ∧ e9 < σ 8 0)) ∧ ¬ (¬ (-600 ≤ m9 ∧ m9 ≤ 600) ∨ m9 = 0) ∧ (σ 12 e9 ≠ 102 ∨ σ 24 0 = 16) ∧ r = some (vI 0) ∧ MI g (su σ 30 0 3) h') ∨ (¬ (¬ (0 ≤ e9 ∧ e9 < σ 8 0)) ∧ ¬ (¬ (-600 ≤ m9 ∧ m9 ≤ 600) ∨ m9 = 0) ∧ ¬ (σ 12 e9 ≠ 102 ∨ σ 24 0 = 16) ∧ r = some (vI (coS (σ 27) (σ 9) (fun j => if j = σ 24 0 then e9 else σ 25 j) (fun j => if j = σ 24 0 then m9 else σ 26 j) (σ 9 e9) (σ 24 0 + 1).toNat)) ∧ MI g (su (su (su (su σ 30 0 0) 25 (σ 24 0) e9) 26 (σ 24 0) m9) 24 0 (σ 24 0 + 1)) h'))) args s 0 0 (cA h s.heap.size) := ⟨_, rfl⟩
  rw [← hQ]
  show Z _ _ _ _ _ _ _ _ _ _ _ _ _ _ _ _ _ _ _ [(0, vR (g 0)), (1, vI e9), (2, vI m9)] []
  refine z_aload_n F dX9_correct_0 rfl 0 rfl ?_
  refine z_aload_n F dX9_correct_1 rfl 0 rfl ?_
  refine z_iload_n F dX9_correct_2 rfl 1 rfl ?_
  refine z_callV (As := [vI e9]) (st := [vR (g 0)]) F (mX9_isNone l G N0 h g σ e9 hI hR (by omega) (by omega)) cvX9_131 (mI hI 0 rfl) (fun r9 h9 => by cases h9; rfl) rfl rfl ⟨Nat.le_of_ble_eq_true rfl, Nat.le_of_ble_eq_true rfl⟩ rfl ⟨Nat.le_of_ble_eq_true rfl, Nat.le_of_ble_eq_true rfl⟩ dX9_correct_3 ?_
  rintro _ h9 ⟨rfl, hh9⟩
  rw [hh9]
  clear hh9 h9
  generalize ex1 : (if 0 ≤ e9 ∧ e9 < σ 8 0 then (0 : Int) else 1) = x1
  show Z _ _ _ _ _ _ _ _ _ _ _ _ _ _ _ _ _ _ _ _ [vI x1, vR (g 0)]
  refine z_if_eq (tgt := 13) F dX9_correct_6 (by decide) (by omega) (fun c6 => ?_) (fun c6 => ?_)
  · refine z_iload_n F dX9_correct_13 rfl 2 rfl ?_
    refine z_sipush F dX9_correct_14 (by decide) ?_
    refine z_sipush F dX9_correct_17 (by decide) ?_
    refine z_callS (As := [vI m9, vI (-600), vI 600]) (st := [vR (g 0)]) F (mX9_in l G N0 h m9 (-600) 600 (by omega) (by decide) (by decide)) csX9_93 rfl rfl ⟨Nat.le_of_ble_eq_true rfl, Nat.le_of_ble_eq_true rfl⟩ rfl ⟨Nat.le_of_ble_eq_true rfl, Nat.le_of_ble_eq_true rfl⟩ dX9_correct_20 ?_
    rintro _ h9 ⟨rfl, hh9⟩
    rw [hh9]
    clear hh9 h9
    generalize ex2 : (if (-600) ≤ m9 ∧ m9 ≤ 600 then (1 : Int) else 0) = x2
    show Z _ _ _ _ _ _ _ _ _ _ _ _ _ _ _ _ _ _ _ _ [vI x2, vR (g 0)]
    refine z_if_eq (tgt := 30) F dX9_correct_23 (by decide) (by omega) (fun c23 => ?_) (fun c23 => ?_)
    · refine z_iconst F dX9_correct_30 ?_
      refine z_goto (tgt := 59) F dX9_correct_31 (by decide) ?_
      refine z_callV (As := [vI 2]) (st := []) F (mX9_fails l G N0 h g σ 2 hI hR (by decide)) cvX9_107 (mI hI 0 rfl) (fun r9 h9 => by cases h9; rfl) rfl rfl ⟨Nat.le_of_ble_eq_true rfl, Nat.le_of_ble_eq_true rfl⟩ rfl ⟨Nat.le_of_ble_eq_true rfl, Nat.le_of_ble_eq_true rfl⟩ dX9_correct_59 ?_
      rintro _ h3 ⟨rfl, Ih3⟩
      rw [if_pos (by decide)]
      show Z _ _ _ _ _ _ _ _ _ _ _ _ _ _ _ _ _ _ _ _ [vI 1]
      refine z_if_eq (tgt := 67) F dX9_correct_62 (by decide) (by decide) (fun c62 => ?_) (fun c62 => ?_)
      · exact absurd c62 (by decide)
      · refine z_iconst F dX9_correct_65 ?_
        rw [hQ]
        exact z_iret (nf_i _) F hr (Nat.le_of_ble_eq_true rfl) (Nat.le_of_ble_eq_true rfl) dX9_correct_66 (Or.inr (Or.inl ⟨by omega, by omega, rfl, Ih3⟩))
    · refine z_iload_n F dX9_correct_26 rfl 2 rfl ?_
      refine z_if_ne (tgt := 34) F dX9_correct_27 (by decide) (by omega) (fun c27 => ?_) (fun c27 => ?_)
      · refine z_aload_n F dX9_correct_34 rfl 0 rfl ?_
        refine z_get (v := vR (g 12)) F (mI hI 0 rfl) fX9_39 rfl dX9_correct_35 ?_
        refine z_iload_n F dX9_correct_38 rfl 1 rfl ?_
        refine z_caload (N := 24) (f := fun j => σ 12 j) F (mI hI 12 rfl) (by omega) (by omega) (by omega) dX9_correct_39 ?_
        refine z_bipush F dX9_correct_40 (by decide) ?_
        refine z_icmp_ne (tgt := 54) F dX9_correct_42 (by decide) (hR 12 e9) (by decide) (fun c42 => ?_) (fun c42 => ?_)
        · refine z_iconst F dX9_correct_54 ?_
          refine z_goto (tgt := 59) F dX9_correct_55 (by decide) ?_
          refine z_callV (As := [vI 3]) (st := []) F (mX9_fails l G N0 h g σ 3 hI hR (by decide)) cvX9_107 (mI hI 0 rfl) (fun r9 h9 => by cases h9; rfl) rfl rfl ⟨Nat.le_of_ble_eq_true rfl, Nat.le_of_ble_eq_true rfl⟩ rfl ⟨Nat.le_of_ble_eq_true rfl, Nat.le_of_ble_eq_true rfl⟩ dX9_correct_59 ?_
          rintro _ h4 ⟨rfl, Ih4⟩
          rw [if_pos (by decide)]
          show Z _ _ _ _ _ _ _ _ _ _ _ _ _ _ _ _ _ _ _ _ [vI 1]
          refine z_if_eq (tgt := 67) F dX9_correct_62 (by decide) (by decide) (fun c62 => ?_) (fun c62 => ?_)
          · exact absurd c62 (by decide)
          · refine z_iconst F dX9_correct_65 ?_
            rw [hQ]
            exact z_iret (nf_i _) F hr (Nat.le_of_ble_eq_true rfl) (Nat.le_of_ble_eq_true rfl) dX9_correct_66 (Or.inr (Or.inr (Or.inl ⟨by omega, by omega, by omega, rfl, Ih4⟩)))
        · refine z_aload_n F dX9_correct_45 rfl 0 rfl ?_
          refine z_get (v := vI (σ 24 0)) F (mI hI 0 rfl) fX9_196 rfl dX9_correct_46 ?_
          refine z_bipush F dX9_correct_49 (by decide) ?_
          refine z_icmp_ne (tgt := 58) F dX9_correct_51 (by decide) (hR 24 0) (by decide) (fun c51 => ?_) (fun c51 => ?_)
          · refine z_iconst F dX9_correct_58 ?_
            refine z_callV (As := [vI 0]) (st := []) F (mX9_fails l G N0 h g σ 0 hI hR (by decide)) cvX9_107 (mI hI 0 rfl) (fun r9 h9 => by cases h9; rfl) rfl rfl ⟨Nat.le_of_ble_eq_true rfl, Nat.le_of_ble_eq_true rfl⟩ rfl ⟨Nat.le_of_ble_eq_true rfl, Nat.le_of_ble_eq_true rfl⟩ dX9_correct_59 ?_
            rintro _ h5 ⟨rfl, Ih5⟩
            rw [if_neg (by decide)]
            show Z _ _ _ _ _ _ _ _ _ _ _ _ _ _ _ _ _ _ _ _ [vI 0]
            refine z_if_eq (tgt := 67) F dX9_correct_62 (by decide) (by decide) (fun c62 => ?_) (fun c62 => ?_)
            · refine z_aload_n F dX9_correct_67 rfl 0 rfl ?_
              refine z_get (v := vR (g 25)) F (mI Ih5 0 rfl) fX9_73 rfl dX9_correct_68 ?_
              refine z_aload_n F dX9_correct_71 rfl 0 rfl ?_
              refine z_get (v := vI (σ 24 0)) F (mI Ih5 0 rfl) fX9_196 rfl dX9_correct_72 ?_
              refine z_iload_n F dX9_correct_75 rfl 1 rfl ?_
              obtain ⟨h6, eh6, Ih6⟩ : ∃ z : Hp, hu h5 (g 25) (eA 0 16 (fun j => vI (if j = σ 24 0 then e9 else σ 25 j))) = z ∧ MI g (su (su σ 30 0 0) 25 (σ 24 0) e9) z := ⟨_, rfl, mP Ih5 25 rfl rfl (σ 24 0) e9⟩
              refine z_iastore (N := 16) (f := fun j => σ 25 j) (h' := h6) F (mI Ih5 25 rfl) (by omega) (by omega) (by omega) dX9_correct_76 eh6 ?_
              refine z_aload_n F dX9_correct_77 rfl 0 rfl ?_
              refine z_get (v := vR (g 26)) F (mI Ih6 0 rfl) fX9_76 rfl dX9_correct_78 ?_
              refine z_aload_n F dX9_correct_81 rfl 0 rfl ?_
              refine z_get (v := vI (σ 24 0)) F (mI Ih6 0 rfl) fX9_196 rfl dX9_correct_82 ?_
              refine z_iload_n F dX9_correct_85 rfl 2 rfl ?_
              obtain ⟨h7, eh7, Ih7⟩ : ∃ z : Hp, hu h6 (g 26) (eA 0 16 (fun j => vI (if j = σ 24 0 then m9 else σ 26 j))) = z ∧ MI g (su (su (su σ 30 0 0) 25 (σ 24 0) e9) 26 (σ 24 0) m9) z := ⟨_, rfl, mP Ih6 26 rfl rfl (σ 24 0) m9⟩
              refine z_iastore (N := 16) (f := fun j => σ 26 j) (h' := h7) F (mI Ih6 26 rfl) (by omega) (by omega) (by omega) dX9_correct_86 eh7 ?_
              refine z_aload_n F dX9_correct_87 rfl 0 rfl ?_
              refine z_dup F dX9_correct_88 rfl ?_
              refine z_get (v := vI (σ 24 0)) F (mI Ih7 0 rfl) fX9_196 rfl dX9_correct_89 ?_
              refine z_iconst F dX9_correct_92 ?_
              refine z_iadd F dX9_correct_93 ?_
              obtain ⟨h8, eh8, Ih8⟩ : ∃ z : Hp, hu h7 (g 0) (eO 14 [vI (σ 0 0), vI (σ 1 0), vI (σ 2 0), vR (g 3), vR (g 4), vR (g 5), vR (g 6), vR (g 7), vI (σ 8 0), vR (g 9), vR (g 10), vR (g 11), vR (g 12), vR (g 13), vR (g 14), vR (g 15), vI (σ 16 0), vR (g 17), vR (g 18), vR (g 19), vR (g 20), vR (g 21), vR (g 22), vR (g 23), vI ((σ 24 0) + 1), vR (g 25), vR (g 26), vR (g 27), vR (g 28), vI (σ 29 0), vI 0]) = z ∧ MI g (su (su (su (su σ 30 0 0) 25 (σ 24 0) e9) 26 (σ 24 0) m9) 24 0 ((σ 24 0) + 1)) z := ⟨_, rfl, mPs Ih7 24 rfl ((σ 24 0) + 1)⟩
              refine z_put (fs := [vI (σ 0 0), vI (σ 1 0), vI (σ 2 0), vR (g 3), vR (g 4), vR (g 5), vR (g 6), vR (g 7), vI (σ 8 0), vR (g 9), vR (g 10), vR (g 11), vR (g 12), vR (g 13), vR (g 14), vR (g 15), vI (σ 16 0), vR (g 17), vR (g 18), vR (g 19), vR (g 20), vR (g 21), vR (g 22), vR (g 23), vI (σ 24 0), vR (g 25), vR (g 26), vR (g 27), vR (g 28), vI (σ 29 0), vI 0]) (fs' := [vI (σ 0 0), vI (σ 1 0), vI (σ 2 0), vR (g 3), vR (g 4), vR (g 5), vR (g 6), vR (g 7), vI (σ 8 0), vR (g 9), vR (g 10), vR (g 11), vR (g 12), vR (g 13), vR (g 14), vR (g 15), vI (σ 16 0), vR (g 17), vR (g 18), vR (g 19), vR (g 20), vR (g 21), vR (g 22), vR (g 23), vI ((σ 24 0) + 1), vR (g 25), vR (g 26), vR (g 27), vR (g 28), vI (σ 29 0), vI 0]) (h' := h8) F (mI Ih7 0 rfl) fX9_196 ftX9_24 (nf_i _) (Nat.le_of_ble_eq_true rfl) rfl dX9_correct_94 eh8 ?_
              refine z_iconst F dX9_correct_97 ?_
              refine z_istore_n (lv' := [(3, vI 0), (0, vR (g 0)), (1, vI e9), (2, vI m9)]) F dX9_correct_98 rfl (by decide) rfl ?_
              refine z_iconst F dX9_correct_99 ?_
              refine z_istore (lv' := [(4, vI 0), (3, vI 0), (0, vR (g 0)), (1, vI e9), (2, vI m9)]) F dX9_correct_100 (by decide) rfl ?_
              have L102 : ∀ (fuel : Nat) (sm : Int) (i9 : Int), (0 ≤ i9) → (i9 ≤ σ 24 0 + 1) → (sm = coS (σ 27) (σ 9) (fun j => if j = σ 24 0 then e9 else σ 25 j) (fun j => if j = σ 24 0 then m9 else σ 26 j) (σ 9 e9) i9.toNat) → σ 24 0 + 1 - i9 < (fuel : Int) → Z p l e ({ frames := 2, cells := 0, slots := 0, locals := 70 }) s m args below meth c 5 G N0 (cA h s.heap.size) Q h8 0 0 102 [(4, vI i9), (3, vI sm), (0, vR (g 0)), (1, vI e9), (2, vI m9)] [] := by
                intro fuel
                induction fuel with
                | zero => intro sm i9  ha hb hn hm; exact absurd hm (by omega)
                | succ fuel ih102 =>
                  intro sm i9  ha hb hn hm
                  have K_i := vK i9 ha
                  refine z_iload F dX9_correct_102 0 rfl ?_
                  refine z_aload_n F dX9_correct_104 rfl 2 rfl ?_
                  refine z_get (v := vI ((σ 24 0) + 1)) F (mI Ih8 0 rfl) fX9_196 rfl dX9_correct_105 ?_
                  refine z_icmp_ge (tgt := 162) F dX9_correct_108 (by decide) (by omega) (by omega) (fun c108 => ?_) (fun c108 => ?_)
                  · refine z_iload_n F dX9_correct_162 rfl 1 rfl ?_
                    rw [hQ]
                    exact z_iret (nf_i _) F hr (Nat.le_of_ble_eq_true rfl) (Nat.le_of_ble_eq_true rfl) dX9_correct_163 (Or.inr (Or.inr (Or.inr (⟨by omega, by omega, by omega, rI (by rw [hn, show i9 = σ 24 0 + 1 by omega]), Ih8⟩))))
                  · refine z_iload_n F dX9_correct_111 rfl 1 rfl ?_
                    refine z_aload_n F dX9_correct_112 rfl 2 rfl ?_
                    refine z_get (v := vR (g 27)) F (mI Ih8 0 rfl) fX9_79 rfl dX9_correct_113 ?_
                    refine z_iload F dX9_correct_116 0 rfl ?_
                    refine z_zaload (N := 16) (f := fun j => σ 27 j) F (mI Ih8 27 rfl) (by omega) (by omega) (by omega) dX9_correct_118 ?_
                    refine z_if_ne (tgt := 153) F dX9_correct_119 (by decide) (hR 27 i9) (fun c119 => ?_) (fun c119 => ?_)
                    · refine z_iconst F dX9_correct_153 ?_
                      refine z_iadd F dX9_correct_154 ?_
                      refine z_istore_n (lv' := [(3, vI (sm + 0)), (4, vI i9), (0, vR (g 0)), (1, vI e9), (2, vI m9)]) F dX9_correct_155 rfl (by decide) rfl ?_
                      refine z_iinc (lv' := [(4, vI (i9 + 1)), (3, vI (sm + 0)), (0, vR (g 0)), (1, vI e9), (2, vI m9)]) F dX9_correct_156 1 rfl (by decide) rfl ?_
                      refine z_goto (tgt := 102) F dX9_correct_159 (by decide) ?_
                      exact ih102 (sm + 0) (i9 + 1)  (by omega) (by omega) (by rw [coS_s _ _ _ _ _ ha, ← hn]; omega) (by omega)
                    · refine z_aload_n F dX9_correct_122 rfl 2 rfl ?_
                      refine z_get (v := vR (g 9)) F (mI Ih8 0 rfl) fX9_30 rfl dX9_correct_123 ?_
                      refine z_aload_n F dX9_correct_126 rfl 2 rfl ?_
                      refine z_get (v := vR (g 25)) F (mI Ih8 0 rfl) fX9_73 rfl dX9_correct_127 ?_
                      refine z_iload F dX9_correct_130 0 rfl ?_
                      refine z_iaload (N := 16) (f := fun j => if j = σ 24 0 then e9 else σ 25 j) F (mI Ih8 25 rfl) (by omega) (by omega) (by omega) dX9_correct_132 ?_
                      refine z_iaload (N := 24) (f := fun j => σ 9 j) F (mI Ih8 9 rfl) (by omega) (by omega) (by omega) dX9_correct_133 ?_
                      refine z_aload_n F dX9_correct_134 rfl 2 rfl ?_
                      refine z_get (v := vR (g 9)) F (mI Ih8 0 rfl) fX9_30 rfl dX9_correct_135 ?_
                      refine z_iload_n F dX9_correct_138 rfl 3 rfl ?_
                      refine z_iaload (N := 24) (f := fun j => σ 9 j) F (mI Ih8 9 rfl) (by omega) (by omega) (by omega) dX9_correct_139 ?_
                      refine z_icmp_ne (tgt := 153) F dX9_correct_140 (by decide) (hR 9 (if i9 = σ 24 0 then e9 else σ 25 i9)) (hR 9 e9) (fun c140 => ?_) (fun c140 => ?_)
                      · refine z_iconst F dX9_correct_153 ?_
                        refine z_iadd F dX9_correct_154 ?_
                        refine z_istore_n (lv' := [(3, vI (sm + 0)), (4, vI i9), (0, vR (g 0)), (1, vI e9), (2, vI m9)]) F dX9_correct_155 rfl (by decide) rfl ?_
                        refine z_iinc (lv' := [(4, vI (i9 + 1)), (3, vI (sm + 0)), (0, vR (g 0)), (1, vI e9), (2, vI m9)]) F dX9_correct_156 1 rfl (by decide) rfl ?_
                        refine z_goto (tgt := 102) F dX9_correct_159 (by decide) ?_
                        exact ih102 (sm + 0) (i9 + 1)  (by omega) (by omega) (by rw [coS_s _ _ _ _ _ ha, ← hn]; omega) (by omega)
                      · refine z_aload_n F dX9_correct_143 rfl 2 rfl ?_
                        refine z_get (v := vR (g 26)) F (mI Ih8 0 rfl) fX9_76 rfl dX9_correct_144 ?_
                        refine z_iload F dX9_correct_147 0 rfl ?_
                        refine z_iaload (N := 16) (f := fun j => if j = σ 24 0 then m9 else σ 26 j) F (mI Ih8 26 rfl) (by omega) (by omega) (by omega) dX9_correct_149 ?_
                        refine z_goto (tgt := 154) F dX9_correct_150 (by decide) ?_
                        refine z_iadd F dX9_correct_154 ?_
                        refine z_istore_n (lv' := [(3, vI (sm + (if i9 = σ 24 0 then m9 else σ 26 i9))), (4, vI i9), (0, vR (g 0)), (1, vI e9), (2, vI m9)]) F dX9_correct_155 rfl (by decide) rfl ?_
                        refine z_iinc (lv' := [(4, vI (i9 + 1)), (3, vI (sm + (if i9 = σ 24 0 then m9 else σ 26 i9))), (0, vR (g 0)), (1, vI e9), (2, vI m9)]) F dX9_correct_156 1 rfl (by decide) rfl ?_
                        refine z_goto (tgt := 102) F dX9_correct_159 (by decide) ?_
                        exact ih102 (sm + (if i9 = σ 24 0 then m9 else σ 26 i9)) (i9 + 1)  (by omega) (by omega) (by rw [coS_s _ _ _ _ _ ha, ← hn]; omega) (by omega)
              exact L102 ((σ 24 0 + 1 - 0 : Int).toNat + 1) 0 0  (by omega) (by omega) (rfl) (by omega)
            · exact absurd c62 (by decide)
          · refine z_iconst F dX9_correct_54 ?_
            refine z_goto (tgt := 59) F dX9_correct_55 (by decide) ?_
            refine z_callV (As := [vI 3]) (st := []) F (mX9_fails l G N0 h g σ 3 hI hR (by decide)) cvX9_107 (mI hI 0 rfl) (fun r9 h9 => by cases h9; rfl) rfl rfl ⟨Nat.le_of_ble_eq_true rfl, Nat.le_of_ble_eq_true rfl⟩ rfl ⟨Nat.le_of_ble_eq_true rfl, Nat.le_of_ble_eq_true rfl⟩ dX9_correct_59 ?_
            rintro _ h9 ⟨rfl, Ih9⟩
            rw [if_pos (by decide)]
            show Z _ _ _ _ _ _ _ _ _ _ _ _ _ _ _ _ _ _ _ _ [vI 1]
            refine z_if_eq (tgt := 67) F dX9_correct_62 (by decide) (by decide) (fun c62 => ?_) (fun c62 => ?_)
            · exact absurd c62 (by decide)
            · refine z_iconst F dX9_correct_65 ?_
              rw [hQ]
              exact z_iret (nf_i _) F hr (Nat.le_of_ble_eq_true rfl) (Nat.le_of_ble_eq_true rfl) dX9_correct_66 (Or.inr (Or.inr (Or.inl ⟨by omega, by omega, by omega, rfl, Ih9⟩)))
      · refine z_iconst F dX9_correct_30 ?_
        refine z_goto (tgt := 59) F dX9_correct_31 (by decide) ?_
        refine z_callV (As := [vI 2]) (st := []) F (mX9_fails l G N0 h g σ 2 hI hR (by decide)) cvX9_107 (mI hI 0 rfl) (fun r9 h9 => by cases h9; rfl) rfl rfl ⟨Nat.le_of_ble_eq_true rfl, Nat.le_of_ble_eq_true rfl⟩ rfl ⟨Nat.le_of_ble_eq_true rfl, Nat.le_of_ble_eq_true rfl⟩ dX9_correct_59 ?_
        rintro _ h10 ⟨rfl, Ih10⟩
        rw [if_pos (by decide)]
        show Z _ _ _ _ _ _ _ _ _ _ _ _ _ _ _ _ _ _ _ _ [vI 1]
        refine z_if_eq (tgt := 67) F dX9_correct_62 (by decide) (by decide) (fun c62 => ?_) (fun c62 => ?_)
        · exact absurd c62 (by decide)
        · refine z_iconst F dX9_correct_65 ?_
          rw [hQ]
          exact z_iret (nf_i _) F hr (Nat.le_of_ble_eq_true rfl) (Nat.le_of_ble_eq_true rfl) dX9_correct_66 (Or.inr (Or.inl ⟨by omega, by omega, rfl, Ih10⟩))
  · refine z_iconst F dX9_correct_9 ?_
    refine z_goto (tgt := 59) F dX9_correct_10 (by decide) ?_
    refine z_callV (As := [vI 1]) (st := []) F (mX9_fails l G N0 h g σ 1 hI hR (by decide)) cvX9_107 (mI hI 0 rfl) (fun r9 h9 => by cases h9; rfl) rfl rfl ⟨Nat.le_of_ble_eq_true rfl, Nat.le_of_ble_eq_true rfl⟩ rfl ⟨Nat.le_of_ble_eq_true rfl, Nat.le_of_ble_eq_true rfl⟩ dX9_correct_59 ?_
    rintro _ h11 ⟨rfl, Ih11⟩
    rw [if_pos (by decide)]
    show Z _ _ _ _ _ _ _ _ _ _ _ _ _ _ _ _ _ _ _ _ [vI 1]
    refine z_if_eq (tgt := 67) F dX9_correct_62 (by decide) (by decide) (fun c62 => ?_) (fun c62 => ?_)
    · exact absurd c62 (by decide)
    · refine z_iconst F dX9_correct_65 ?_
      rw [hQ]
      exact z_iret (nf_i _) F hr (Nat.le_of_ble_eq_true rfl) (Nat.le_of_ble_eq_true rfl) dX9_correct_66 (Or.inl ⟨by omega, rfl, Ih11⟩)
set_option maxRecDepth 100000 in
set_option maxHeartbeats 4000000 in
theorem mX9_usedOf (l : Launch) (G : GG) (N0 : Nat) (h : Hp) (g : Nat → Nat) (σ : Sg) (c9 : Int) (hI : MI g σ h) (hR : RG σ) (hV : MV σ) (hc : 0 ≤ c9 ∧ c9 < σ 2 0) : Ct l G N0 yX9_usedOf (Cond.code yX9_usedOf cX9_usedOf 5 (some FieldType.int) :: LW) ({ frames := 5, cells := 0, slots := 0, locals := 180 }) [vR (g 0), vI c9] h (fun r h' => ∃ s d : Int → Int, r = some (vI (usS σ c9)) ∧ MI g (sw (sw σ 14 s) 15 d) h' ∧ RF s ∧ RF d) := by
  refine ct_of rfl rfl ?_
  intro p e s m args below meth c F hr hnm
  have F : Fx p s m args meth c RX9 cX9_usedOf 5 G N0 (cA h s.heap.size) := F
  obtain ⟨v0, v1, v2, v8, v16, v24, v29, vC, vE, vL, vK, vT⟩ := id hV
  have C_c9 := vC c9
  obtain ⟨Q, hQ⟩ : ∃ z, z = MQ below (cQc G N0 h s.heap.size (fun r h' => ∃ s d : Int → Int, r = some (vI (usS σ c9)) ∧ MI g (sw (sw σ 14 s) 15 d) h' ∧ RF s ∧ RF d)) args s 0 0 (cA h s.heap.size) := ⟨_, rfl⟩
  rw [← hQ]
  show Z _ _ _ _ _ _ _ _ _ _ _ _ _ _ _ _ _ _ _ [(0, vR (g 0)), (1, vI c9)] []
  refine z_aload_n F dX9_usedOf_0 rfl 0 rfl ?_
  refine z_iload_n F dX9_usedOf_1 rfl 1 rfl ?_
  refine z_callV (As := [vI c9]) (st := []) F (mX9_openOf l G N0 h g σ c9 hI hR hV (show 0 ≤ c9 ∧ c9 < σ 2 0 from by omega)) cvX9_189 (mI hI 0 rfl) (fun r9 h9 => by cases h9; rfl) rfl rfl ⟨Nat.le_of_ble_eq_true rfl, Nat.le_of_ble_eq_true rfl⟩ rfl ⟨Nat.le_of_ble_eq_true rfl, Nat.le_of_ble_eq_true rfl⟩ dX9_usedOf_2 ?_
  rintro _ h1 ⟨sh1, dh1, rfl, Ih1, Rsh1, Rdh1⟩
  show Z _ _ _ _ _ _ _ _ _ _ _ _ _ _ _ _ _ _ _ _ [vI (opS σ c9)]
  refine z_istore_n (lv' := [(2, vI (opS σ c9)), (0, vR (g 0)), (1, vI c9)]) F dX9_usedOf_5 rfl (by decide) rfl ?_
  refine z_iconst F dX9_usedOf_6 ?_
  refine z_istore_n (lv' := [(3, vI 0), (2, vI (opS σ c9)), (0, vR (g 0)), (1, vI c9)]) F dX9_usedOf_7 rfl (by decide) rfl ?_
  have L8 : ∀ (fuel : Nat) (sm : Int) (i9 : Int), (0 ≤ i9) → (i9 ≤ σ 16 0) → (sm = opS σ c9 + ivM σ c9 i9.toNat) → σ 16 0 - i9 < (fuel : Int) → Z p l e ({ frames := 5, cells := 0, slots := 0, locals := 180 }) s m args below meth c 5 G N0 (cA h s.heap.size) Q h1 0 0 8 [(3, vI i9), (2, vI sm), (0, vR (g 0)), (1, vI c9)] [] := by
    intro fuel
    induction fuel with
    | zero => intro sm i9  ha hb hn hm; exact absurd hm (by omega)
    | succ fuel ih8 =>
      intro sm i9  ha hb hn hm
      have L_i := vL i9 ha
      refine z_iload_n F dX9_usedOf_8 rfl 0 rfl ?_
      refine z_aload_n F dX9_usedOf_9 rfl 2 rfl ?_
      refine z_get (v := vI (σ 16 0)) F (mI Ih1 0 rfl) fX9_192 rfl dX9_usedOf_10 ?_
      refine z_icmp_ge (tgt := 67) F dX9_usedOf_13 (by decide) (by omega) (hR 16 0) (fun c13 => ?_) (fun c13 => ?_)
      · refine z_iload_n F dX9_usedOf_67 rfl 1 rfl ?_
        rw [hQ]
        exact z_iret (nf_i _) F hr (Nat.le_of_ble_eq_true rfl) (Nat.le_of_ble_eq_true rfl) dX9_usedOf_68 (⟨sh1, dh1, rI (by rw [hn, show i9 = σ 16 0 by omega]), Ih1, Rsh1, Rdh1⟩)
      · refine z_iconst F dX9_usedOf_16 ?_
        refine z_istore (lv' := [(4, vI 0), (3, vI i9), (2, vI sm), (0, vR (g 0)), (1, vI c9)]) F dX9_usedOf_17 (by decide) rfl ?_
        have L19 : ∀ (fuel : Nat) (s2 : Int) (q9 : Int), (0 ≤ q9) → (q9 ≤ σ 17 i9) → (σ 18 i9 ≠ c9 → q9 = 0) → (s2 = sm + lnS σ i9 q9.toNat) → σ 17 i9 - q9 < (fuel : Int) → Z p l e ({ frames := 5, cells := 0, slots := 0, locals := 180 }) s m args below meth c 5 G N0 (cA h s.heap.size) Q h1 0 0 19 [(4, vI q9), (3, vI i9), (2, vI s2), (0, vR (g 0)), (1, vI c9)] [] := by
          intro fuel
          induction fuel with
          | zero => intro s2 q9  hq hq2 hq3 hmm hm; exact absurd hm (by omega)
          | succ fuel ih19 =>
            intro s2 q9  hq hq2 hq3 hmm hm
            refine z_aload_n F dX9_usedOf_19 rfl 3 rfl ?_
            refine z_get (v := vR (g 18)) F (mI Ih1 0 rfl) fX9_54 rfl dX9_usedOf_20 ?_
            refine z_iload_n F dX9_usedOf_23 rfl 1 rfl ?_
            refine z_iaload (N := 8) (f := fun j => σ 18 j) F (mI Ih1 18 rfl) (by omega) (by omega) (by omega) dX9_usedOf_24 ?_
            refine z_iload_n F dX9_usedOf_25 rfl 4 rfl ?_
            refine z_icmp_ne (tgt := 61) F dX9_usedOf_26 (by decide) (hR 18 i9) (by omega) (fun c26 => ?_) (fun c26 => ?_)
            · refine z_iinc (lv' := [(3, vI (i9 + 1)), (4, vI q9), (2, vI s2), (0, vR (g 0)), (1, vI c9)]) F dX9_usedOf_61 1 rfl (by decide) rfl ?_
              refine z_goto (tgt := 8) F dX9_usedOf_64 (by decide) ?_
              refine z_pick (lv' := [(3, vI (i9 + 1)), (2, vI s2), (0, vR (g 0)), (1, vI c9)]) [0, 2, 3, 4] rfl ?_
              exact ih8 s2 (i9 + 1)  (by omega) (by omega) (by first | (rw [ivM_s σ c9 ha, if_neg (by omega), hmm, hn, show q9 = 0 by omega]; simp [lnS]) | (rw [ivM_s σ c9 ha, if_pos (by omega), hmm, hn, show q9 = σ 17 i9 by omega, Int.add_assoc])) (by omega)
            · refine z_iload F dX9_usedOf_29 0 rfl ?_
              refine z_aload_n F dX9_usedOf_31 rfl 3 rfl ?_
              refine z_get (v := vR (g 17)) F (mI Ih1 0 rfl) fX9_51 rfl dX9_usedOf_32 ?_
              refine z_iload_n F dX9_usedOf_35 rfl 1 rfl ?_
              refine z_iaload (N := 8) (f := fun j => σ 17 j) F (mI Ih1 17 rfl) (by omega) (by omega) (by omega) dX9_usedOf_36 ?_
              refine z_icmp_ge (tgt := 61) F dX9_usedOf_37 (by decide) (by omega) (hR 17 i9) (fun c37 => ?_) (fun c37 => ?_)
              · refine z_iinc (lv' := [(3, vI (i9 + 1)), (4, vI q9), (2, vI s2), (0, vR (g 0)), (1, vI c9)]) F dX9_usedOf_61 1 rfl (by decide) rfl ?_
                refine z_goto (tgt := 8) F dX9_usedOf_64 (by decide) ?_
                refine z_pick (lv' := [(3, vI (i9 + 1)), (2, vI s2), (0, vR (g 0)), (1, vI c9)]) [0, 2, 3, 4] rfl ?_
                exact ih8 s2 (i9 + 1)  (by omega) (by omega) (by first | (rw [ivM_s σ c9 ha, if_neg (by omega), hmm, hn, show q9 = 0 by omega]; simp [lnS]) | (rw [ivM_s σ c9 ha, if_pos (by omega), hmm, hn, show q9 = σ 17 i9 by omega, Int.add_assoc])) (by omega)
              · refine z_iload_n F dX9_usedOf_40 rfl 2 rfl ?_
                refine z_aload_n F dX9_usedOf_41 rfl 3 rfl ?_
                refine z_get (v := vR (g 20)) F (mI Ih1 0 rfl) fX9_60 rfl dX9_usedOf_42 ?_
                refine z_bipush F dX9_usedOf_45 (by decide) ?_
                refine z_iload_n F dX9_usedOf_47 rfl 1 rfl ?_
                refine z_imul F dX9_usedOf_48 ?_
                refine z_iload F dX9_usedOf_49 0 rfl ?_
                refine z_iadd F dX9_usedOf_51 ?_
                refine z_iaload (N := 320) (f := fun j => σ 20 j) F (mI Ih1 20 rfl) (by omega) (by omega) (by omega) dX9_usedOf_52 ?_
                refine z_iadd F dX9_usedOf_53 ?_
                refine z_istore_n (lv' := [(2, vI (s2 + (σ 20 ((40 * i9) + q9)))), (4, vI q9), (3, vI i9), (0, vR (g 0)), (1, vI c9)]) F dX9_usedOf_54 rfl (by decide) rfl ?_
                refine z_iinc (lv' := [(4, vI (q9 + 1)), (2, vI (s2 + (σ 20 ((40 * i9) + q9)))), (3, vI i9), (0, vR (g 0)), (1, vI c9)]) F dX9_usedOf_55 1 rfl (by decide) rfl ?_
                refine z_goto (tgt := 19) F dX9_usedOf_58 (by decide) ?_
                refine z_pick (lv' := [(4, vI (q9 + 1)), (3, vI i9), (2, vI (s2 + (σ 20 ((40 * i9) + q9)))), (0, vR (g 0)), (1, vI c9)]) [0, 2, 1, 3, 4] rfl ?_
                exact ih19 (s2 + (σ 20 ((40 * i9) + q9))) (q9 + 1)  (by omega) (by omega) (by omega) (by rw [lnS_s σ i9 hq, hmm, Int.add_assoc]) (by omega)
        exact L19 ((σ 17 i9 - 0 : Int).toNat + 1) sm 0  (by omega) (by omega) (fun _ => rfl) ((Int.add_zero _).symm) (by omega)
  exact L8 ((σ 16 0 - 0 : Int).toNat + 1) (opS σ c9) 0  (by omega) (by omega) ((Int.add_zero _).symm) (by omega)
set_option maxRecDepth 100000 in
set_option maxHeartbeats 4000000 in
theorem mX9_usedMinutes (l : Launch) (G : GG) (N0 : Nat) (h : Hp) (g : Nat → Nat) (σ : Sg) (c9 : Int) (hI : MI g σ h) (hR : RG σ) (hV : MV σ) (r_c9 : -2147483648 ≤ c9 ∧ c9 < 2147483648) : Ct l G N0 yX9_usedMinutes (Cond.code yX9_usedMinutes cX9_usedMinutes 2 (some FieldType.int) :: LW) ({ frames := 6, cells := 0, slots := 0, locals := 210 }) [vR (g 0), vI c9] h (fun r h' => ((¬ (0 ≤ c9 ∧ c9 < σ 2 0)) ∧ r = some (vI 0) ∧ MI g (su σ 30 0 1) h') ∨ (¬ (¬ (0 ≤ c9 ∧ c9 < σ 2 0)) ∧ r = some (vI (usS σ c9)) ∧ ∃ s d : Int → Int, MI g (sw (sw (su σ 30 0 0) 14 s) 15 d) h' ∧ (∀ j, -2147483648 ≤ s j ∧ s j < 2147483648) ∧ (∀ j, -2147483648 ≤ d j ∧ d j < 2147483648))) := by
  refine ct_of rfl rfl ?_
  intro p e s m args below meth c F hr hnm
  have F : Fx p s m args meth c RX9 cX9_usedMinutes 2 G N0 (cA h s.heap.size) := F
  obtain ⟨v0, v1, v2, v8, v16, v24, v29, vC, vE, vL, vK, vT⟩ := id hV
  have C_c9 := vC c9
  show Z _ _ _ _ _ _ _ _ _ _ _ _ _ _ _ _ _ _ _ [(0, vR (g 0)), (1, vI c9)] []
  refine z_aload_n F dX9_usedMinutes_0 rfl 0 rfl ?_
  refine z_aload_n F dX9_usedMinutes_1 rfl 0 rfl ?_
  refine z_iload_n F dX9_usedMinutes_2 rfl 1 rfl ?_
  refine z_callV (As := [vI c9]) (st := [vR (g 0)]) F (mX9_isNoClient l G N0 h g σ c9 hI hR (by omega) (by omega)) cvX9_120 (mI hI 0 rfl) (fun r9 h9 => by cases h9; rfl) rfl rfl ⟨Nat.le_of_ble_eq_true rfl, Nat.le_of_ble_eq_true rfl⟩ rfl ⟨Nat.le_of_ble_eq_true rfl, Nat.le_of_ble_eq_true rfl⟩ dX9_usedMinutes_3 ?_
  rintro _ h9 ⟨rfl, hh9⟩
  rw [hh9]
  clear hh9 h9
  generalize ex1 : (if 0 ≤ c9 ∧ c9 < σ 2 0 then (0 : Int) else 1) = x1
  show Z _ _ _ _ _ _ _ _ _ _ _ _ _ _ _ _ _ _ _ _ [vI x1, vR (g 0)]
  refine z_if_eq (tgt := 13) F dX9_usedMinutes_6 (by decide) (by omega) (fun c6 => ?_) (fun c6 => ?_)
  · refine z_iconst F dX9_usedMinutes_13 ?_
    refine z_callV (As := [vI 0]) (st := []) F (mX9_fails l G N0 h g σ 0 hI hR (by decide)) cvX9_107 (mI hI 0 rfl) (fun r9 h9 => by cases h9; rfl) rfl rfl ⟨Nat.le_of_ble_eq_true rfl, Nat.le_of_ble_eq_true rfl⟩ rfl ⟨Nat.le_of_ble_eq_true rfl, Nat.le_of_ble_eq_true rfl⟩ dX9_usedMinutes_14 ?_
    rintro _ h2 ⟨rfl, Ih2⟩
    rw [if_neg (by decide)]
    show Z _ _ _ _ _ _ _ _ _ _ _ _ _ _ _ _ _ _ _ _ [vI 0]
    refine z_if_eq (tgt := 24) F dX9_usedMinutes_17 (by decide) (by decide) (fun c17 => ?_) (fun c17 => ?_)
    · refine z_aload_n F dX9_usedMinutes_24 rfl 0 rfl ?_
      refine z_iload_n F dX9_usedMinutes_25 rfl 1 rfl ?_
      have Vh3 : MV (su σ 30 0 0) := (MV_q (EQ.symm (EQ.c _ _)) hV)
      refine z_callV (As := [vI c9]) (st := []) F (mX9_usedOf l G N0 h2 g (su σ 30 0 0) c9 Ih2 (rg_su hR (by decide)) Vh3 (show 0 ≤ c9 ∧ c9 < σ 2 0 from by omega)) cvX9_221 (mI Ih2 0 rfl) (fun r9 h9 => by cases h9; rfl) rfl rfl ⟨Nat.le_of_ble_eq_true rfl, Nat.le_of_ble_eq_true rfl⟩ rfl ⟨Nat.le_of_ble_eq_true rfl, Nat.le_of_ble_eq_true rfl⟩ dX9_usedMinutes_26 ?_
      rintro _ h3 ⟨sh3, dh3, rfl, Ih3, Rsh3, Rdh3⟩
      have eoh3 : usS (su σ 30 0 0) c9 = usS σ c9 := usS_q (EQ.c _ _) c9
      rw [eoh3]
      show Z _ _ _ _ _ _ _ _ _ _ _ _ _ _ _ _ _ _ _ _ [vI (usS σ c9)]
      exact z_iret (nf_i _) F hr (Nat.le_of_ble_eq_true rfl) (Nat.le_of_ble_eq_true rfl) dX9_usedMinutes_29 (Or.inr (⟨by omega, rI (rfl), sh3, dh3, Ih3, Rsh3, Rdh3⟩))
    · exact absurd c17 (by decide)
  · refine z_iconst F dX9_usedMinutes_9 ?_
    refine z_goto (tgt := 14) F dX9_usedMinutes_10 (by decide) ?_
    refine z_callV (As := [vI 1]) (st := []) F (mX9_fails l G N0 h g σ 1 hI hR (by decide)) cvX9_107 (mI hI 0 rfl) (fun r9 h9 => by cases h9; rfl) rfl rfl ⟨Nat.le_of_ble_eq_true rfl, Nat.le_of_ble_eq_true rfl⟩ rfl ⟨Nat.le_of_ble_eq_true rfl, Nat.le_of_ble_eq_true rfl⟩ dX9_usedMinutes_14 ?_
    rintro _ h4 ⟨rfl, Ih4⟩
    rw [if_pos (by decide)]
    show Z _ _ _ _ _ _ _ _ _ _ _ _ _ _ _ _ _ _ _ _ [vI 1]
    refine z_if_eq (tgt := 24) F dX9_usedMinutes_17 (by decide) (by decide) (fun c17 => ?_) (fun c17 => ?_)
    · exact absurd c17 (by decide)
    · refine z_iconst F dX9_usedMinutes_20 ?_
      refine z_goto (tgt := 29) F dX9_usedMinutes_21 (by decide) ?_
      exact z_iret (nf_i _) F hr (Nat.le_of_ble_eq_true rfl) (Nat.le_of_ble_eq_true rfl) dX9_usedMinutes_29 (Or.inl ⟨by omega, rfl, Ih4⟩)
set_option maxRecDepth 100000 in
set_option maxHeartbeats 4000000 in
theorem mX9_shareOf (l : Launch) (G : GG) (N0 : Nat) (h : Hp) (g : Nat → Nat) (σ : Sg) (c9 : Int) (hI : MI g σ h) (hR : RG σ) (hV : MV σ) (hc : 0 ≤ c9 ∧ c9 < σ 2 0) (hbu : σ 7 c9 ≠ 0) : Ct l G N0 yX9_shareOf (Cond.code yX9_shareOf cX9_shareOf 2 (some FieldType.float) :: LW) ({ frames := 6, cells := 0, slots := 0, locals := 210 }) [vR (g 0), vI c9] h (fun r h' => ∃ s d : Int → Int, r = some (vF (shF σ c9)) ∧ MI g (sw (sw σ 14 s) 15 d) h' ∧ RF s ∧ RF d) := by
  refine ct_of rfl rfl ?_
  intro p e s m args below meth c F hr hnm
  have F : Fx p s m args meth c RX9 cX9_shareOf 2 G N0 (cA h s.heap.size) := F
  obtain ⟨v0, v1, v2, v8, v16, v24, v29, vC, vE, vL, vK, vT⟩ := id hV
  have C_c9 := vC c9
  have hus := usS_in hV hc
  show Z _ _ _ _ _ _ _ _ _ _ _ _ _ _ _ _ _ _ _ [(0, vR (g 0)), (1, vI c9)] []
  refine z_aload_n F dX9_shareOf_0 rfl 0 rfl ?_
  refine z_iload_n F dX9_shareOf_1 rfl 1 rfl ?_
  have Vh1 : MV σ := hV
  refine z_callV (As := [vI c9]) (st := []) F (mX9_usedOf l G N0 h g σ c9 hI hR Vh1 (show 0 ≤ c9 ∧ c9 < σ 2 0 from by omega)) cvX9_221 (mI hI 0 rfl) (fun r9 h9 => by cases h9; rfl) rfl rfl ⟨Nat.le_of_ble_eq_true rfl, Nat.le_of_ble_eq_true rfl⟩ rfl ⟨Nat.le_of_ble_eq_true rfl, Nat.le_of_ble_eq_true rfl⟩ dX9_shareOf_2 ?_
  rintro _ h1 ⟨sh1, dh1, rfl, Ih1, Rsh1, Rdh1⟩
  show Z _ _ _ _ _ _ _ _ _ _ _ _ _ _ _ _ _ _ _ _ [vI (usS σ c9)]
  refine z_i2f F dX9_shareOf_5 ?_
  refine z_aload_n F dX9_shareOf_6 rfl 0 rfl ?_
  refine z_get (v := vR (g 7)) F (mI Ih1 0 rfl) fX9_27 rfl dX9_shareOf_7 ?_
  refine z_iload_n F dX9_shareOf_10 rfl 1 rfl ?_
  refine z_iaload (N := 5) (f := fun j => σ 7 j) F (mI Ih1 7 rfl) (by omega) (by omega) (by omega) dX9_shareOf_11 ?_
  refine z_i2f F dX9_shareOf_12 ?_
  refine z_fdiv F dX9_shareOf_13 ((mg_quo (by omega) (by omega) (by omega)).n (by decide)) ?_
  exact z_fret F hr (Nat.le_of_ble_eq_true rfl) (Nat.le_of_ble_eq_true rfl) dX9_shareOf_14 (⟨sh1, dh1, rfl, Ih1, Rsh1, Rdh1⟩)
theorem shF_q {σ σ' : Sg} (q : EQ σ σ') (c : Int) : shF σ c = shF σ' c := by
  show FP.fdiv (FP.i2f (iI (usS σ c))) (FP.i2f (iI (σ 7 c))) = FP.fdiv (FP.i2f (iI (usS σ' c))) (FP.i2f (iI (σ' 7 c)))
  rw [usS_q q, q.e 7]
set_option maxRecDepth 100000 in
set_option maxHeartbeats 4000000 in
theorem mX9_budgetShare (l : Launch) (G : GG) (N0 : Nat) (h : Hp) (g : Nat → Nat) (σ : Sg) (c9 : Int) (hI : MI g σ h) (hR : RG σ) (hV : MV σ) (r_c9 : -2147483648 ≤ c9 ∧ c9 < 2147483648) : Ct l G N0 yX9_budgetShare (Cond.code yX9_budgetShare cX9_budgetShare 2 (some FieldType.float) :: LW) ({ frames := 7, cells := 0, slots := 0, locals := 240 }) [vR (g 0), vI c9] h (fun r h' => ((¬ (0 ≤ c9 ∧ c9 < σ 2 0)) ∧ r = some (vF 0) ∧ MI g (su σ 30 0 1) h') ∨ (¬ (¬ (0 ≤ c9 ∧ c9 < σ 2 0)) ∧ (σ 7 c9 = 0) ∧ r = some (vF 0) ∧ MI g (su σ 30 0 2) h') ∨ (¬ (¬ (0 ≤ c9 ∧ c9 < σ 2 0)) ∧ ¬ (σ 7 c9 = 0) ∧ r = some (vF (shF σ c9)) ∧ ∃ s d : Int → Int, MI g (sw (sw (su σ 30 0 0) 14 s) 15 d) h' ∧ (∀ j, -2147483648 ≤ s j ∧ s j < 2147483648) ∧ (∀ j, -2147483648 ≤ d j ∧ d j < 2147483648))) := by
  refine ct_of rfl rfl ?_
  intro p e s m args below meth c F hr hnm
  have F : Fx p s m args meth c RX9 cX9_budgetShare 2 G N0 (cA h s.heap.size) := F
  obtain ⟨v0, v1, v2, v8, v16, v24, v29, vC, vE, vL, vK, vT⟩ := id hV
  have C_c9 := vC c9
  show Z _ _ _ _ _ _ _ _ _ _ _ _ _ _ _ _ _ _ _ [(0, vR (g 0)), (1, vI c9)] []
  refine z_aload_n F dX9_budgetShare_0 rfl 0 rfl ?_
  refine z_aload_n F dX9_budgetShare_1 rfl 0 rfl ?_
  refine z_iload_n F dX9_budgetShare_2 rfl 1 rfl ?_
  refine z_callV (As := [vI c9]) (st := [vR (g 0)]) F (mX9_isNoClient l G N0 h g σ c9 hI hR (by omega) (by omega)) cvX9_120 (mI hI 0 rfl) (fun r9 h9 => by cases h9; rfl) rfl rfl ⟨Nat.le_of_ble_eq_true rfl, Nat.le_of_ble_eq_true rfl⟩ rfl ⟨Nat.le_of_ble_eq_true rfl, Nat.le_of_ble_eq_true rfl⟩ dX9_budgetShare_3 ?_
  rintro _ h9 ⟨rfl, hh9⟩
  rw [hh9]
  clear hh9 h9
  generalize ex1 : (if 0 ≤ c9 ∧ c9 < σ 2 0 then (0 : Int) else 1) = x1
  show Z _ _ _ _ _ _ _ _ _ _ _ _ _ _ _ _ _ _ _ _ [vI x1, vR (g 0)]
  refine z_if_eq (tgt := 13) F dX9_budgetShare_6 (by decide) (by omega) (fun c6 => ?_) (fun c6 => ?_)
  · refine z_aload_n F dX9_budgetShare_13 rfl 0 rfl ?_
    refine z_get (v := vR (g 7)) F (mI hI 0 rfl) fX9_27 rfl dX9_budgetShare_14 ?_
    refine z_iload_n F dX9_budgetShare_17 rfl 1 rfl ?_
    refine z_iaload (N := 5) (f := fun j => σ 7 j) F (mI hI 7 rfl) (by omega) (by omega) (by omega) dX9_budgetShare_18 ?_
    refine z_if_ne (tgt := 26) F dX9_budgetShare_19 (by decide) (hR 7 c9) (fun c19 => ?_) (fun c19 => ?_)
    · refine z_iconst F dX9_budgetShare_26 ?_
      refine z_callV (As := [vI 0]) (st := []) F (mX9_fails l G N0 h g σ 0 hI hR (by decide)) cvX9_107 (mI hI 0 rfl) (fun r9 h9 => by cases h9; rfl) rfl rfl ⟨Nat.le_of_ble_eq_true rfl, Nat.le_of_ble_eq_true rfl⟩ rfl ⟨Nat.le_of_ble_eq_true rfl, Nat.le_of_ble_eq_true rfl⟩ dX9_budgetShare_27 ?_
      rintro _ h2 ⟨rfl, Ih2⟩
      rw [if_neg (by decide)]
      show Z _ _ _ _ _ _ _ _ _ _ _ _ _ _ _ _ _ _ _ _ [vI 0]
      refine z_if_eq (tgt := 37) F dX9_budgetShare_30 (by decide) (by decide) (fun c30 => ?_) (fun c30 => ?_)
      · refine z_aload_n F dX9_budgetShare_37 rfl 0 rfl ?_
        refine z_iload_n F dX9_budgetShare_38 rfl 1 rfl ?_
        have Vh3 : MV (su σ 30 0 0) := (MV_q (EQ.symm (EQ.c _ _)) hV)
        refine z_callV (As := [vI c9]) (st := []) F (mX9_shareOf l G N0 h2 g (su σ 30 0 0) c9 Ih2 (rg_su hR (by decide)) Vh3 (show 0 ≤ c9 ∧ c9 < σ 2 0 from by omega) (show σ 7 c9 ≠ 0 from by omega)) cvX9_224 (mI Ih2 0 rfl) (fun r9 h9 => by cases h9; rfl) rfl rfl ⟨Nat.le_of_ble_eq_true rfl, Nat.le_of_ble_eq_true rfl⟩ rfl ⟨Nat.le_of_ble_eq_true rfl, Nat.le_of_ble_eq_true rfl⟩ dX9_budgetShare_39 ?_
        rintro _ h3 ⟨sh3, dh3, rfl, Ih3, Rsh3, Rdh3⟩
        have eoh3 : shF (su σ 30 0 0) c9 = shF σ c9 := shF_q (EQ.c _ _) c9
        rw [eoh3]
        show Z _ _ _ _ _ _ _ _ _ _ _ _ _ _ _ _ _ _ _ _ [vF (shF σ c9)]
        exact z_fret F hr (Nat.le_of_ble_eq_true rfl) (Nat.le_of_ble_eq_true rfl) dX9_budgetShare_42 (Or.inr (Or.inr (⟨by omega, by omega, rfl, sh3, dh3, Ih3, Rsh3, Rdh3⟩)))
      · exact absurd c30 (by decide)
    · refine z_iconst F dX9_budgetShare_22 ?_
      refine z_goto (tgt := 27) F dX9_budgetShare_23 (by decide) ?_
      refine z_callV (As := [vI 2]) (st := []) F (mX9_fails l G N0 h g σ 2 hI hR (by decide)) cvX9_107 (mI hI 0 rfl) (fun r9 h9 => by cases h9; rfl) rfl rfl ⟨Nat.le_of_ble_eq_true rfl, Nat.le_of_ble_eq_true rfl⟩ rfl ⟨Nat.le_of_ble_eq_true rfl, Nat.le_of_ble_eq_true rfl⟩ dX9_budgetShare_27 ?_
      rintro _ h4 ⟨rfl, Ih4⟩
      rw [if_pos (by decide)]
      show Z _ _ _ _ _ _ _ _ _ _ _ _ _ _ _ _ _ _ _ _ [vI 1]
      refine z_if_eq (tgt := 37) F dX9_budgetShare_30 (by decide) (by decide) (fun c30 => ?_) (fun c30 => ?_)
      · exact absurd c30 (by decide)
      · refine z_fconst0 F dX9_budgetShare_33 ?_
        refine z_goto (tgt := 42) F dX9_budgetShare_34 (by decide) ?_
        exact z_fret F hr (Nat.le_of_ble_eq_true rfl) (Nat.le_of_ble_eq_true rfl) dX9_budgetShare_42 (Or.inr (Or.inl ⟨by omega, by omega, rfl, Ih4⟩))
  · refine z_iconst F dX9_budgetShare_9 ?_
    refine z_goto (tgt := 27) F dX9_budgetShare_10 (by decide) ?_
    refine z_callV (As := [vI 1]) (st := []) F (mX9_fails l G N0 h g σ 1 hI hR (by decide)) cvX9_107 (mI hI 0 rfl) (fun r9 h9 => by cases h9; rfl) rfl rfl ⟨Nat.le_of_ble_eq_true rfl, Nat.le_of_ble_eq_true rfl⟩ rfl ⟨Nat.le_of_ble_eq_true rfl, Nat.le_of_ble_eq_true rfl⟩ dX9_budgetShare_27 ?_
    rintro _ h5 ⟨rfl, Ih5⟩
    rw [if_pos (by decide)]
    show Z _ _ _ _ _ _ _ _ _ _ _ _ _ _ _ _ _ _ _ _ [vI 1]
    refine z_if_eq (tgt := 37) F dX9_budgetShare_30 (by decide) (by decide) (fun c30 => ?_) (fun c30 => ?_)
    · exact absurd c30 (by decide)
    · refine z_fconst0 F dX9_budgetShare_33 ?_
      refine z_goto (tgt := 42) F dX9_budgetShare_34 (by decide) ?_
      exact z_fret F hr (Nat.le_of_ble_eq_true rfl) (Nat.le_of_ble_eq_true rfl) dX9_budgetShare_42 (Or.inl ⟨by omega, rfl, Ih5⟩)
