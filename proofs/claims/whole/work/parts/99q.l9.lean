theorem i2c_ex (x : Int) : ∃ z : Int, (0 ≤ z ∧ z < 65536) ∧ ((iI x).toUInt32 % 65536).toInt32 = iI z := by
  have q : ((iI x).toUInt32 % 65536).toNat = (iI x).toUInt32.toNat % 65536 := UInt32.toNat_mod _ _
  generalize (iI x).toUInt32 % 65536 = y at q
  refine ⟨(y.toNat : Int), by omega, ?_⟩
  apply Int32.toBitVec_inj.mp
  show y.toBitVec = BitVec.ofInt 32 (y.toNat : Int)
  rw [BitVec.ofInt_natCast]
  show y.toBitVec = BitVec.ofNat 32 y.toBitVec.toNat
  simp
theorem RT.tot8 {G : GG} {gm : Nat → Nat} {gc : Int → Nat} {σ ρ : Sg} {hm hc : Hp} (T : RT G gm gc σ ρ hm hc) : ∀ i : Int, 0 ≤ i → i < 8 → MG 255 (fb (σ 23 i)) := fun i h0 h1 => by
  obtain ⟨t1, t2, t3, t4, t5, -⟩ := T
  rw [t5.e 23]
  by_cases h : i < ρ 16 0
  · exact t4.tot ⟨h0, h⟩
  · have hV := t4
    obtain ⟨v0, v1, v2, v8, v16, v24, v39, vC, vE, vJ, vK, vB, vO⟩ := hV
    have z := (vB.2.2.2 i (by omega)).2
    rw [z]; unfold MG; decide
theorem cw_pass : Cond.codeWith yL_pass cL_pass 4 (some FieldType.int) [(0, 9, 12, 13), (0, 9, 15, 15)] ∈ tables_1 := List.mem_of_getElem? (i := 727) (by decide +kernel)
theorem cw_setRule : Cond.codeWith yL_setRule cL_setRule 4 (some FieldType.int) [(0, 9, 12, 13)] ∈ tables_1 := List.mem_of_getElem? (i := 759) (by decide +kernel)
theorem cw_addClient : Cond.codeWith yL_addClient cL_addClient 7 (some FieldType.int) [(0, 14, 17, 13), (0, 14, 21, 15)] ∈ tables_1 := List.mem_of_getElem? (i := 767) (by decide +kernel)
theorem cw_setRounding : Cond.codeWith yL_setRounding cL_setRounding 7 (some FieldType.int) [(0, 14, 17, 29), (0, 14, 21, 13)] ∈ tables_1 := List.mem_of_getElem? (i := 827) (by decide +kernel)
theorem cw_setRate : Cond.codeWith yL_setRate cL_setRate 5 (some FieldType.int) [(0, 10, 13, 29), (0, 10, 17, 13)] ∈ tables_1 := List.mem_of_getElem? (i := 857) (by decide +kernel)
theorem cw_setBudget : Cond.codeWith yL_setBudget cL_setBudget 5 (some FieldType.int) [(0, 10, 13, 29), (0, 10, 17, 13)] ∈ tables_1 := List.mem_of_getElem? (i := 864) (by decide +kernel)
theorem cw_start : Cond.codeWith yL_start cL_start 4 (some FieldType.int) [(0, 9, 12, 29), (0, 9, 15, 15)] ∈ tables_1 := List.mem_of_getElem? (i := 872) (by decide +kernel)
theorem cw_stop : Cond.codeWith yL_stop cL_stop 4 (some FieldType.int) [(0, 9, 12, 29), (0, 9, 15, 15)] ∈ tables_1 := List.mem_of_getElem? (i := 931) (by decide +kernel)
theorem cw_addEntry : Cond.codeWith yL_addEntry cL_addEntry 6 (some FieldType.int) [(0, 12, 15, 29), (0, 12, 19, 13), (0, 12, 23, 15)] ∈ tables_1 := List.mem_of_getElem? (i := 944) (by decide +kernel)
theorem cw_setStart : Cond.codeWith yL_setStart cL_setStart 5 (some FieldType.int) [(0, 10, 13, 29), (0, 10, 17, 15), (0, 10, 21, 13)] ∈ tables_1 := List.mem_of_getElem? (i := 952) (by decide +kernel)
theorem cw_setEnd : Cond.codeWith yL_setEnd cL_setEnd 5 (some FieldType.int) [(0, 10, 13, 29), (0, 10, 17, 15), (0, 10, 21, 13)] ∈ tables_1 := List.mem_of_getElem? (i := 969) (by decide +kernel)
theorem cw_remove : Cond.codeWith yL_remove cL_remove 4 (some FieldType.int) [(0, 9, 12, 29), (0, 9, 15, 15)] ∈ tables_1 := List.mem_of_getElem? (i := 978) (by decide +kernel)
theorem cw_state : Cond.codeWith yL_state cL_state 4 (some FieldType.int) [(0, 9, 12, 29)] ∈ tables_1 := List.mem_of_getElem? (i := 989) (by decide +kernel)
theorem cw_startOf : Cond.codeWith yL_startOf cL_startOf 4 (some FieldType.int) [(0, 9, 12, 29)] ∈ tables_1 := List.mem_of_getElem? (i := 996) (by decide +kernel)
theorem cw_endOf : Cond.codeWith yL_endOf cL_endOf 4 (some FieldType.int) [(0, 9, 12, 29)] ∈ tables_1 := List.mem_of_getElem? (i := 1003) (by decide +kernel)
theorem cw_counted : Cond.codeWith yL_counted cL_counted 4 (some FieldType.int) [(0, 9, 12, 29)] ∈ tables_1 := List.mem_of_getElem? (i := 1010) (by decide +kernel)
theorem cw_countedByMinutes : Cond.codeWith yL_countedByMinutes cL_countedByMinutes 4 (some FieldType.int) [(0, 9, 12, 29)] ∈ tables_1 := List.mem_of_getElem? (i := 1018) (by decide +kernel)
theorem cw_writeEntry : Cond.codeWith yL_writeEntry cL_writeEntry 4 (some FieldType.int) [(0, 9, 12, 29)] ∈ tables_1 := List.mem_of_getElem? (i := 1025) (by decide +kernel)
theorem cw_charAt : Cond.codeWith yL_charAt cL_charAt 4 (some FieldType.int) [(0, 9, 12, 29)] ∈ tables_1 := List.mem_of_getElem? (i := 1106) (by decide +kernel)
theorem cw_rounded : Cond.codeWith yL_rounded cL_rounded 4 (some FieldType.int) [(0, 9, 12, 29), (0, 9, 15, 15), (0, 9, 18, 82)] ∈ tables_1 := List.mem_of_getElem? (i := 1124) (by decide +kernel)
theorem cw_daySeconds : Cond.codeWith yL_daySeconds cL_daySeconds 5 (some FieldType.int) [(0, 10, 13, 29), (0, 10, 17, 13)] ∈ tables_1 := List.mem_of_getElem? (i := 1153) (by decide +kernel)
theorem cw_daySecondsByMinutes : Cond.codeWith yL_daySecondsByMinutes cL_daySecondsByMinutes 5 (some FieldType.int) [(0, 10, 13, 29), (0, 10, 17, 13)] ∈ tables_1 := List.mem_of_getElem? (i := 1180) (by decide +kernel)
theorem cw_openMinutes : Cond.codeWith yL_openMinutes cL_openMinutes 4 (some FieldType.int) [(0, 9, 12, 29)] ∈ tables_1 := List.mem_of_getElem? (i := 1187) (by decide +kernel)
theorem cw_openMinutesByLines : Cond.codeWith yL_openMinutesByLines cL_openMinutesByLines 4 (some FieldType.int) [(0, 9, 12, 29)] ∈ tables_1 := List.mem_of_getElem? (i := 1194) (by decide +kernel)
theorem cw_invoice : Cond.codeWith yL_invoice cL_invoice 4 (some FieldType.int) [(0, 9, 12, 29), (0, 9, 15, 15)] ∈ tables_1 := List.mem_of_getElem? (i := 1201) (by decide +kernel)
theorem cw_lines : Cond.codeWith yL_lines cL_lines 4 (some FieldType.int) [(0, 9, 12, 29)] ∈ tables_1 := List.mem_of_getElem? (i := 1294) (by decide +kernel)
theorem cw_lineKind : Cond.codeWith yL_lineKind cL_lineKind 5 (some FieldType.int) [(0, 10, 13, 29)] ∈ tables_1 := List.mem_of_getElem? (i := 1306) (by decide +kernel)
theorem cw_lineMinutes : Cond.codeWith yL_lineMinutes cL_lineMinutes 5 (some FieldType.int) [(0, 10, 13, 29)] ∈ tables_1 := List.mem_of_getElem? (i := 1319) (by decide +kernel)
theorem cw_lineSubject : Cond.codeWith yL_lineSubject cL_lineSubject 5 (some FieldType.int) [(0, 10, 13, 29)] ∈ tables_1 := List.mem_of_getElem? (i := 1326) (by decide +kernel)
theorem cw_lineAmount : Cond.codeWith yL_lineAmount cL_lineAmount 5 (some FieldType.int) [(0, 10, 13, 29)] ∈ tables_1 := List.mem_of_getElem? (i := 1333) (by decide +kernel)
theorem cw_total : Cond.codeWith yL_total cL_total 4 (some FieldType.int) [(0, 9, 12, 29)] ∈ tables_1 := List.mem_of_getElem? (i := 1340) (by decide +kernel)
theorem cw_totalBits : Cond.codeWith yL_totalBits cL_totalBits 4 (some FieldType.int) [(0, 9, 12, 29)] ∈ tables_1 := List.mem_of_getElem? (i := 1347) (by decide +kernel)
theorem cw_totalCents : Cond.codeWith yL_totalCents cL_totalCents 4 (some FieldType.int) [(0, 9, 12, 29)] ∈ tables_1 := List.mem_of_getElem? (i := 1359) (by decide +kernel)
theorem cw_correct : Cond.codeWith yL_correct cL_correct 5 (some FieldType.int) [(0, 10, 13, 29), (0, 10, 17, 13), (0, 10, 21, 15)] ∈ tables_1 := List.mem_of_getElem? (i := 1366) (by decide +kernel)
theorem cw_usedMinutes : Cond.codeWith yL_usedMinutes cL_usedMinutes 4 (some FieldType.int) [(0, 9, 12, 29)] ∈ tables_1 := List.mem_of_getElem? (i := 1398) (by decide +kernel)
theorem cw_budgetShare : Cond.codeWith yL_budgetShare cL_budgetShare 4 (some FieldType.int) [(0, 9, 12, 29), (0, 9, 15, 135)] ∈ tables_1 := List.mem_of_getElem? (i := 1409) (by decide +kernel)
theorem cw_warning : Cond.codeWith yL_warning cL_warning 4 (some FieldType.int) [(0, 9, 12, 29)] ∈ tables_1 := List.mem_of_getElem? (i := 1434) (by decide +kernel)
theorem cw_meanMinutes : Cond.codeWith yL_meanMinutes cL_meanMinutes 3 (some FieldType.int) [(0, 7, 10, 135)] ∈ tables_1 := List.mem_of_getElem? (i := 1442) (by decide +kernel)
theorem cw_meanBits : Cond.codeWith yL_meanBits cL_meanBits 3 (some FieldType.int) [(0, 7, 10, 135)] ∈ tables_1 := List.mem_of_getElem? (i := 1456) (by decide +kernel)
set_option maxHeartbeats 4000000 in
theorem case_now {p : Program} {l : Launch} {e : Env} {s : State} {m : MethodId} {args : Array Value} {below : List Frame} {meth : Method} {c : Code} {G : GG} {N0 : Nat} {A : Nat → Prop} {Q : State → Prop} (F : Fx p s m args meth c RL cL_law 9 G N0 A) {b ao ad L : Nat} {xs : Nat → Int32} {gm : Nat → Nat} {gc : Int → Nat} {i : Int} {k n : Nat} {h hm hc : Hp} {σ ρ : Sg} (hl9 : l.stackTraces = false) (hcw : ∀ w ∈ tables_1, w.before args s = true) (hX : va_X b L xs s s.heap) (hbl : b < s.heap.size) (hbA : ¬ A b) (hL : L ≤ 2560) (hi : 0 ≤ i ∧ i + 5 ≤ L) (hk0 : k + 130 ≤ 603072) (hn0 : n + 12100 ≤ 7198826) (H : HM h hm hc ao ad) (T : RT G gm gc σ ρ hm hc) (K : LK p l e s m args below meth c G N0 A Q b ao ad gm gc i k n) : Z p l e room_1 s m args below meth c 9 G N0 A Q h k n 236 [(5, vI i), (4, vR ad), (3, vR ao), (2, vR (gm 0)), (1, vR (gc 0)), (0, vR b)] [] := by
  refine z_aload_n F dL_law_236 rfl 4 rfl ?_
  refine z_callV (As := []) (st := []) F ((mX8_now l G N0 hc gc ρ T.2.2.1 T.2.2.2.1).frame H.c) cvL_152 (H.c _ _ (ci_0 T.2.2.1)) (fun r9 h9 => by cases h9; rfl) rfl rfl ⟨le_f (Nat.le_of_ble_eq_true rfl), le_l (Nat.le_of_ble_eq_true rfl)⟩ rfl ⟨le_c (by (try simp only []); omega), le_s (by (try simp only []); omega)⟩ dL_law_237 ?_
  rintro _ h9 ⟨h1p, ⟨rfl, e9⟩, -, rfl⟩
  rw [e9, mgH_self H.c]
  show Z _ _ _ _ _ _ _ _ _ _ _ _ _ _ _ _ _ _ _ _ [vI (ρ 0 0)]
  refine z_aload_n F dL_law_240 rfl 3 rfl ?_
  refine z_callV (As := []) (st := [vI (ρ 0 0)]) F ((mX9_now l G N0 hm gm σ T.1 T.2.1).frame H.m) cvL_156 (H.m _ _ (mI T.1 0 rfl)) (fun r9 h9 => by cases h9; rfl) rfl rfl ⟨le_f (Nat.le_of_ble_eq_true rfl), le_l (Nat.le_of_ble_eq_true rfl)⟩ rfl ⟨le_c (by (try simp only []); omega), le_s (by (try simp only []); omega)⟩ dL_law_241 ?_
  rintro _ h9 ⟨hm1, ⟨rfl, mi⟩, D2, rfl⟩
  show Z _ _ _ _ _ _ _ _ _ _ _ _ _ _ _ _ _ _ _ _ [vI (σ 0 0), vI (ρ 0 0)]
  refine z_icmp_eq (tgt := 2785) F dL_law_244 (by decide) (by rw [← T.2.2.2.2.1.e 0]; exact T.2.1 0 0) (T.2.1 0 0) (fun _ => ?_) (fun c9 => absurd (by rw [T.2.2.2.2.1.e 0]) c9)
  exact K _ _ _ (su σ 30 0 0) ρ hm1 hc (by (try simp only []); omega) (by (try simp only []); omega) (H.stepM D2) (T.same mi (rg_su T.2.1 (by decide)) T.2.2.1 (SA.refl ρ) (fun k n1 n2 n3 => by funext j; exact su_n n3))
set_option maxHeartbeats 4000000 in
theorem case_pass {p : Program} {l : Launch} {e : Env} {s : State} {m : MethodId} {args : Array Value} {below : List Frame} {meth : Method} {c : Code} {G : GG} {N0 : Nat} {A : Nat → Prop} {Q : State → Prop} (F : Fx p s m args meth c RL cL_law 9 G N0 A) {b ao ad L : Nat} {xs : Nat → Int32} {gm : Nat → Nat} {gc : Int → Nat} {i : Int} {k n : Nat} {h hm hc : Hp} {σ ρ : Sg} (hl9 : l.stackTraces = false) (hcw : ∀ w ∈ tables_1, w.before args s = true) (hX : va_X b L xs s s.heap) (hbl : b < s.heap.size) (hbA : ¬ A b) (hL : L ≤ 2560) (hi : 0 ≤ i ∧ i + 5 ≤ L) (hk0 : k + 130 ≤ 603072) (hn0 : n + 12100 ≤ 7198826) (H : HM h hm hc ao ad) (T : RT G gm gc σ ρ hm hc) (K : LK p l e s m args below meth c G N0 A Q b ao ad gm gc i k n) : Z p l e room_1 s m args below meth c 9 G N0 A Q h k n 249 [(5, vI i), (4, vR ad), (3, vR ao), (2, vR (gm 0)), (1, vR (gc 0)), (0, vR b)] [] := by
  obtain ⟨a1, ea1⟩ : ∃ z, z = (xs (i + 1).toNat).toInt := ⟨_, rfl⟩
  have ra1 : -2147483648 ≤ a1 ∧ a1 < 2147483648 := by rw [ea1]; exact iI_rng _
  refine z_aload_n F dL_law_249 rfl 4 rfl ?_
  refine z_aload_n F dL_law_250 rfl 5 rfl ?_
  refine z_iload F dL_law_251 0 rfl ?_
  refine z_iconst F dL_law_253 ?_
  refine z_iadd F dL_law_254 ?_
  refine z_sld (xs := xs) F hX hbl hbA (by omega) (by omega) (by omega) dL_law_255 ?_
  rw [← ea1]
  refine z_aload_n F dL_law_256 rfl 2 rfl ?_
  obtain ⟨f0, ho⟩ := H.o
  refine z_callSW (nA := 3) (As := [vR (gc 0), vI a1, vR ao]) (st := []) F (mL_pass l G N0 h hl9 gc ρ hc ao f0 a1 T.2.2.1 T.2.2.2.1 H.c ho H.co ra1) (hcw _ cw_pass) ⟨⟨q725, q726, q0⟩, by decide, by decide, by decide +kernel⟩ rfl rfl ⟨le_f (Nat.le_of_ble_eq_true rfl), le_l (Nat.le_of_ble_eq_true rfl)⟩ rfl ⟨le_c (by (try simp only []); omega), le_s (by (try simp only []); omega)⟩ dL_law_257 ?_
  intro r1 H1 p1
  obtain ⟨z1, hc1, w1, W1⟩ : ∃ (z1 : Int) (hc1 : Hp), r1 = some (vI z1) ∧ HM H1 hm hc1 ao ad := by
    rcases p1 with ⟨_, _, q1, ρp, h1p, S1, I1, D1, e1⟩ | ⟨_, q1, ρp, h1p, S1, I1, D1, e1⟩ | ⟨_, q1, ρp, h1p, S1, I1, D1, e1⟩
    · exact ⟨_, h1p, q1, by rw [e1]; exact (H.stepC D1).outL _⟩
    · exact ⟨_, h1p, q1, by rw [e1]; exact H.stepC D1⟩
    · exact ⟨_, h1p, q1, by rw [e1]; exact H.stepC D1⟩
  subst w1
  show Z _ _ _ _ _ _ _ _ _ _ _ _ _ _ _ _ _ _ _ _ [vI z1]
  refine z_istore (lv' := [(6, vI z1), (5, vI i), (4, vR ad), (3, vR ao), (2, vR (gm 0)), (1, vR (gc 0)), (0, vR b)]) F dL_law_260 (by decide) rfl ?_
  refine z_aload_n F dL_law_262 rfl 4 rfl ?_
  refine z_aload_n F dL_law_263 rfl 6 rfl ?_
  refine z_iload F dL_law_264 1 rfl ?_
  refine z_iconst F dL_law_266 ?_
  refine z_iadd F dL_law_267 ?_
  refine z_sld (xs := xs) F hX hbl hbA (by omega) (by omega) (by omega) dL_law_268 ?_
  rw [← ea1]
  refine z_callV (As := [vI a1]) (st := []) F ((mX9_pass l G N0 hm gm σ a1 T.1 T.2.1 T.mv ra1).frame W1.m) cvL_162 (W1.m _ _ (mI T.1 0 rfl)) (fun r9 h9 => by cases h9; rfl) rfl rfl ⟨le_f (Nat.le_of_ble_eq_true rfl), le_l (Nat.le_of_ble_eq_true rfl)⟩ rfl ⟨le_c (by (try simp only []); omega), le_s (by (try simp only []); omega)⟩ dL_law_269 ?_
  intro r2 h2 p2
  obtain ⟨σ1, ρ1, hm1, hc2, v, H', T', q1, q3, q2, q4⟩ := turn_pass H T p1 p2
  cases q1
  subst q2
  show Z _ _ _ _ _ _ _ _ _ _ _ _ _ _ _ _ _ _ _ _ [vI v]
  exact tail_I F hk0 hn0 (by (try simp only []); omega) (by (try simp only []); omega) H' T' q3 q4 dL_law_272 dL_law_274 dL_law_275 dL_law_278 dL_law_280 dL_law_285 dL_law_287 dL_law_290 dL_law_291 dL_law_292 dL_law_293 dL_law_295 dL_law_296 dL_law_297 dL_law_302 (by decide) K
set_option maxHeartbeats 4000000 in
theorem case_setRule {p : Program} {l : Launch} {e : Env} {s : State} {m : MethodId} {args : Array Value} {below : List Frame} {meth : Method} {c : Code} {G : GG} {N0 : Nat} {A : Nat → Prop} {Q : State → Prop} (F : Fx p s m args meth c RL cL_law 9 G N0 A) {b ao ad L : Nat} {xs : Nat → Int32} {gm : Nat → Nat} {gc : Int → Nat} {i : Int} {k n : Nat} {h hm hc : Hp} {σ ρ : Sg} (hl9 : l.stackTraces = false) (hcw : ∀ w ∈ tables_1, w.before args s = true) (hX : va_X b L xs s s.heap) (hbl : b < s.heap.size) (hbA : ¬ A b) (hL : L ≤ 2560) (hi : 0 ≤ i ∧ i + 5 ≤ L) (hk0 : k + 130 ≤ 603072) (hn0 : n + 12100 ≤ 7198826) (H : HM h hm hc ao ad) (T : RT G gm gc σ ρ hm hc) (K : LK p l e s m args below meth c G N0 A Q b ao ad gm gc i k n) : Z p l e room_1 s m args below meth c 9 G N0 A Q h k n 305 [(5, vI i), (4, vR ad), (3, vR ao), (2, vR (gm 0)), (1, vR (gc 0)), (0, vR b)] [] := by
  obtain ⟨a1, ea1⟩ : ∃ z, z = (xs (i + 1).toNat).toInt := ⟨_, rfl⟩
  have ra1 : -2147483648 ≤ a1 ∧ a1 < 2147483648 := by rw [ea1]; exact iI_rng _
  obtain ⟨c1, rc1, ec1⟩ := i2c_ex a1
  refine z_aload_n F dL_law_305 rfl 4 rfl ?_
  refine z_aload_n F dL_law_306 rfl 5 rfl ?_
  refine z_iload F dL_law_307 0 rfl ?_
  refine z_iconst F dL_law_309 ?_
  refine z_iadd F dL_law_310 ?_
  refine z_sld (xs := xs) F hX hbl hbA (by omega) (by omega) (by omega) dL_law_311 ?_
  rw [← ea1]
  refine z_i2c (z := c1) F dL_law_312 ec1 ?_
  refine z_aload_n F dL_law_313 rfl 2 rfl ?_
  obtain ⟨f0, ho⟩ := H.o
  refine z_callSW (nA := 3) (As := [vR (gc 0), vI c1, vR ao]) (st := []) F (mL_setRule l G N0 h hl9 gc ρ hc ao f0 c1 T.2.2.1 T.2.2.2.1 H.c ho H.co rc1) (hcw _ cw_setRule) ⟨⟨q757, q758, q0⟩, by decide, by decide, by decide +kernel⟩ rfl rfl ⟨le_f (Nat.le_of_ble_eq_true rfl), le_l (Nat.le_of_ble_eq_true rfl)⟩ rfl ⟨le_c (by (try simp only []); omega), le_s (by (try simp only []); omega)⟩ dL_law_314 ?_
  intro r1 H1 p1
  obtain ⟨z1, hc1, w1, W1⟩ : ∃ (z1 : Int) (hc1 : Hp), r1 = some (vI z1) ∧ HM H1 hm hc1 ao ad := by
    rcases p1 with ⟨_, q1, ρp, h1p, S1, I1, D1, e1⟩ | ⟨_, q1, ρp, h1p, S1, I1, D1, e1⟩
    · exact ⟨_, h1p, q1, by rw [e1]; exact (H.stepC D1).outL _⟩
    · exact ⟨_, h1p, q1, by rw [e1]; exact H.stepC D1⟩
  subst w1
  show Z _ _ _ _ _ _ _ _ _ _ _ _ _ _ _ _ _ _ _ _ [vI z1]
  refine z_istore (lv' := [(6, vI z1), (5, vI i), (4, vR ad), (3, vR ao), (2, vR (gm 0)), (1, vR (gc 0)), (0, vR b)]) F dL_law_317 (by decide) rfl ?_
  refine z_aload_n F dL_law_319 rfl 4 rfl ?_
  refine z_aload_n F dL_law_320 rfl 6 rfl ?_
  refine z_iload F dL_law_321 1 rfl ?_
  refine z_iconst F dL_law_323 ?_
  refine z_iadd F dL_law_324 ?_
  refine z_sld (xs := xs) F hX hbl hbA (by omega) (by omega) (by omega) dL_law_325 ?_
  rw [← ea1]
  refine z_i2c (z := c1) F dL_law_326 ec1 ?_
  refine z_callV (As := [vI c1]) (st := []) F ((mX9_setRule l G N0 hm gm σ c1 T.1 T.2.1 T.mv rc1).frame W1.m) cvL_169 (W1.m _ _ (mI T.1 0 rfl)) (fun r9 h9 => by cases h9; rfl) rfl rfl ⟨le_f (Nat.le_of_ble_eq_true rfl), le_l (Nat.le_of_ble_eq_true rfl)⟩ rfl ⟨le_c (by (try simp only []); omega), le_s (by (try simp only []); omega)⟩ dL_law_327 ?_
  intro r2 h2 p2
  obtain ⟨σ1, ρ1, hm1, hc2, v, H', T', q1, q3, q2, q4⟩ := turn_setRule H T p1 p2
  cases q1
  subst q2
  show Z _ _ _ _ _ _ _ _ _ _ _ _ _ _ _ _ _ _ _ _ [vI v]
  exact tail_I F hk0 hn0 (by (try simp only []); omega) (by (try simp only []); omega) H' T' q3 q4 dL_law_330 dL_law_332 dL_law_333 dL_law_336 dL_law_338 dL_law_343 dL_law_345 dL_law_348 dL_law_349 dL_law_350 dL_law_351 dL_law_353 dL_law_354 dL_law_355 dL_law_360 (by decide) K
set_option maxHeartbeats 4000000 in
theorem case_addClient {p : Program} {l : Launch} {e : Env} {s : State} {m : MethodId} {args : Array Value} {below : List Frame} {meth : Method} {c : Code} {G : GG} {N0 : Nat} {A : Nat → Prop} {Q : State → Prop} (F : Fx p s m args meth c RL cL_law 9 G N0 A) {b ao ad L : Nat} {xs : Nat → Int32} {gm : Nat → Nat} {gc : Int → Nat} {i : Int} {k n : Nat} {h hm hc : Hp} {σ ρ : Sg} (hl9 : l.stackTraces = false) (hcw : ∀ w ∈ tables_1, w.before args s = true) (hX : va_X b L xs s s.heap) (hbl : b < s.heap.size) (hbA : ¬ A b) (hL : L ≤ 2560) (hi : 0 ≤ i ∧ i + 5 ≤ L) (hk0 : k + 130 ≤ 603072) (hn0 : n + 12100 ≤ 7198826) (H : HM h hm hc ao ad) (T : RT G gm gc σ ρ hm hc) (K : LK p l e s m args below meth c G N0 A Q b ao ad gm gc i k n) : Z p l e room_1 s m args below meth c 9 G N0 A Q h k n 363 [(5, vI i), (4, vR ad), (3, vR ao), (2, vR (gm 0)), (1, vR (gc 0)), (0, vR b)] [] := by
  obtain ⟨a1, ea1⟩ : ∃ z, z = (xs (i + 1).toNat).toInt := ⟨_, rfl⟩
  have ra1 : -2147483648 ≤ a1 ∧ a1 < 2147483648 := by rw [ea1]; exact iI_rng _
  obtain ⟨a2, ea2⟩ : ∃ z, z = (xs (i + 2).toNat).toInt := ⟨_, rfl⟩
  have ra2 : -2147483648 ≤ a2 ∧ a2 < 2147483648 := by rw [ea2]; exact iI_rng _
  obtain ⟨c2, rc2, ec2⟩ := i2c_ex a2
  obtain ⟨a3, ea3⟩ : ∃ z, z = (xs (i + 3).toNat).toInt := ⟨_, rfl⟩
  have ra3 : -2147483648 ≤ a3 ∧ a3 < 2147483648 := by rw [ea3]; exact iI_rng _
  obtain ⟨c3, rc3, ec3⟩ := i2c_ex a3
  obtain ⟨a4, ea4⟩ : ∃ z, z = (xs (i + 4).toNat).toInt := ⟨_, rfl⟩
  have ra4 : -2147483648 ≤ a4 ∧ a4 < 2147483648 := by rw [ea4]; exact iI_rng _
  refine z_aload_n F dL_law_363 rfl 4 rfl ?_
  refine z_aload_n F dL_law_364 rfl 5 rfl ?_
  refine z_iload F dL_law_365 0 rfl ?_
  refine z_iconst F dL_law_367 ?_
  refine z_iadd F dL_law_368 ?_
  refine z_sld (xs := xs) F hX hbl hbA (by omega) (by omega) (by omega) dL_law_369 ?_
  rw [← ea1]
  refine z_aload_n F dL_law_370 rfl 5 rfl ?_
  refine z_iload F dL_law_371 0 rfl ?_
  refine z_iconst F dL_law_373 ?_
  refine z_iadd F dL_law_374 ?_
  refine z_sld (xs := xs) F hX hbl hbA (by omega) (by omega) (by omega) dL_law_375 ?_
  rw [← ea2]
  refine z_i2c (z := c2) F dL_law_376 ec2 ?_
  refine z_aload_n F dL_law_377 rfl 5 rfl ?_
  refine z_iload F dL_law_378 0 rfl ?_
  refine z_iconst F dL_law_380 ?_
  refine z_iadd F dL_law_381 ?_
  refine z_sld (xs := xs) F hX hbl hbA (by omega) (by omega) (by omega) dL_law_382 ?_
  rw [← ea3]
  refine z_i2c (z := c3) F dL_law_383 ec3 ?_
  refine z_aload_n F dL_law_384 rfl 5 rfl ?_
  refine z_iload F dL_law_385 0 rfl ?_
  refine z_iconst F dL_law_387 ?_
  refine z_iadd F dL_law_388 ?_
  refine z_sld (xs := xs) F hX hbl hbA (by omega) (by omega) (by omega) dL_law_389 ?_
  rw [← ea4]
  refine z_aload_n F dL_law_390 rfl 2 rfl ?_
  obtain ⟨f0, ho⟩ := H.o
  refine z_callSW (nA := 6) (As := [vR (gc 0), vI a1, vI c2, vI c3, vI a4, vR ao]) (st := []) F (mL_addClient l G N0 h hl9 gc ρ hc ao f0 a1 c2 c3 a4 T.2.2.1 T.2.2.2.1 H.c ho H.co ra1 rc2 rc3 ra4) (hcw _ cw_addClient) ⟨⟨q765, q766, q0⟩, by decide, by decide, by decide +kernel⟩ rfl rfl ⟨le_f (Nat.le_of_ble_eq_true rfl), le_l (Nat.le_of_ble_eq_true rfl)⟩ rfl ⟨le_c (by (try simp only []); omega), le_s (by (try simp only []); omega)⟩ dL_law_391 ?_
  intro r1 H1 p1
  obtain ⟨z1, hc1, w1, W1⟩ : ∃ (z1 : Int) (hc1 : Hp), r1 = some (vI z1) ∧ HM H1 hm hc1 ao ad := by
    rcases p1 with ⟨_, _, q1, ρp, h1p, S1, I1, D1, e1⟩ | ⟨_, q1, ρp, h1p, S1, I1, D1, e1⟩ | ⟨_, q1, ρp, h1p, S1, I1, D1, e1⟩
    · exact ⟨_, h1p, q1, by rw [e1]; exact (H.stepC D1).outL _⟩
    · exact ⟨_, h1p, q1, by rw [e1]; exact H.stepC D1⟩
    · exact ⟨_, h1p, q1, by rw [e1]; exact H.stepC D1⟩
  subst w1
  show Z _ _ _ _ _ _ _ _ _ _ _ _ _ _ _ _ _ _ _ _ [vI z1]
  refine z_istore (lv' := [(6, vI z1), (5, vI i), (4, vR ad), (3, vR ao), (2, vR (gm 0)), (1, vR (gc 0)), (0, vR b)]) F dL_law_394 (by decide) rfl ?_
  refine z_aload_n F dL_law_396 rfl 4 rfl ?_
  refine z_aload_n F dL_law_397 rfl 6 rfl ?_
  refine z_iload F dL_law_398 1 rfl ?_
  refine z_iconst F dL_law_400 ?_
  refine z_iadd F dL_law_401 ?_
  refine z_sld (xs := xs) F hX hbl hbA (by omega) (by omega) (by omega) dL_law_402 ?_
  rw [← ea1]
  refine z_aload_n F dL_law_403 rfl 6 rfl ?_
  refine z_iload F dL_law_404 1 rfl ?_
  refine z_iconst F dL_law_406 ?_
  refine z_iadd F dL_law_407 ?_
  refine z_sld (xs := xs) F hX hbl hbA (by omega) (by omega) (by omega) dL_law_408 ?_
  rw [← ea2]
  refine z_i2c (z := c2) F dL_law_409 ec2 ?_
  refine z_aload_n F dL_law_410 rfl 6 rfl ?_
  refine z_iload F dL_law_411 1 rfl ?_
  refine z_iconst F dL_law_413 ?_
  refine z_iadd F dL_law_414 ?_
  refine z_sld (xs := xs) F hX hbl hbA (by omega) (by omega) (by omega) dL_law_415 ?_
  rw [← ea3]
  refine z_i2c (z := c3) F dL_law_416 ec3 ?_
  refine z_aload_n F dL_law_417 rfl 6 rfl ?_
  refine z_iload F dL_law_418 1 rfl ?_
  refine z_iconst F dL_law_420 ?_
  refine z_iadd F dL_law_421 ?_
  refine z_sld (xs := xs) F hX hbl hbA (by omega) (by omega) (by omega) dL_law_422 ?_
  rw [← ea4]
  refine z_callV (As := [vI a1, vI c2, vI c3, vI a4]) (st := []) F ((mX9_addClient l G N0 hm gm σ a1 c2 c3 a4 T.1 T.2.1 T.mv ra1 rc2 rc3 ra4).frame W1.m) cvL_173 (W1.m _ _ (mI T.1 0 rfl)) (fun r9 h9 => by cases h9; rfl) rfl rfl ⟨le_f (Nat.le_of_ble_eq_true rfl), le_l (Nat.le_of_ble_eq_true rfl)⟩ rfl ⟨le_c (by (try simp only []); omega), le_s (by (try simp only []); omega)⟩ dL_law_423 ?_
  intro r2 h2 p2
  obtain ⟨σ1, ρ1, hm1, hc2, v, H', T', q1, q3, q2, q4⟩ := turn_addClient H T p1 p2
  cases q1
  subst q2
  show Z _ _ _ _ _ _ _ _ _ _ _ _ _ _ _ _ _ _ _ _ [vI v]
  exact tail_I F hk0 hn0 (by (try simp only []); omega) (by (try simp only []); omega) H' T' q3 q4 dL_law_426 dL_law_428 dL_law_429 dL_law_432 dL_law_434 dL_law_439 dL_law_441 dL_law_444 dL_law_445 dL_law_446 dL_law_447 dL_law_449 dL_law_450 dL_law_451 dL_law_456 (by decide) K
set_option maxHeartbeats 4000000 in
theorem case_clients {p : Program} {l : Launch} {e : Env} {s : State} {m : MethodId} {args : Array Value} {below : List Frame} {meth : Method} {c : Code} {G : GG} {N0 : Nat} {A : Nat → Prop} {Q : State → Prop} (F : Fx p s m args meth c RL cL_law 9 G N0 A) {b ao ad L : Nat} {xs : Nat → Int32} {gm : Nat → Nat} {gc : Int → Nat} {i : Int} {k n : Nat} {h hm hc : Hp} {σ ρ : Sg} (hl9 : l.stackTraces = false) (hcw : ∀ w ∈ tables_1, w.before args s = true) (hX : va_X b L xs s s.heap) (hbl : b < s.heap.size) (hbA : ¬ A b) (hL : L ≤ 2560) (hi : 0 ≤ i ∧ i + 5 ≤ L) (hk0 : k + 130 ≤ 603072) (hn0 : n + 12100 ≤ 7198826) (H : HM h hm hc ao ad) (T : RT G gm gc σ ρ hm hc) (K : LK p l e s m args below meth c G N0 A Q b ao ad gm gc i k n) : Z p l e room_1 s m args below meth c 9 G N0 A Q h k n 459 [(5, vI i), (4, vR ad), (3, vR ao), (2, vR (gm 0)), (1, vR (gc 0)), (0, vR b)] [] := by
  refine z_aload_n F dL_law_459 rfl 4 rfl ?_
  refine z_callV (As := []) (st := []) F ((mX8_clients l G N0 hc gc ρ T.2.2.1 T.2.2.2.1).frame H.c) cvL_174 (H.c _ _ (ci_0 T.2.2.1)) (fun r9 h9 => by cases h9; rfl) rfl rfl ⟨le_f (Nat.le_of_ble_eq_true rfl), le_l (Nat.le_of_ble_eq_true rfl)⟩ rfl ⟨le_c (by (try simp only []); omega), le_s (by (try simp only []); omega)⟩ dL_law_460 ?_
  rintro _ h9 ⟨h1p, ⟨rfl, e9⟩, -, rfl⟩
  rw [e9, mgH_self H.c]
  show Z _ _ _ _ _ _ _ _ _ _ _ _ _ _ _ _ _ _ _ _ [vI (ρ 2 0)]
  refine z_aload_n F dL_law_463 rfl 3 rfl ?_
  refine z_callV (As := []) (st := [vI (ρ 2 0)]) F ((mX9_clients l G N0 hm gm σ T.1 T.2.1).frame H.m) cvL_177 (H.m _ _ (mI T.1 0 rfl)) (fun r9 h9 => by cases h9; rfl) rfl rfl ⟨le_f (Nat.le_of_ble_eq_true rfl), le_l (Nat.le_of_ble_eq_true rfl)⟩ rfl ⟨le_c (by (try simp only []); omega), le_s (by (try simp only []); omega)⟩ dL_law_464 ?_
  rintro _ h9 ⟨hm1, ⟨rfl, mi⟩, D2, rfl⟩
  show Z _ _ _ _ _ _ _ _ _ _ _ _ _ _ _ _ _ _ _ _ [vI (σ 2 0), vI (ρ 2 0)]
  refine z_icmp_eq (tgt := 2785) F dL_law_467 (by decide) (by rw [← T.2.2.2.2.1.e 2]; exact T.2.1 2 0) (T.2.1 2 0) (fun _ => ?_) (fun c9 => absurd (by rw [T.2.2.2.2.1.e 2]) c9)
  exact K _ _ _ (su σ 30 0 0) ρ hm1 hc (by (try simp only []); omega) (by (try simp only []); omega) (H.stepM D2) (T.same mi (rg_su T.2.1 (by decide)) T.2.2.1 (SA.refl ρ) (fun k n1 n2 n3 => by funext j; exact su_n n3))
set_option maxHeartbeats 4000000 in
theorem case_setRounding {p : Program} {l : Launch} {e : Env} {s : State} {m : MethodId} {args : Array Value} {below : List Frame} {meth : Method} {c : Code} {G : GG} {N0 : Nat} {A : Nat → Prop} {Q : State → Prop} (F : Fx p s m args meth c RL cL_law 9 G N0 A) {b ao ad L : Nat} {xs : Nat → Int32} {gm : Nat → Nat} {gc : Int → Nat} {i : Int} {k n : Nat} {h hm hc : Hp} {σ ρ : Sg} (hl9 : l.stackTraces = false) (hcw : ∀ w ∈ tables_1, w.before args s = true) (hX : va_X b L xs s s.heap) (hbl : b < s.heap.size) (hbA : ¬ A b) (hL : L ≤ 2560) (hi : 0 ≤ i ∧ i + 5 ≤ L) (hk0 : k + 130 ≤ 603072) (hn0 : n + 12100 ≤ 7198826) (H : HM h hm hc ao ad) (T : RT G gm gc σ ρ hm hc) (K : LK p l e s m args below meth c G N0 A Q b ao ad gm gc i k n) : Z p l e room_1 s m args below meth c 9 G N0 A Q h k n 472 [(5, vI i), (4, vR ad), (3, vR ao), (2, vR (gm 0)), (1, vR (gc 0)), (0, vR b)] [] := by
  obtain ⟨a1, ea1⟩ : ∃ z, z = (xs (i + 1).toNat).toInt := ⟨_, rfl⟩
  have ra1 : -2147483648 ≤ a1 ∧ a1 < 2147483648 := by rw [ea1]; exact iI_rng _
  obtain ⟨a2, ea2⟩ : ∃ z, z = (xs (i + 2).toNat).toInt := ⟨_, rfl⟩
  have ra2 : -2147483648 ≤ a2 ∧ a2 < 2147483648 := by rw [ea2]; exact iI_rng _
  obtain ⟨a3, ea3⟩ : ∃ z, z = (xs (i + 3).toNat).toInt := ⟨_, rfl⟩
  have ra3 : -2147483648 ≤ a3 ∧ a3 < 2147483648 := by rw [ea3]; exact iI_rng _
  obtain ⟨c3, rc3, ec3⟩ := i2c_ex a3
  obtain ⟨a4, ea4⟩ : ∃ z, z = (xs (i + 4).toNat).toInt := ⟨_, rfl⟩
  have ra4 : -2147483648 ≤ a4 ∧ a4 < 2147483648 := by rw [ea4]; exact iI_rng _
  obtain ⟨c4, rc4, ec4⟩ := i2c_ex a4
  refine z_aload_n F dL_law_472 rfl 4 rfl ?_
  refine z_aload_n F dL_law_473 rfl 5 rfl ?_
  refine z_iload F dL_law_474 0 rfl ?_
  refine z_iconst F dL_law_476 ?_
  refine z_iadd F dL_law_477 ?_
  refine z_sld (xs := xs) F hX hbl hbA (by omega) (by omega) (by omega) dL_law_478 ?_
  rw [← ea1]
  refine z_aload_n F dL_law_479 rfl 5 rfl ?_
  refine z_iload F dL_law_480 0 rfl ?_
  refine z_iconst F dL_law_482 ?_
  refine z_iadd F dL_law_483 ?_
  refine z_sld (xs := xs) F hX hbl hbA (by omega) (by omega) (by omega) dL_law_484 ?_
  rw [← ea2]
  refine z_aload_n F dL_law_485 rfl 5 rfl ?_
  refine z_iload F dL_law_486 0 rfl ?_
  refine z_iconst F dL_law_488 ?_
  refine z_iadd F dL_law_489 ?_
  refine z_sld (xs := xs) F hX hbl hbA (by omega) (by omega) (by omega) dL_law_490 ?_
  rw [← ea3]
  refine z_i2c (z := c3) F dL_law_491 ec3 ?_
  refine z_aload_n F dL_law_492 rfl 5 rfl ?_
  refine z_iload F dL_law_493 0 rfl ?_
  refine z_iconst F dL_law_495 ?_
  refine z_iadd F dL_law_496 ?_
  refine z_sld (xs := xs) F hX hbl hbA (by omega) (by omega) (by omega) dL_law_497 ?_
  rw [← ea4]
  refine z_i2c (z := c4) F dL_law_498 ec4 ?_
  refine z_aload_n F dL_law_499 rfl 2 rfl ?_
  obtain ⟨f0, ho⟩ := H.o
  refine z_callSW (nA := 6) (As := [vR (gc 0), vI a1, vI a2, vI c3, vI c4, vR ao]) (st := []) F (mL_setRounding l G N0 h hl9 gc ρ hc ao f0 a1 a2 c3 c4 T.2.2.1 T.2.2.2.1 H.c ho H.co ra1 ra2 rc3 rc4) (hcw _ cw_setRounding) ⟨⟨q825, q826, q0⟩, by decide, by decide, by decide +kernel⟩ rfl rfl ⟨le_f (Nat.le_of_ble_eq_true rfl), le_l (Nat.le_of_ble_eq_true rfl)⟩ rfl ⟨le_c (by (try simp only []); omega), le_s (by (try simp only []); omega)⟩ dL_law_500 ?_
  intro r1 H1 p1
  obtain ⟨z1, hc1, w1, W1⟩ : ∃ (z1 : Int) (hc1 : Hp), r1 = some (vI z1) ∧ HM H1 hm hc1 ao ad := by
    rcases p1 with ⟨_, _, q1, ρp, h1p, S1, I1, D1, e1⟩ | ⟨_, q1, ρp, h1p, S1, I1, D1, e1⟩ | ⟨_, q1, ρp, h1p, S1, I1, D1, e1⟩
    · exact ⟨_, h1p, q1, by rw [e1]; exact (H.stepC D1).outL _⟩
    · exact ⟨_, h1p, q1, by rw [e1]; exact H.stepC D1⟩
    · exact ⟨_, h1p, q1, by rw [e1]; exact H.stepC D1⟩
  subst w1
  show Z _ _ _ _ _ _ _ _ _ _ _ _ _ _ _ _ _ _ _ _ [vI z1]
  refine z_istore (lv' := [(6, vI z1), (5, vI i), (4, vR ad), (3, vR ao), (2, vR (gm 0)), (1, vR (gc 0)), (0, vR b)]) F dL_law_503 (by decide) rfl ?_
  refine z_aload_n F dL_law_505 rfl 4 rfl ?_
  refine z_aload_n F dL_law_506 rfl 6 rfl ?_
  refine z_iload F dL_law_507 1 rfl ?_
  refine z_iconst F dL_law_509 ?_
  refine z_iadd F dL_law_510 ?_
  refine z_sld (xs := xs) F hX hbl hbA (by omega) (by omega) (by omega) dL_law_511 ?_
  rw [← ea1]
  refine z_aload_n F dL_law_512 rfl 6 rfl ?_
  refine z_iload F dL_law_513 1 rfl ?_
  refine z_iconst F dL_law_515 ?_
  refine z_iadd F dL_law_516 ?_
  refine z_sld (xs := xs) F hX hbl hbA (by omega) (by omega) (by omega) dL_law_517 ?_
  rw [← ea2]
  refine z_aload_n F dL_law_518 rfl 6 rfl ?_
  refine z_iload F dL_law_519 1 rfl ?_
  refine z_iconst F dL_law_521 ?_
  refine z_iadd F dL_law_522 ?_
  refine z_sld (xs := xs) F hX hbl hbA (by omega) (by omega) (by omega) dL_law_523 ?_
  rw [← ea3]
  refine z_i2c (z := c3) F dL_law_524 ec3 ?_
  refine z_aload_n F dL_law_525 rfl 6 rfl ?_
  refine z_iload F dL_law_526 1 rfl ?_
  refine z_iconst F dL_law_528 ?_
  refine z_iadd F dL_law_529 ?_
  refine z_sld (xs := xs) F hX hbl hbA (by omega) (by omega) (by omega) dL_law_530 ?_
  rw [← ea4]
  refine z_i2c (z := c4) F dL_law_531 ec4 ?_
  refine z_callV (As := [vI a1, vI a2, vI c3, vI c4]) (st := []) F ((mX9_setRounding l G N0 hm gm σ a1 a2 c3 c4 T.1 T.2.1 T.mv ra1 ra2 rc3 rc4).frame W1.m) cvL_181 (W1.m _ _ (mI T.1 0 rfl)) (fun r9 h9 => by cases h9; rfl) rfl rfl ⟨le_f (Nat.le_of_ble_eq_true rfl), le_l (Nat.le_of_ble_eq_true rfl)⟩ rfl ⟨le_c (by (try simp only []); omega), le_s (by (try simp only []); omega)⟩ dL_law_532 ?_
  intro r2 h2 p2
  obtain ⟨σ1, ρ1, hm1, hc2, v, H', T', q1, q3, q2, q4⟩ := turn_setRounding H T p1 p2
  cases q1
  subst q2
  show Z _ _ _ _ _ _ _ _ _ _ _ _ _ _ _ _ _ _ _ _ [vI v]
  exact tail_I F hk0 hn0 (by (try simp only []); omega) (by (try simp only []); omega) H' T' q3 q4 dL_law_535 dL_law_537 dL_law_538 dL_law_541 dL_law_543 dL_law_548 dL_law_550 dL_law_553 dL_law_554 dL_law_555 dL_law_556 dL_law_558 dL_law_559 dL_law_560 dL_law_565 (by decide) K
set_option maxHeartbeats 4000000 in
theorem case_setRate {p : Program} {l : Launch} {e : Env} {s : State} {m : MethodId} {args : Array Value} {below : List Frame} {meth : Method} {c : Code} {G : GG} {N0 : Nat} {A : Nat → Prop} {Q : State → Prop} (F : Fx p s m args meth c RL cL_law 9 G N0 A) {b ao ad L : Nat} {xs : Nat → Int32} {gm : Nat → Nat} {gc : Int → Nat} {i : Int} {k n : Nat} {h hm hc : Hp} {σ ρ : Sg} (hl9 : l.stackTraces = false) (hcw : ∀ w ∈ tables_1, w.before args s = true) (hX : va_X b L xs s s.heap) (hbl : b < s.heap.size) (hbA : ¬ A b) (hL : L ≤ 2560) (hi : 0 ≤ i ∧ i + 5 ≤ L) (hk0 : k + 130 ≤ 603072) (hn0 : n + 12100 ≤ 7198826) (H : HM h hm hc ao ad) (T : RT G gm gc σ ρ hm hc) (K : LK p l e s m args below meth c G N0 A Q b ao ad gm gc i k n) : Z p l e room_1 s m args below meth c 9 G N0 A Q h k n 568 [(5, vI i), (4, vR ad), (3, vR ao), (2, vR (gm 0)), (1, vR (gc 0)), (0, vR b)] [] := by
  obtain ⟨a1, ea1⟩ : ∃ z, z = (xs (i + 1).toNat).toInt := ⟨_, rfl⟩
  have ra1 : -2147483648 ≤ a1 ∧ a1 < 2147483648 := by rw [ea1]; exact iI_rng _
  obtain ⟨a2, ea2⟩ : ∃ z, z = (xs (i + 2).toNat).toInt := ⟨_, rfl⟩
  have ra2 : -2147483648 ≤ a2 ∧ a2 < 2147483648 := by rw [ea2]; exact iI_rng _
  refine z_aload_n F dL_law_568 rfl 4 rfl ?_
  refine z_aload_n F dL_law_569 rfl 5 rfl ?_
  refine z_iload F dL_law_570 0 rfl ?_
  refine z_iconst F dL_law_572 ?_
  refine z_iadd F dL_law_573 ?_
  refine z_sld (xs := xs) F hX hbl hbA (by omega) (by omega) (by omega) dL_law_574 ?_
  rw [← ea1]
  refine z_aload_n F dL_law_575 rfl 5 rfl ?_
  refine z_iload F dL_law_576 0 rfl ?_
  refine z_iconst F dL_law_578 ?_
  refine z_iadd F dL_law_579 ?_
  refine z_sld (xs := xs) F hX hbl hbA (by omega) (by omega) (by omega) dL_law_580 ?_
  rw [← ea2]
  refine z_aload_n F dL_law_581 rfl 2 rfl ?_
  obtain ⟨f0, ho⟩ := H.o
  refine z_callSW (nA := 4) (As := [vR (gc 0), vI a1, vI a2, vR ao]) (st := []) F (mL_setRate l G N0 h hl9 gc ρ hc ao f0 a1 a2 T.2.2.1 T.2.2.2.1 H.c ho H.co ra1 ra2) (hcw _ cw_setRate) ⟨⟨q855, q856, q0⟩, by decide, by decide, by decide +kernel⟩ rfl rfl ⟨le_f (Nat.le_of_ble_eq_true rfl), le_l (Nat.le_of_ble_eq_true rfl)⟩ rfl ⟨le_c (by (try simp only []); omega), le_s (by (try simp only []); omega)⟩ dL_law_582 ?_
  intro r1 H1 p1
  obtain ⟨z1, hc1, w1, W1⟩ : ∃ (z1 : Int) (hc1 : Hp), r1 = some (vI z1) ∧ HM H1 hm hc1 ao ad := by
    rcases p1 with ⟨_, _, q1, ρp, h1p, S1, I1, D1, e1⟩ | ⟨_, q1, ρp, h1p, S1, I1, D1, e1⟩ | ⟨_, q1, ρp, h1p, S1, I1, D1, e1⟩
    · exact ⟨_, h1p, q1, by rw [e1]; exact (H.stepC D1).outL _⟩
    · exact ⟨_, h1p, q1, by rw [e1]; exact H.stepC D1⟩
    · exact ⟨_, h1p, q1, by rw [e1]; exact H.stepC D1⟩
  subst w1
  show Z _ _ _ _ _ _ _ _ _ _ _ _ _ _ _ _ _ _ _ _ [vI z1]
  refine z_istore (lv' := [(6, vI z1), (5, vI i), (4, vR ad), (3, vR ao), (2, vR (gm 0)), (1, vR (gc 0)), (0, vR b)]) F dL_law_585 (by decide) rfl ?_
  refine z_aload_n F dL_law_587 rfl 4 rfl ?_
  refine z_aload_n F dL_law_588 rfl 6 rfl ?_
  refine z_iload F dL_law_589 1 rfl ?_
  refine z_iconst F dL_law_591 ?_
  refine z_iadd F dL_law_592 ?_
  refine z_sld (xs := xs) F hX hbl hbA (by omega) (by omega) (by omega) dL_law_593 ?_
  rw [← ea1]
  refine z_aload_n F dL_law_594 rfl 6 rfl ?_
  refine z_iload F dL_law_595 1 rfl ?_
  refine z_iconst F dL_law_597 ?_
  refine z_iadd F dL_law_598 ?_
  refine z_sld (xs := xs) F hX hbl hbA (by omega) (by omega) (by omega) dL_law_599 ?_
  rw [← ea2]
  refine z_callV (As := [vI a1, vI a2]) (st := []) F ((mX9_setRate l G N0 hm gm σ a1 a2 T.1 T.2.1 T.mv ra1 ra2).frame W1.m) cvL_185 (W1.m _ _ (mI T.1 0 rfl)) (fun r9 h9 => by cases h9; rfl) rfl rfl ⟨le_f (Nat.le_of_ble_eq_true rfl), le_l (Nat.le_of_ble_eq_true rfl)⟩ rfl ⟨le_c (by (try simp only []); omega), le_s (by (try simp only []); omega)⟩ dL_law_600 ?_
  intro r2 h2 p2
  obtain ⟨σ1, ρ1, hm1, hc2, v, H', T', q1, q3, q2, q4⟩ := turn_setRate H T p1 p2
  cases q1
  subst q2
  show Z _ _ _ _ _ _ _ _ _ _ _ _ _ _ _ _ _ _ _ _ [vI v]
  exact tail_I F hk0 hn0 (by (try simp only []); omega) (by (try simp only []); omega) H' T' q3 q4 dL_law_603 dL_law_605 dL_law_606 dL_law_609 dL_law_611 dL_law_616 dL_law_618 dL_law_621 dL_law_622 dL_law_623 dL_law_624 dL_law_626 dL_law_627 dL_law_628 dL_law_633 (by decide) K
set_option maxHeartbeats 4000000 in
theorem case_setBudget {p : Program} {l : Launch} {e : Env} {s : State} {m : MethodId} {args : Array Value} {below : List Frame} {meth : Method} {c : Code} {G : GG} {N0 : Nat} {A : Nat → Prop} {Q : State → Prop} (F : Fx p s m args meth c RL cL_law 9 G N0 A) {b ao ad L : Nat} {xs : Nat → Int32} {gm : Nat → Nat} {gc : Int → Nat} {i : Int} {k n : Nat} {h hm hc : Hp} {σ ρ : Sg} (hl9 : l.stackTraces = false) (hcw : ∀ w ∈ tables_1, w.before args s = true) (hX : va_X b L xs s s.heap) (hbl : b < s.heap.size) (hbA : ¬ A b) (hL : L ≤ 2560) (hi : 0 ≤ i ∧ i + 5 ≤ L) (hk0 : k + 130 ≤ 603072) (hn0 : n + 12100 ≤ 7198826) (H : HM h hm hc ao ad) (T : RT G gm gc σ ρ hm hc) (K : LK p l e s m args below meth c G N0 A Q b ao ad gm gc i k n) : Z p l e room_1 s m args below meth c 9 G N0 A Q h k n 636 [(5, vI i), (4, vR ad), (3, vR ao), (2, vR (gm 0)), (1, vR (gc 0)), (0, vR b)] [] := by
  obtain ⟨a1, ea1⟩ : ∃ z, z = (xs (i + 1).toNat).toInt := ⟨_, rfl⟩
  have ra1 : -2147483648 ≤ a1 ∧ a1 < 2147483648 := by rw [ea1]; exact iI_rng _
  obtain ⟨a2, ea2⟩ : ∃ z, z = (xs (i + 2).toNat).toInt := ⟨_, rfl⟩
  have ra2 : -2147483648 ≤ a2 ∧ a2 < 2147483648 := by rw [ea2]; exact iI_rng _
  refine z_aload_n F dL_law_636 rfl 4 rfl ?_
  refine z_aload_n F dL_law_637 rfl 5 rfl ?_
  refine z_iload F dL_law_638 0 rfl ?_
  refine z_iconst F dL_law_640 ?_
  refine z_iadd F dL_law_641 ?_
  refine z_sld (xs := xs) F hX hbl hbA (by omega) (by omega) (by omega) dL_law_642 ?_
  rw [← ea1]
  refine z_aload_n F dL_law_643 rfl 5 rfl ?_
  refine z_iload F dL_law_644 0 rfl ?_
  refine z_iconst F dL_law_646 ?_
  refine z_iadd F dL_law_647 ?_
  refine z_sld (xs := xs) F hX hbl hbA (by omega) (by omega) (by omega) dL_law_648 ?_
  rw [← ea2]
  refine z_aload_n F dL_law_649 rfl 2 rfl ?_
  obtain ⟨f0, ho⟩ := H.o
  refine z_callSW (nA := 4) (As := [vR (gc 0), vI a1, vI a2, vR ao]) (st := []) F (mL_setBudget l G N0 h hl9 gc ρ hc ao f0 a1 a2 T.2.2.1 T.2.2.2.1 H.c ho H.co ra1 ra2) (hcw _ cw_setBudget) ⟨⟨q862, q863, q0⟩, by decide, by decide, by decide +kernel⟩ rfl rfl ⟨le_f (Nat.le_of_ble_eq_true rfl), le_l (Nat.le_of_ble_eq_true rfl)⟩ rfl ⟨le_c (by (try simp only []); omega), le_s (by (try simp only []); omega)⟩ dL_law_650 ?_
  intro r1 H1 p1
  obtain ⟨z1, hc1, w1, W1⟩ : ∃ (z1 : Int) (hc1 : Hp), r1 = some (vI z1) ∧ HM H1 hm hc1 ao ad := by
    rcases p1 with ⟨_, _, q1, ρp, h1p, S1, I1, D1, e1⟩ | ⟨_, q1, ρp, h1p, S1, I1, D1, e1⟩ | ⟨_, q1, ρp, h1p, S1, I1, D1, e1⟩
    · exact ⟨_, h1p, q1, by rw [e1]; exact (H.stepC D1).outL _⟩
    · exact ⟨_, h1p, q1, by rw [e1]; exact H.stepC D1⟩
    · exact ⟨_, h1p, q1, by rw [e1]; exact H.stepC D1⟩
  subst w1
  show Z _ _ _ _ _ _ _ _ _ _ _ _ _ _ _ _ _ _ _ _ [vI z1]
  refine z_istore (lv' := [(6, vI z1), (5, vI i), (4, vR ad), (3, vR ao), (2, vR (gm 0)), (1, vR (gc 0)), (0, vR b)]) F dL_law_653 (by decide) rfl ?_
  refine z_aload_n F dL_law_655 rfl 4 rfl ?_
  refine z_aload_n F dL_law_656 rfl 6 rfl ?_
  refine z_iload F dL_law_657 1 rfl ?_
  refine z_iconst F dL_law_659 ?_
  refine z_iadd F dL_law_660 ?_
  refine z_sld (xs := xs) F hX hbl hbA (by omega) (by omega) (by omega) dL_law_661 ?_
  rw [← ea1]
  refine z_aload_n F dL_law_662 rfl 6 rfl ?_
  refine z_iload F dL_law_663 1 rfl ?_
  refine z_iconst F dL_law_665 ?_
  refine z_iadd F dL_law_666 ?_
  refine z_sld (xs := xs) F hX hbl hbA (by omega) (by omega) (by omega) dL_law_667 ?_
  rw [← ea2]
  refine z_callV (As := [vI a1, vI a2]) (st := []) F ((mX9_setBudget l G N0 hm gm σ a1 a2 T.1 T.2.1 T.mv ra1 ra2).frame W1.m) cvL_188 (W1.m _ _ (mI T.1 0 rfl)) (fun r9 h9 => by cases h9; rfl) rfl rfl ⟨le_f (Nat.le_of_ble_eq_true rfl), le_l (Nat.le_of_ble_eq_true rfl)⟩ rfl ⟨le_c (by (try simp only []); omega), le_s (by (try simp only []); omega)⟩ dL_law_668 ?_
  intro r2 h2 p2
  obtain ⟨σ1, ρ1, hm1, hc2, v, H', T', q1, q3, q2, q4⟩ := turn_setBudget H T p1 p2
  cases q1
  subst q2
  show Z _ _ _ _ _ _ _ _ _ _ _ _ _ _ _ _ _ _ _ _ [vI v]
  exact tail_I F hk0 hn0 (by (try simp only []); omega) (by (try simp only []); omega) H' T' q3 q4 dL_law_671 dL_law_673 dL_law_674 dL_law_677 dL_law_679 dL_law_684 dL_law_686 dL_law_689 dL_law_690 dL_law_691 dL_law_692 dL_law_694 dL_law_695 dL_law_696 dL_law_701 (by decide) K
set_option maxHeartbeats 4000000 in
theorem case_start {p : Program} {l : Launch} {e : Env} {s : State} {m : MethodId} {args : Array Value} {below : List Frame} {meth : Method} {c : Code} {G : GG} {N0 : Nat} {A : Nat → Prop} {Q : State → Prop} (F : Fx p s m args meth c RL cL_law 9 G N0 A) {b ao ad L : Nat} {xs : Nat → Int32} {gm : Nat → Nat} {gc : Int → Nat} {i : Int} {k n : Nat} {h hm hc : Hp} {σ ρ : Sg} (hl9 : l.stackTraces = false) (hcw : ∀ w ∈ tables_1, w.before args s = true) (hX : va_X b L xs s s.heap) (hbl : b < s.heap.size) (hbA : ¬ A b) (hL : L ≤ 2560) (hi : 0 ≤ i ∧ i + 5 ≤ L) (hk0 : k + 130 ≤ 603072) (hn0 : n + 12100 ≤ 7198826) (H : HM h hm hc ao ad) (T : RT G gm gc σ ρ hm hc) (K : LK p l e s m args below meth c G N0 A Q b ao ad gm gc i k n) : Z p l e room_1 s m args below meth c 9 G N0 A Q h k n 704 [(5, vI i), (4, vR ad), (3, vR ao), (2, vR (gm 0)), (1, vR (gc 0)), (0, vR b)] [] := by
  obtain ⟨a1, ea1⟩ : ∃ z, z = (xs (i + 1).toNat).toInt := ⟨_, rfl⟩
  have ra1 : -2147483648 ≤ a1 ∧ a1 < 2147483648 := by rw [ea1]; exact iI_rng _
  refine z_aload_n F dL_law_704 rfl 4 rfl ?_
  refine z_aload_n F dL_law_705 rfl 5 rfl ?_
  refine z_iload F dL_law_706 0 rfl ?_
  refine z_iconst F dL_law_708 ?_
  refine z_iadd F dL_law_709 ?_
  refine z_sld (xs := xs) F hX hbl hbA (by omega) (by omega) (by omega) dL_law_710 ?_
  rw [← ea1]
  refine z_aload_n F dL_law_711 rfl 2 rfl ?_
  obtain ⟨f0, ho⟩ := H.o
  refine z_callSW (nA := 3) (As := [vR (gc 0), vI a1, vR ao]) (st := []) F (mL_start l G N0 h hl9 gc ρ hc ao f0 a1 T.2.2.1 T.2.2.2.1 H.c ho H.co ra1) (hcw _ cw_start) ⟨⟨q870, q871, q0⟩, by decide, by decide, by decide +kernel⟩ rfl rfl ⟨le_f (Nat.le_of_ble_eq_true rfl), le_l (Nat.le_of_ble_eq_true rfl)⟩ rfl ⟨le_c (by (try simp only []); omega), le_s (by (try simp only []); omega)⟩ dL_law_712 ?_
  intro r1 H1 p1
  obtain ⟨z1, hc1, w1, W1⟩ : ∃ (z1 : Int) (hc1 : Hp), r1 = some (vI z1) ∧ HM H1 hm hc1 ao ad := by
    rcases p1 with ⟨_, _, q1, ρp, h1p, S1, I1, D1, e1⟩ | ⟨_, q1, ρp, h1p, S1, I1, D1, e1⟩ | ⟨_, q1, ρp, h1p, S1, I1, D1, e1⟩
    · exact ⟨_, h1p, q1, by rw [e1]; exact (H.stepC D1).outL _⟩
    · exact ⟨_, h1p, q1, by rw [e1]; exact H.stepC D1⟩
    · exact ⟨_, h1p, q1, by rw [e1]; exact H.stepC D1⟩
  subst w1
  show Z _ _ _ _ _ _ _ _ _ _ _ _ _ _ _ _ _ _ _ _ [vI z1]
  refine z_istore (lv' := [(6, vI z1), (5, vI i), (4, vR ad), (3, vR ao), (2, vR (gm 0)), (1, vR (gc 0)), (0, vR b)]) F dL_law_715 (by decide) rfl ?_
  refine z_aload_n F dL_law_717 rfl 4 rfl ?_
  refine z_aload_n F dL_law_718 rfl 6 rfl ?_
  refine z_iload F dL_law_719 1 rfl ?_
  refine z_iconst F dL_law_721 ?_
  refine z_iadd F dL_law_722 ?_
  refine z_sld (xs := xs) F hX hbl hbA (by omega) (by omega) (by omega) dL_law_723 ?_
  rw [← ea1]
  refine z_callV (As := [vI a1]) (st := []) F ((mX9_start l G N0 hm gm σ a1 T.1 T.2.1 T.mv ra1).frame W1.m) cvL_191 (W1.m _ _ (mI T.1 0 rfl)) (fun r9 h9 => by cases h9; rfl) rfl rfl ⟨le_f (Nat.le_of_ble_eq_true rfl), le_l (Nat.le_of_ble_eq_true rfl)⟩ rfl ⟨le_c (by (try simp only []); omega), le_s (by (try simp only []); omega)⟩ dL_law_724 ?_
  intro r2 h2 p2
  obtain ⟨σ1, ρ1, hm1, hc2, v, H', T', q1, q3, q2, q4⟩ := turn_start H T p1 p2
  cases q1
  subst q2
  show Z _ _ _ _ _ _ _ _ _ _ _ _ _ _ _ _ _ _ _ _ [vI v]
  exact tail_I F hk0 hn0 (by (try simp only []); omega) (by (try simp only []); omega) H' T' q3 q4 dL_law_727 dL_law_729 dL_law_730 dL_law_733 dL_law_735 dL_law_740 dL_law_742 dL_law_745 dL_law_746 dL_law_747 dL_law_748 dL_law_750 dL_law_751 dL_law_752 dL_law_757 (by decide) K
set_option maxHeartbeats 4000000 in
theorem case_stop {p : Program} {l : Launch} {e : Env} {s : State} {m : MethodId} {args : Array Value} {below : List Frame} {meth : Method} {c : Code} {G : GG} {N0 : Nat} {A : Nat → Prop} {Q : State → Prop} (F : Fx p s m args meth c RL cL_law 9 G N0 A) {b ao ad L : Nat} {xs : Nat → Int32} {gm : Nat → Nat} {gc : Int → Nat} {i : Int} {k n : Nat} {h hm hc : Hp} {σ ρ : Sg} (hl9 : l.stackTraces = false) (hcw : ∀ w ∈ tables_1, w.before args s = true) (hX : va_X b L xs s s.heap) (hbl : b < s.heap.size) (hbA : ¬ A b) (hL : L ≤ 2560) (hi : 0 ≤ i ∧ i + 5 ≤ L) (hk0 : k + 130 ≤ 603072) (hn0 : n + 12100 ≤ 7198826) (H : HM h hm hc ao ad) (T : RT G gm gc σ ρ hm hc) (K : LK p l e s m args below meth c G N0 A Q b ao ad gm gc i k n) : Z p l e room_1 s m args below meth c 9 G N0 A Q h k n 760 [(5, vI i), (4, vR ad), (3, vR ao), (2, vR (gm 0)), (1, vR (gc 0)), (0, vR b)] [] := by
  obtain ⟨a1, ea1⟩ : ∃ z, z = (xs (i + 1).toNat).toInt := ⟨_, rfl⟩
  have ra1 : -2147483648 ≤ a1 ∧ a1 < 2147483648 := by rw [ea1]; exact iI_rng _
  refine z_aload_n F dL_law_760 rfl 4 rfl ?_
  refine z_aload_n F dL_law_761 rfl 5 rfl ?_
  refine z_iload F dL_law_762 0 rfl ?_
  refine z_iconst F dL_law_764 ?_
  refine z_iadd F dL_law_765 ?_
  refine z_sld (xs := xs) F hX hbl hbA (by omega) (by omega) (by omega) dL_law_766 ?_
  rw [← ea1]
  refine z_aload_n F dL_law_767 rfl 2 rfl ?_
  obtain ⟨f0, ho⟩ := H.o
  refine z_callSW (nA := 3) (As := [vR (gc 0), vI a1, vR ao]) (st := []) F (mL_stop l G N0 h hl9 gc ρ hc ao f0 a1 T.2.2.1 T.2.2.2.1 H.c ho H.co ra1) (hcw _ cw_stop) ⟨⟨q929, q930, q0⟩, by decide, by decide, by decide +kernel⟩ rfl rfl ⟨le_f (Nat.le_of_ble_eq_true rfl), le_l (Nat.le_of_ble_eq_true rfl)⟩ rfl ⟨le_c (by (try simp only []); omega), le_s (by (try simp only []); omega)⟩ dL_law_768 ?_
  intro r1 H1 p1
  obtain ⟨z1, hc1, w1, W1⟩ : ∃ (z1 : Int) (hc1 : Hp), r1 = some (vI z1) ∧ HM H1 hm hc1 ao ad := by
    rcases p1 with ⟨_, _, q1, ρp, h1p, S1, I1, D1, e1⟩ | ⟨_, q1, ρp, h1p, S1, I1, D1, e1⟩ | ⟨_, q1, ρp, h1p, S1, I1, D1, e1⟩
    · exact ⟨_, h1p, q1, by rw [e1]; exact (H.stepC D1).outL _⟩
    · exact ⟨_, h1p, q1, by rw [e1]; exact H.stepC D1⟩
    · exact ⟨_, h1p, q1, by rw [e1]; exact H.stepC D1⟩
  subst w1
  show Z _ _ _ _ _ _ _ _ _ _ _ _ _ _ _ _ _ _ _ _ [vI z1]
  refine z_istore (lv' := [(6, vI z1), (5, vI i), (4, vR ad), (3, vR ao), (2, vR (gm 0)), (1, vR (gc 0)), (0, vR b)]) F dL_law_771 (by decide) rfl ?_
  refine z_aload_n F dL_law_773 rfl 4 rfl ?_
  refine z_aload_n F dL_law_774 rfl 6 rfl ?_
  refine z_iload F dL_law_775 1 rfl ?_
  refine z_iconst F dL_law_777 ?_
  refine z_iadd F dL_law_778 ?_
  refine z_sld (xs := xs) F hX hbl hbA (by omega) (by omega) (by omega) dL_law_779 ?_
  rw [← ea1]
  refine z_callV (As := [vI a1]) (st := []) F ((mX9_stop l G N0 hm gm σ a1 T.1 T.2.1 T.mv ra1).frame W1.m) cvL_194 (W1.m _ _ (mI T.1 0 rfl)) (fun r9 h9 => by cases h9; rfl) rfl rfl ⟨le_f (Nat.le_of_ble_eq_true rfl), le_l (Nat.le_of_ble_eq_true rfl)⟩ rfl ⟨le_c (by (try simp only []); omega), le_s (by (try simp only []); omega)⟩ dL_law_780 ?_
  intro r2 h2 p2
  obtain ⟨σ1, ρ1, hm1, hc2, v, H', T', q1, q3, q2, q4⟩ := turn_stop H T p1 p2
  cases q1
  subst q2
  show Z _ _ _ _ _ _ _ _ _ _ _ _ _ _ _ _ _ _ _ _ [vI v]
  exact tail_I F hk0 hn0 (by (try simp only []); omega) (by (try simp only []); omega) H' T' q3 q4 dL_law_783 dL_law_785 dL_law_786 dL_law_789 dL_law_791 dL_law_796 dL_law_798 dL_law_801 dL_law_802 dL_law_803 dL_law_804 dL_law_806 dL_law_807 dL_law_808 dL_law_813 (by decide) K
set_option maxHeartbeats 4000000 in
theorem case_addEntry {p : Program} {l : Launch} {e : Env} {s : State} {m : MethodId} {args : Array Value} {below : List Frame} {meth : Method} {c : Code} {G : GG} {N0 : Nat} {A : Nat → Prop} {Q : State → Prop} (F : Fx p s m args meth c RL cL_law 9 G N0 A) {b ao ad L : Nat} {xs : Nat → Int32} {gm : Nat → Nat} {gc : Int → Nat} {i : Int} {k n : Nat} {h hm hc : Hp} {σ ρ : Sg} (hl9 : l.stackTraces = false) (hcw : ∀ w ∈ tables_1, w.before args s = true) (hX : va_X b L xs s s.heap) (hbl : b < s.heap.size) (hbA : ¬ A b) (hL : L ≤ 2560) (hi : 0 ≤ i ∧ i + 5 ≤ L) (hk0 : k + 130 ≤ 603072) (hn0 : n + 12100 ≤ 7198826) (H : HM h hm hc ao ad) (T : RT G gm gc σ ρ hm hc) (K : LK p l e s m args below meth c G N0 A Q b ao ad gm gc i k n) : Z p l e room_1 s m args below meth c 9 G N0 A Q h k n 816 [(5, vI i), (4, vR ad), (3, vR ao), (2, vR (gm 0)), (1, vR (gc 0)), (0, vR b)] [] := by
  obtain ⟨a1, ea1⟩ : ∃ z, z = (xs (i + 1).toNat).toInt := ⟨_, rfl⟩
  have ra1 : -2147483648 ≤ a1 ∧ a1 < 2147483648 := by rw [ea1]; exact iI_rng _
  obtain ⟨a2, ea2⟩ : ∃ z, z = (xs (i + 2).toNat).toInt := ⟨_, rfl⟩
  have ra2 : -2147483648 ≤ a2 ∧ a2 < 2147483648 := by rw [ea2]; exact iI_rng _
  obtain ⟨a3, ea3⟩ : ∃ z, z = (xs (i + 3).toNat).toInt := ⟨_, rfl⟩
  have ra3 : -2147483648 ≤ a3 ∧ a3 < 2147483648 := by rw [ea3]; exact iI_rng _
  refine z_aload_n F dL_law_816 rfl 4 rfl ?_
  refine z_aload_n F dL_law_817 rfl 5 rfl ?_
  refine z_iload F dL_law_818 0 rfl ?_
  refine z_iconst F dL_law_820 ?_
  refine z_iadd F dL_law_821 ?_
  refine z_sld (xs := xs) F hX hbl hbA (by omega) (by omega) (by omega) dL_law_822 ?_
  rw [← ea1]
  refine z_aload_n F dL_law_823 rfl 5 rfl ?_
  refine z_iload F dL_law_824 0 rfl ?_
  refine z_iconst F dL_law_826 ?_
  refine z_iadd F dL_law_827 ?_
  refine z_sld (xs := xs) F hX hbl hbA (by omega) (by omega) (by omega) dL_law_828 ?_
  rw [← ea2]
  refine z_aload_n F dL_law_829 rfl 5 rfl ?_
  refine z_iload F dL_law_830 0 rfl ?_
  refine z_iconst F dL_law_832 ?_
  refine z_iadd F dL_law_833 ?_
  refine z_sld (xs := xs) F hX hbl hbA (by omega) (by omega) (by omega) dL_law_834 ?_
  rw [← ea3]
  refine z_aload_n F dL_law_835 rfl 2 rfl ?_
  obtain ⟨f0, ho⟩ := H.o
  refine z_callSW (nA := 5) (As := [vR (gc 0), vI a1, vI a2, vI a3, vR ao]) (st := []) F (mL_addEntry l G N0 h hl9 gc ρ hc ao f0 a1 a2 a3 T.2.2.1 T.2.2.2.1 H.c ho H.co ra1 ra2 ra3) (hcw _ cw_addEntry) ⟨⟨q942, q943, q0⟩, by decide, by decide, by decide +kernel⟩ rfl rfl ⟨le_f (Nat.le_of_ble_eq_true rfl), le_l (Nat.le_of_ble_eq_true rfl)⟩ rfl ⟨le_c (by (try simp only []); omega), le_s (by (try simp only []); omega)⟩ dL_law_836 ?_
  intro r1 H1 p1
  obtain ⟨z1, hc1, w1, W1⟩ : ∃ (z1 : Int) (hc1 : Hp), r1 = some (vI z1) ∧ HM H1 hm hc1 ao ad := by
    rcases p1 with ⟨_, _, _, q1, ρp, h1p, S1, I1, D1, e1⟩ | ⟨_, q1, ρp, h1p, S1, I1, D1, e1⟩ | ⟨_, q1, ρp, h1p, S1, I1, D1, e1⟩ | ⟨_, q1, ρp, h1p, S1, I1, D1, e1⟩
    · exact ⟨_, h1p, q1, by rw [e1]; exact (H.stepC D1).outL _⟩
    · exact ⟨_, h1p, q1, by rw [e1]; exact H.stepC D1⟩
    · exact ⟨_, h1p, q1, by rw [e1]; exact H.stepC D1⟩
    · exact ⟨_, h1p, q1, by rw [e1]; exact H.stepC D1⟩
  subst w1
  show Z _ _ _ _ _ _ _ _ _ _ _ _ _ _ _ _ _ _ _ _ [vI z1]
  refine z_istore (lv' := [(6, vI z1), (5, vI i), (4, vR ad), (3, vR ao), (2, vR (gm 0)), (1, vR (gc 0)), (0, vR b)]) F dL_law_839 (by decide) rfl ?_
  refine z_aload_n F dL_law_841 rfl 4 rfl ?_
  refine z_aload_n F dL_law_842 rfl 6 rfl ?_
  refine z_iload F dL_law_843 1 rfl ?_
  refine z_iconst F dL_law_845 ?_
  refine z_iadd F dL_law_846 ?_
  refine z_sld (xs := xs) F hX hbl hbA (by omega) (by omega) (by omega) dL_law_847 ?_
  rw [← ea1]
  refine z_aload_n F dL_law_848 rfl 6 rfl ?_
  refine z_iload F dL_law_849 1 rfl ?_
  refine z_iconst F dL_law_851 ?_
  refine z_iadd F dL_law_852 ?_
  refine z_sld (xs := xs) F hX hbl hbA (by omega) (by omega) (by omega) dL_law_853 ?_
  rw [← ea2]
  refine z_aload_n F dL_law_854 rfl 6 rfl ?_
  refine z_iload F dL_law_855 1 rfl ?_
  refine z_iconst F dL_law_857 ?_
  refine z_iadd F dL_law_858 ?_
  refine z_sld (xs := xs) F hX hbl hbA (by omega) (by omega) (by omega) dL_law_859 ?_
  rw [← ea3]
  refine z_callV (As := [vI a1, vI a2, vI a3]) (st := []) F ((mX9_addEntry l G N0 hm gm σ a1 a2 a3 T.1 T.2.1 T.mv ra1 ra2 ra3).frame W1.m) cvL_198 (W1.m _ _ (mI T.1 0 rfl)) (fun r9 h9 => by cases h9; rfl) rfl rfl ⟨le_f (Nat.le_of_ble_eq_true rfl), le_l (Nat.le_of_ble_eq_true rfl)⟩ rfl ⟨le_c (by (try simp only []); omega), le_s (by (try simp only []); omega)⟩ dL_law_860 ?_
  intro r2 h2 p2
  obtain ⟨σ1, ρ1, hm1, hc2, v, H', T', q1, q3, q2, q4⟩ := turn_addEntry H T p1 p2
  cases q1
  subst q2
  show Z _ _ _ _ _ _ _ _ _ _ _ _ _ _ _ _ _ _ _ _ [vI v]
  exact tail_I F hk0 hn0 (by (try simp only []); omega) (by (try simp only []); omega) H' T' q3 q4 dL_law_863 dL_law_865 dL_law_866 dL_law_869 dL_law_871 dL_law_876 dL_law_878 dL_law_881 dL_law_882 dL_law_883 dL_law_884 dL_law_886 dL_law_887 dL_law_888 dL_law_893 (by decide) K
set_option maxHeartbeats 4000000 in
theorem case_setStart {p : Program} {l : Launch} {e : Env} {s : State} {m : MethodId} {args : Array Value} {below : List Frame} {meth : Method} {c : Code} {G : GG} {N0 : Nat} {A : Nat → Prop} {Q : State → Prop} (F : Fx p s m args meth c RL cL_law 9 G N0 A) {b ao ad L : Nat} {xs : Nat → Int32} {gm : Nat → Nat} {gc : Int → Nat} {i : Int} {k n : Nat} {h hm hc : Hp} {σ ρ : Sg} (hl9 : l.stackTraces = false) (hcw : ∀ w ∈ tables_1, w.before args s = true) (hX : va_X b L xs s s.heap) (hbl : b < s.heap.size) (hbA : ¬ A b) (hL : L ≤ 2560) (hi : 0 ≤ i ∧ i + 5 ≤ L) (hk0 : k + 130 ≤ 603072) (hn0 : n + 12100 ≤ 7198826) (H : HM h hm hc ao ad) (T : RT G gm gc σ ρ hm hc) (K : LK p l e s m args below meth c G N0 A Q b ao ad gm gc i k n) : Z p l e room_1 s m args below meth c 9 G N0 A Q h k n 896 [(5, vI i), (4, vR ad), (3, vR ao), (2, vR (gm 0)), (1, vR (gc 0)), (0, vR b)] [] := by
  obtain ⟨a1, ea1⟩ : ∃ z, z = (xs (i + 1).toNat).toInt := ⟨_, rfl⟩
  have ra1 : -2147483648 ≤ a1 ∧ a1 < 2147483648 := by rw [ea1]; exact iI_rng _
  obtain ⟨a2, ea2⟩ : ∃ z, z = (xs (i + 2).toNat).toInt := ⟨_, rfl⟩
  have ra2 : -2147483648 ≤ a2 ∧ a2 < 2147483648 := by rw [ea2]; exact iI_rng _
  refine z_aload_n F dL_law_896 rfl 4 rfl ?_
  refine z_aload_n F dL_law_897 rfl 5 rfl ?_
  refine z_iload F dL_law_898 0 rfl ?_
  refine z_iconst F dL_law_900 ?_
  refine z_iadd F dL_law_901 ?_
  refine z_sld (xs := xs) F hX hbl hbA (by omega) (by omega) (by omega) dL_law_902 ?_
  rw [← ea1]
  refine z_aload_n F dL_law_903 rfl 5 rfl ?_
  refine z_iload F dL_law_904 0 rfl ?_
  refine z_iconst F dL_law_906 ?_
  refine z_iadd F dL_law_907 ?_
  refine z_sld (xs := xs) F hX hbl hbA (by omega) (by omega) (by omega) dL_law_908 ?_
  rw [← ea2]
  refine z_aload_n F dL_law_909 rfl 2 rfl ?_
  obtain ⟨f0, ho⟩ := H.o
  refine z_callSW (nA := 4) (As := [vR (gc 0), vI a1, vI a2, vR ao]) (st := []) F (mL_setStart l G N0 h hl9 gc ρ hc ao f0 a1 a2 T.2.2.1 T.2.2.2.1 H.c ho H.co ra1 ra2) (hcw _ cw_setStart) ⟨⟨q950, q951, q0⟩, by decide, by decide, by decide +kernel⟩ rfl rfl ⟨le_f (Nat.le_of_ble_eq_true rfl), le_l (Nat.le_of_ble_eq_true rfl)⟩ rfl ⟨le_c (by (try simp only []); omega), le_s (by (try simp only []); omega)⟩ dL_law_910 ?_
  intro r1 H1 p1
  obtain ⟨z1, hc1, w1, W1⟩ : ∃ (z1 : Int) (hc1 : Hp), r1 = some (vI z1) ∧ HM H1 hm hc1 ao ad := by
    rcases p1 with ⟨_, _, _, q1, ρp, h1p, S1, I1, D1, e1⟩ | ⟨_, q1, ρp, h1p, S1, I1, D1, e1⟩ | ⟨_, q1, ρp, h1p, S1, I1, D1, e1⟩ | ⟨_, q1, ρp, h1p, S1, I1, D1, e1⟩
    · exact ⟨_, h1p, q1, by rw [e1]; exact (H.stepC D1).outL _⟩
    · exact ⟨_, h1p, q1, by rw [e1]; exact H.stepC D1⟩
    · exact ⟨_, h1p, q1, by rw [e1]; exact H.stepC D1⟩
    · exact ⟨_, h1p, q1, by rw [e1]; exact H.stepC D1⟩
  subst w1
  show Z _ _ _ _ _ _ _ _ _ _ _ _ _ _ _ _ _ _ _ _ [vI z1]
  refine z_istore (lv' := [(6, vI z1), (5, vI i), (4, vR ad), (3, vR ao), (2, vR (gm 0)), (1, vR (gc 0)), (0, vR b)]) F dL_law_913 (by decide) rfl ?_
  refine z_aload_n F dL_law_915 rfl 4 rfl ?_
  refine z_aload_n F dL_law_916 rfl 6 rfl ?_
  refine z_iload F dL_law_917 1 rfl ?_
  refine z_iconst F dL_law_919 ?_
  refine z_iadd F dL_law_920 ?_
  refine z_sld (xs := xs) F hX hbl hbA (by omega) (by omega) (by omega) dL_law_921 ?_
  rw [← ea1]
  refine z_aload_n F dL_law_922 rfl 6 rfl ?_
  refine z_iload F dL_law_923 1 rfl ?_
  refine z_iconst F dL_law_925 ?_
  refine z_iadd F dL_law_926 ?_
  refine z_sld (xs := xs) F hX hbl hbA (by omega) (by omega) (by omega) dL_law_927 ?_
  rw [← ea2]
  refine z_callV (As := [vI a1, vI a2]) (st := []) F ((mX9_setStart l G N0 hm gm σ a1 a2 T.1 T.2.1 T.mv ra1 ra2).frame W1.m) cvL_201 (W1.m _ _ (mI T.1 0 rfl)) (fun r9 h9 => by cases h9; rfl) rfl rfl ⟨le_f (Nat.le_of_ble_eq_true rfl), le_l (Nat.le_of_ble_eq_true rfl)⟩ rfl ⟨le_c (by (try simp only []); omega), le_s (by (try simp only []); omega)⟩ dL_law_928 ?_
  intro r2 h2 p2
  obtain ⟨σ1, ρ1, hm1, hc2, v, H', T', q1, q3, q2, q4⟩ := turn_setStart H T p1 p2
  cases q1
  subst q2
  show Z _ _ _ _ _ _ _ _ _ _ _ _ _ _ _ _ _ _ _ _ [vI v]
  exact tail_I F hk0 hn0 (by (try simp only []); omega) (by (try simp only []); omega) H' T' q3 q4 dL_law_931 dL_law_933 dL_law_934 dL_law_937 dL_law_939 dL_law_944 dL_law_946 dL_law_949 dL_law_950 dL_law_951 dL_law_952 dL_law_954 dL_law_955 dL_law_956 dL_law_961 (by decide) K
set_option maxHeartbeats 4000000 in
theorem case_setEnd {p : Program} {l : Launch} {e : Env} {s : State} {m : MethodId} {args : Array Value} {below : List Frame} {meth : Method} {c : Code} {G : GG} {N0 : Nat} {A : Nat → Prop} {Q : State → Prop} (F : Fx p s m args meth c RL cL_law 9 G N0 A) {b ao ad L : Nat} {xs : Nat → Int32} {gm : Nat → Nat} {gc : Int → Nat} {i : Int} {k n : Nat} {h hm hc : Hp} {σ ρ : Sg} (hl9 : l.stackTraces = false) (hcw : ∀ w ∈ tables_1, w.before args s = true) (hX : va_X b L xs s s.heap) (hbl : b < s.heap.size) (hbA : ¬ A b) (hL : L ≤ 2560) (hi : 0 ≤ i ∧ i + 5 ≤ L) (hk0 : k + 130 ≤ 603072) (hn0 : n + 12100 ≤ 7198826) (H : HM h hm hc ao ad) (T : RT G gm gc σ ρ hm hc) (K : LK p l e s m args below meth c G N0 A Q b ao ad gm gc i k n) : Z p l e room_1 s m args below meth c 9 G N0 A Q h k n 964 [(5, vI i), (4, vR ad), (3, vR ao), (2, vR (gm 0)), (1, vR (gc 0)), (0, vR b)] [] := by
  obtain ⟨a1, ea1⟩ : ∃ z, z = (xs (i + 1).toNat).toInt := ⟨_, rfl⟩
  have ra1 : -2147483648 ≤ a1 ∧ a1 < 2147483648 := by rw [ea1]; exact iI_rng _
  obtain ⟨a2, ea2⟩ : ∃ z, z = (xs (i + 2).toNat).toInt := ⟨_, rfl⟩
  have ra2 : -2147483648 ≤ a2 ∧ a2 < 2147483648 := by rw [ea2]; exact iI_rng _
  refine z_aload_n F dL_law_964 rfl 4 rfl ?_
  refine z_aload_n F dL_law_965 rfl 5 rfl ?_
  refine z_iload F dL_law_966 0 rfl ?_
  refine z_iconst F dL_law_968 ?_
  refine z_iadd F dL_law_969 ?_
  refine z_sld (xs := xs) F hX hbl hbA (by omega) (by omega) (by omega) dL_law_970 ?_
  rw [← ea1]
  refine z_aload_n F dL_law_971 rfl 5 rfl ?_
  refine z_iload F dL_law_972 0 rfl ?_
  refine z_iconst F dL_law_974 ?_
  refine z_iadd F dL_law_975 ?_
  refine z_sld (xs := xs) F hX hbl hbA (by omega) (by omega) (by omega) dL_law_976 ?_
  rw [← ea2]
  refine z_aload_n F dL_law_977 rfl 2 rfl ?_
  obtain ⟨f0, ho⟩ := H.o
  refine z_callSW (nA := 4) (As := [vR (gc 0), vI a1, vI a2, vR ao]) (st := []) F (mL_setEnd l G N0 h hl9 gc ρ hc ao f0 a1 a2 T.2.2.1 T.2.2.2.1 H.c ho H.co ra1 ra2) (hcw _ cw_setEnd) ⟨⟨q967, q968, q0⟩, by decide, by decide, by decide +kernel⟩ rfl rfl ⟨le_f (Nat.le_of_ble_eq_true rfl), le_l (Nat.le_of_ble_eq_true rfl)⟩ rfl ⟨le_c (by (try simp only []); omega), le_s (by (try simp only []); omega)⟩ dL_law_978 ?_
  intro r1 H1 p1
  obtain ⟨z1, hc1, w1, W1⟩ : ∃ (z1 : Int) (hc1 : Hp), r1 = some (vI z1) ∧ HM H1 hm hc1 ao ad := by
    rcases p1 with ⟨_, _, _, q1, ρp, h1p, S1, I1, D1, e1⟩ | ⟨_, q1, ρp, h1p, S1, I1, D1, e1⟩ | ⟨_, q1, ρp, h1p, S1, I1, D1, e1⟩ | ⟨_, q1, ρp, h1p, S1, I1, D1, e1⟩
    · exact ⟨_, h1p, q1, by rw [e1]; exact (H.stepC D1).outL _⟩
    · exact ⟨_, h1p, q1, by rw [e1]; exact H.stepC D1⟩
    · exact ⟨_, h1p, q1, by rw [e1]; exact H.stepC D1⟩
    · exact ⟨_, h1p, q1, by rw [e1]; exact H.stepC D1⟩
  subst w1
  show Z _ _ _ _ _ _ _ _ _ _ _ _ _ _ _ _ _ _ _ _ [vI z1]
  refine z_istore (lv' := [(6, vI z1), (5, vI i), (4, vR ad), (3, vR ao), (2, vR (gm 0)), (1, vR (gc 0)), (0, vR b)]) F dL_law_981 (by decide) rfl ?_
  refine z_aload_n F dL_law_983 rfl 4 rfl ?_
  refine z_aload_n F dL_law_984 rfl 6 rfl ?_
  refine z_iload F dL_law_985 1 rfl ?_
  refine z_iconst F dL_law_987 ?_
  refine z_iadd F dL_law_988 ?_
  refine z_sld (xs := xs) F hX hbl hbA (by omega) (by omega) (by omega) dL_law_989 ?_
  rw [← ea1]
  refine z_aload_n F dL_law_990 rfl 6 rfl ?_
  refine z_iload F dL_law_991 1 rfl ?_
  refine z_iconst F dL_law_993 ?_
  refine z_iadd F dL_law_994 ?_
  refine z_sld (xs := xs) F hX hbl hbA (by omega) (by omega) (by omega) dL_law_995 ?_
  rw [← ea2]
  refine z_callV (As := [vI a1, vI a2]) (st := []) F ((mX9_setEnd l G N0 hm gm σ a1 a2 T.1 T.2.1 T.mv ra1 ra2).frame W1.m) cvL_204 (W1.m _ _ (mI T.1 0 rfl)) (fun r9 h9 => by cases h9; rfl) rfl rfl ⟨le_f (Nat.le_of_ble_eq_true rfl), le_l (Nat.le_of_ble_eq_true rfl)⟩ rfl ⟨le_c (by (try simp only []); omega), le_s (by (try simp only []); omega)⟩ dL_law_996 ?_
  intro r2 h2 p2
  obtain ⟨σ1, ρ1, hm1, hc2, v, H', T', q1, q3, q2, q4⟩ := turn_setEnd H T p1 p2
  cases q1
  subst q2
  show Z _ _ _ _ _ _ _ _ _ _ _ _ _ _ _ _ _ _ _ _ [vI v]
  exact tail_I F hk0 hn0 (by (try simp only []); omega) (by (try simp only []); omega) H' T' q3 q4 dL_law_999 dL_law_1001 dL_law_1002 dL_law_1005 dL_law_1007 dL_law_1012 dL_law_1014 dL_law_1017 dL_law_1018 dL_law_1019 dL_law_1020 dL_law_1022 dL_law_1023 dL_law_1024 dL_law_1029 (by decide) K
set_option maxHeartbeats 4000000 in
theorem case_remove {p : Program} {l : Launch} {e : Env} {s : State} {m : MethodId} {args : Array Value} {below : List Frame} {meth : Method} {c : Code} {G : GG} {N0 : Nat} {A : Nat → Prop} {Q : State → Prop} (F : Fx p s m args meth c RL cL_law 9 G N0 A) {b ao ad L : Nat} {xs : Nat → Int32} {gm : Nat → Nat} {gc : Int → Nat} {i : Int} {k n : Nat} {h hm hc : Hp} {σ ρ : Sg} (hl9 : l.stackTraces = false) (hcw : ∀ w ∈ tables_1, w.before args s = true) (hX : va_X b L xs s s.heap) (hbl : b < s.heap.size) (hbA : ¬ A b) (hL : L ≤ 2560) (hi : 0 ≤ i ∧ i + 5 ≤ L) (hk0 : k + 130 ≤ 603072) (hn0 : n + 12100 ≤ 7198826) (H : HM h hm hc ao ad) (T : RT G gm gc σ ρ hm hc) (K : LK p l e s m args below meth c G N0 A Q b ao ad gm gc i k n) : Z p l e room_1 s m args below meth c 9 G N0 A Q h k n 1032 [(5, vI i), (4, vR ad), (3, vR ao), (2, vR (gm 0)), (1, vR (gc 0)), (0, vR b)] [] := by
  obtain ⟨a1, ea1⟩ : ∃ z, z = (xs (i + 1).toNat).toInt := ⟨_, rfl⟩
  have ra1 : -2147483648 ≤ a1 ∧ a1 < 2147483648 := by rw [ea1]; exact iI_rng _
  refine z_aload_n F dL_law_1032 rfl 4 rfl ?_
  refine z_aload_n F dL_law_1033 rfl 5 rfl ?_
  refine z_iload F dL_law_1034 0 rfl ?_
  refine z_iconst F dL_law_1036 ?_
  refine z_iadd F dL_law_1037 ?_
  refine z_sld (xs := xs) F hX hbl hbA (by omega) (by omega) (by omega) dL_law_1038 ?_
  rw [← ea1]
  refine z_aload_n F dL_law_1039 rfl 2 rfl ?_
  obtain ⟨f0, ho⟩ := H.o
  refine z_callSW (nA := 3) (As := [vR (gc 0), vI a1, vR ao]) (st := []) F (mL_remove l G N0 h hl9 gc ρ hc ao f0 a1 T.2.2.1 T.2.2.2.1 H.c ho H.co ra1) (hcw _ cw_remove) ⟨⟨q976, q977, q0⟩, by decide, by decide, by decide +kernel⟩ rfl rfl ⟨le_f (Nat.le_of_ble_eq_true rfl), le_l (Nat.le_of_ble_eq_true rfl)⟩ rfl ⟨le_c (by (try simp only []); omega), le_s (by (try simp only []); omega)⟩ dL_law_1040 ?_
  intro r1 H1 p1
  obtain ⟨z1, hc1, w1, W1⟩ : ∃ (z1 : Int) (hc1 : Hp), r1 = some (vI z1) ∧ HM H1 hm hc1 ao ad := by
    rcases p1 with ⟨_, _, q1, ρp, h1p, S1, I1, D1, e1⟩ | ⟨_, q1, ρp, h1p, S1, I1, D1, e1⟩ | ⟨_, q1, ρp, h1p, S1, I1, D1, e1⟩
    · exact ⟨_, h1p, q1, by rw [e1]; exact (H.stepC D1).outL _⟩
    · exact ⟨_, h1p, q1, by rw [e1]; exact H.stepC D1⟩
    · exact ⟨_, h1p, q1, by rw [e1]; exact H.stepC D1⟩
  subst w1
  show Z _ _ _ _ _ _ _ _ _ _ _ _ _ _ _ _ _ _ _ _ [vI z1]
  refine z_istore (lv' := [(6, vI z1), (5, vI i), (4, vR ad), (3, vR ao), (2, vR (gm 0)), (1, vR (gc 0)), (0, vR b)]) F dL_law_1043 (by decide) rfl ?_
  refine z_aload_n F dL_law_1045 rfl 4 rfl ?_
  refine z_aload_n F dL_law_1046 rfl 6 rfl ?_
  refine z_iload F dL_law_1047 1 rfl ?_
  refine z_iconst F dL_law_1049 ?_
  refine z_iadd F dL_law_1050 ?_
  refine z_sld (xs := xs) F hX hbl hbA (by omega) (by omega) (by omega) dL_law_1051 ?_
  rw [← ea1]
  refine z_callV (As := [vI a1]) (st := []) F ((mX9_remove l G N0 hm gm σ a1 T.1 T.2.1 T.mv ra1).frame W1.m) cvL_207 (W1.m _ _ (mI T.1 0 rfl)) (fun r9 h9 => by cases h9; rfl) rfl rfl ⟨le_f (Nat.le_of_ble_eq_true rfl), le_l (Nat.le_of_ble_eq_true rfl)⟩ rfl ⟨le_c (by (try simp only []); omega), le_s (by (try simp only []); omega)⟩ dL_law_1052 ?_
  intro r2 h2 p2
  obtain ⟨σ1, ρ1, hm1, hc2, v, H', T', q1, q3, q2, q4⟩ := turn_remove H T p1 p2
  cases q1
  subst q2
  show Z _ _ _ _ _ _ _ _ _ _ _ _ _ _ _ _ _ _ _ _ [vI v]
  exact tail_I F hk0 hn0 (by (try simp only []); omega) (by (try simp only []); omega) H' T' q3 q4 dL_law_1055 dL_law_1057 dL_law_1058 dL_law_1061 dL_law_1063 dL_law_1068 dL_law_1070 dL_law_1073 dL_law_1074 dL_law_1075 dL_law_1076 dL_law_1078 dL_law_1079 dL_law_1080 dL_law_1085 (by decide) K
set_option maxHeartbeats 4000000 in
theorem case_entries {p : Program} {l : Launch} {e : Env} {s : State} {m : MethodId} {args : Array Value} {below : List Frame} {meth : Method} {c : Code} {G : GG} {N0 : Nat} {A : Nat → Prop} {Q : State → Prop} (F : Fx p s m args meth c RL cL_law 9 G N0 A) {b ao ad L : Nat} {xs : Nat → Int32} {gm : Nat → Nat} {gc : Int → Nat} {i : Int} {k n : Nat} {h hm hc : Hp} {σ ρ : Sg} (hl9 : l.stackTraces = false) (hcw : ∀ w ∈ tables_1, w.before args s = true) (hX : va_X b L xs s s.heap) (hbl : b < s.heap.size) (hbA : ¬ A b) (hL : L ≤ 2560) (hi : 0 ≤ i ∧ i + 5 ≤ L) (hk0 : k + 130 ≤ 603072) (hn0 : n + 12100 ≤ 7198826) (H : HM h hm hc ao ad) (T : RT G gm gc σ ρ hm hc) (K : LK p l e s m args below meth c G N0 A Q b ao ad gm gc i k n) : Z p l e room_1 s m args below meth c 9 G N0 A Q h k n 1088 [(5, vI i), (4, vR ad), (3, vR ao), (2, vR (gm 0)), (1, vR (gc 0)), (0, vR b)] [] := by
  refine z_aload_n F dL_law_1088 rfl 4 rfl ?_
  refine z_callV (As := []) (st := []) F ((mX8_entries l G N0 hc gc ρ T.2.2.1 T.2.2.2.1).frame H.c) cvL_208 (H.c _ _ (ci_0 T.2.2.1)) (fun r9 h9 => by cases h9; rfl) rfl rfl ⟨le_f (Nat.le_of_ble_eq_true rfl), le_l (Nat.le_of_ble_eq_true rfl)⟩ rfl ⟨le_c (by (try simp only []); omega), le_s (by (try simp only []); omega)⟩ dL_law_1089 ?_
  rintro _ h9 ⟨h1p, ⟨rfl, e9⟩, -, rfl⟩
  rw [e9, mgH_self H.c]
  show Z _ _ _ _ _ _ _ _ _ _ _ _ _ _ _ _ _ _ _ _ [vI (ρ 8 0)]
  refine z_aload_n F dL_law_1092 rfl 3 rfl ?_
  refine z_callV (As := []) (st := [vI (ρ 8 0)]) F ((mX9_entries l G N0 hm gm σ T.1 T.2.1).frame H.m) cvL_211 (H.m _ _ (mI T.1 0 rfl)) (fun r9 h9 => by cases h9; rfl) rfl rfl ⟨le_f (Nat.le_of_ble_eq_true rfl), le_l (Nat.le_of_ble_eq_true rfl)⟩ rfl ⟨le_c (by (try simp only []); omega), le_s (by (try simp only []); omega)⟩ dL_law_1093 ?_
  rintro _ h9 ⟨hm1, ⟨rfl, mi⟩, D2, rfl⟩
  show Z _ _ _ _ _ _ _ _ _ _ _ _ _ _ _ _ _ _ _ _ [vI (σ 8 0), vI (ρ 8 0)]
  refine z_icmp_eq (tgt := 2785) F dL_law_1096 (by decide) (by rw [← T.2.2.2.2.1.e 8]; exact T.2.1 8 0) (T.2.1 8 0) (fun _ => ?_) (fun c9 => absurd (by rw [T.2.2.2.2.1.e 8]) c9)
  exact K _ _ _ (su σ 30 0 0) ρ hm1 hc (by (try simp only []); omega) (by (try simp only []); omega) (H.stepM D2) (T.same mi (rg_su T.2.1 (by decide)) T.2.2.1 (SA.refl ρ) (fun k n1 n2 n3 => by funext j; exact su_n n3))
set_option maxHeartbeats 4000000 in
theorem case_state {p : Program} {l : Launch} {e : Env} {s : State} {m : MethodId} {args : Array Value} {below : List Frame} {meth : Method} {c : Code} {G : GG} {N0 : Nat} {A : Nat → Prop} {Q : State → Prop} (F : Fx p s m args meth c RL cL_law 9 G N0 A) {b ao ad L : Nat} {xs : Nat → Int32} {gm : Nat → Nat} {gc : Int → Nat} {i : Int} {k n : Nat} {h hm hc : Hp} {σ ρ : Sg} (hl9 : l.stackTraces = false) (hcw : ∀ w ∈ tables_1, w.before args s = true) (hX : va_X b L xs s s.heap) (hbl : b < s.heap.size) (hbA : ¬ A b) (hL : L ≤ 2560) (hi : 0 ≤ i ∧ i + 5 ≤ L) (hk0 : k + 130 ≤ 603072) (hn0 : n + 12100 ≤ 7198826) (H : HM h hm hc ao ad) (T : RT G gm gc σ ρ hm hc) (K : LK p l e s m args below meth c G N0 A Q b ao ad gm gc i k n) : Z p l e room_1 s m args below meth c 9 G N0 A Q h k n 1101 [(5, vI i), (4, vR ad), (3, vR ao), (2, vR (gm 0)), (1, vR (gc 0)), (0, vR b)] [] := by
  obtain ⟨a1, ea1⟩ : ∃ z, z = (xs (i + 1).toNat).toInt := ⟨_, rfl⟩
  have ra1 : -2147483648 ≤ a1 ∧ a1 < 2147483648 := by rw [ea1]; exact iI_rng _
  refine z_aload_n F dL_law_1101 rfl 4 rfl ?_
  refine z_aload_n F dL_law_1102 rfl 5 rfl ?_
  refine z_iload F dL_law_1103 0 rfl ?_
  refine z_iconst F dL_law_1105 ?_
  refine z_iadd F dL_law_1106 ?_
  refine z_sld (xs := xs) F hX hbl hbA (by omega) (by omega) (by omega) dL_law_1107 ?_
  rw [← ea1]
  refine z_aload_n F dL_law_1108 rfl 2 rfl ?_
  obtain ⟨f0, ho⟩ := H.o
  refine z_callSW (nA := 3) (As := [vR (gc 0), vI a1, vR ao]) (st := []) F (mL_state l G N0 h hl9 gc ρ hc ao f0 a1 T.2.2.1 T.2.2.2.1 H.c ho H.co ra1) (hcw _ cw_state) ⟨⟨q987, q988, q0⟩, by decide, by decide, by decide +kernel⟩ rfl rfl ⟨le_f (Nat.le_of_ble_eq_true rfl), le_l (Nat.le_of_ble_eq_true rfl)⟩ rfl ⟨le_c (by (try simp only []); omega), le_s (by (try simp only []); omega)⟩ dL_law_1109 ?_
  intro r1 H1 p1
  obtain ⟨z1, hc1, w1, W1⟩ : ∃ (z1 : Int) (hc1 : Hp), r1 = some (vI z1) ∧ HM H1 hm hc1 ao ad := by
    rcases p1 with ⟨_, q1, ρp, h1p, S1, I1, D1, e1⟩ | ⟨_, q1, ρp, h1p, S1, I1, D1, e1⟩
    · exact ⟨_, h1p, q1, by rw [e1]; exact (H.stepC D1).outL _⟩
    · exact ⟨_, h1p, q1, by rw [e1]; exact H.stepC D1⟩
  subst w1
  show Z _ _ _ _ _ _ _ _ _ _ _ _ _ _ _ _ _ _ _ _ [vI z1]
  refine z_istore (lv' := [(6, vI z1), (5, vI i), (4, vR ad), (3, vR ao), (2, vR (gm 0)), (1, vR (gc 0)), (0, vR b)]) F dL_law_1112 (by decide) rfl ?_
  refine z_aload_n F dL_law_1114 rfl 4 rfl ?_
  refine z_aload_n F dL_law_1115 rfl 6 rfl ?_
  refine z_iload F dL_law_1116 1 rfl ?_
  refine z_iconst F dL_law_1118 ?_
  refine z_iadd F dL_law_1119 ?_
  refine z_sld (xs := xs) F hX hbl hbA (by omega) (by omega) (by omega) dL_law_1120 ?_
  rw [← ea1]
  refine z_callV (As := [vI a1]) (st := []) F ((mX9_state l G N0 hm gm σ a1 T.1 T.2.1 T.mv ra1).frame W1.m) cvL_214 (W1.m _ _ (mI T.1 0 rfl)) (fun r9 h9 => by cases h9; rfl) rfl rfl ⟨le_f (Nat.le_of_ble_eq_true rfl), le_l (Nat.le_of_ble_eq_true rfl)⟩ rfl ⟨le_c (by (try simp only []); omega), le_s (by (try simp only []); omega)⟩ dL_law_1121 ?_
  intro r2 h2 p2
  obtain ⟨σ1, ρ1, hm1, hc2, v, H', T', q1, q3, q2, q4⟩ := turn_state H T p1 p2
  cases q1
  subst q2
  show Z _ _ _ _ _ _ _ _ _ _ _ _ _ _ _ _ _ _ _ _ [vI v]
  exact tail_I F hk0 hn0 (by (try simp only []); omega) (by (try simp only []); omega) H' T' q3 q4 dL_law_1124 dL_law_1126 dL_law_1127 dL_law_1130 dL_law_1132 dL_law_1137 dL_law_1139 dL_law_1142 dL_law_1143 dL_law_1144 dL_law_1145 dL_law_1147 dL_law_1148 dL_law_1149 dL_law_1154 (by decide) K
set_option maxHeartbeats 4000000 in
theorem case_startOf {p : Program} {l : Launch} {e : Env} {s : State} {m : MethodId} {args : Array Value} {below : List Frame} {meth : Method} {c : Code} {G : GG} {N0 : Nat} {A : Nat → Prop} {Q : State → Prop} (F : Fx p s m args meth c RL cL_law 9 G N0 A) {b ao ad L : Nat} {xs : Nat → Int32} {gm : Nat → Nat} {gc : Int → Nat} {i : Int} {k n : Nat} {h hm hc : Hp} {σ ρ : Sg} (hl9 : l.stackTraces = false) (hcw : ∀ w ∈ tables_1, w.before args s = true) (hX : va_X b L xs s s.heap) (hbl : b < s.heap.size) (hbA : ¬ A b) (hL : L ≤ 2560) (hi : 0 ≤ i ∧ i + 5 ≤ L) (hk0 : k + 130 ≤ 603072) (hn0 : n + 12100 ≤ 7198826) (H : HM h hm hc ao ad) (T : RT G gm gc σ ρ hm hc) (K : LK p l e s m args below meth c G N0 A Q b ao ad gm gc i k n) : Z p l e room_1 s m args below meth c 9 G N0 A Q h k n 1157 [(5, vI i), (4, vR ad), (3, vR ao), (2, vR (gm 0)), (1, vR (gc 0)), (0, vR b)] [] := by
  obtain ⟨a1, ea1⟩ : ∃ z, z = (xs (i + 1).toNat).toInt := ⟨_, rfl⟩
  have ra1 : -2147483648 ≤ a1 ∧ a1 < 2147483648 := by rw [ea1]; exact iI_rng _
  refine z_aload_n F dL_law_1157 rfl 4 rfl ?_
  refine z_aload_n F dL_law_1158 rfl 5 rfl ?_
  refine z_iload F dL_law_1159 0 rfl ?_
  refine z_iconst F dL_law_1161 ?_
  refine z_iadd F dL_law_1162 ?_
  refine z_sld (xs := xs) F hX hbl hbA (by omega) (by omega) (by omega) dL_law_1163 ?_
  rw [← ea1]
  refine z_aload_n F dL_law_1164 rfl 2 rfl ?_
  obtain ⟨f0, ho⟩ := H.o
  refine z_callSW (nA := 3) (As := [vR (gc 0), vI a1, vR ao]) (st := []) F (mL_startOf l G N0 h hl9 gc ρ hc ao f0 a1 T.2.2.1 T.2.2.2.1 H.c ho H.co ra1) (hcw _ cw_startOf) ⟨⟨q994, q995, q0⟩, by decide, by decide, by decide +kernel⟩ rfl rfl ⟨le_f (Nat.le_of_ble_eq_true rfl), le_l (Nat.le_of_ble_eq_true rfl)⟩ rfl ⟨le_c (by (try simp only []); omega), le_s (by (try simp only []); omega)⟩ dL_law_1165 ?_
  intro r1 H1 p1
  obtain ⟨z1, hc1, w1, W1⟩ : ∃ (z1 : Int) (hc1 : Hp), r1 = some (vI z1) ∧ HM H1 hm hc1 ao ad := by
    rcases p1 with ⟨_, q1, ρp, h1p, S1, I1, D1, e1⟩ | ⟨_, q1, ρp, h1p, S1, I1, D1, e1⟩
    · exact ⟨_, h1p, q1, by rw [e1]; exact (H.stepC D1).outL _⟩
    · exact ⟨_, h1p, q1, by rw [e1]; exact H.stepC D1⟩
  subst w1
  show Z _ _ _ _ _ _ _ _ _ _ _ _ _ _ _ _ _ _ _ _ [vI z1]
  refine z_istore (lv' := [(6, vI z1), (5, vI i), (4, vR ad), (3, vR ao), (2, vR (gm 0)), (1, vR (gc 0)), (0, vR b)]) F dL_law_1168 (by decide) rfl ?_
  refine z_aload_n F dL_law_1170 rfl 4 rfl ?_
  refine z_aload_n F dL_law_1171 rfl 6 rfl ?_
  refine z_iload F dL_law_1172 1 rfl ?_
  refine z_iconst F dL_law_1174 ?_
  refine z_iadd F dL_law_1175 ?_
  refine z_sld (xs := xs) F hX hbl hbA (by omega) (by omega) (by omega) dL_law_1176 ?_
  rw [← ea1]
  refine z_callV (As := [vI a1]) (st := []) F ((mX9_startOf l G N0 hm gm σ a1 T.1 T.2.1 T.mv ra1).frame W1.m) cvL_217 (W1.m _ _ (mI T.1 0 rfl)) (fun r9 h9 => by cases h9; rfl) rfl rfl ⟨le_f (Nat.le_of_ble_eq_true rfl), le_l (Nat.le_of_ble_eq_true rfl)⟩ rfl ⟨le_c (by (try simp only []); omega), le_s (by (try simp only []); omega)⟩ dL_law_1177 ?_
  intro r2 h2 p2
  obtain ⟨σ1, ρ1, hm1, hc2, v, H', T', q1, q3, q2, q4⟩ := turn_startOf H T p1 p2
  cases q1
  subst q2
  show Z _ _ _ _ _ _ _ _ _ _ _ _ _ _ _ _ _ _ _ _ [vI v]
  exact tail_I F hk0 hn0 (by (try simp only []); omega) (by (try simp only []); omega) H' T' q3 q4 dL_law_1180 dL_law_1182 dL_law_1183 dL_law_1186 dL_law_1188 dL_law_1193 dL_law_1195 dL_law_1198 dL_law_1199 dL_law_1200 dL_law_1201 dL_law_1203 dL_law_1204 dL_law_1205 dL_law_1210 (by decide) K
set_option maxHeartbeats 4000000 in
theorem case_endOf {p : Program} {l : Launch} {e : Env} {s : State} {m : MethodId} {args : Array Value} {below : List Frame} {meth : Method} {c : Code} {G : GG} {N0 : Nat} {A : Nat → Prop} {Q : State → Prop} (F : Fx p s m args meth c RL cL_law 9 G N0 A) {b ao ad L : Nat} {xs : Nat → Int32} {gm : Nat → Nat} {gc : Int → Nat} {i : Int} {k n : Nat} {h hm hc : Hp} {σ ρ : Sg} (hl9 : l.stackTraces = false) (hcw : ∀ w ∈ tables_1, w.before args s = true) (hX : va_X b L xs s s.heap) (hbl : b < s.heap.size) (hbA : ¬ A b) (hL : L ≤ 2560) (hi : 0 ≤ i ∧ i + 5 ≤ L) (hk0 : k + 130 ≤ 603072) (hn0 : n + 12100 ≤ 7198826) (H : HM h hm hc ao ad) (T : RT G gm gc σ ρ hm hc) (K : LK p l e s m args below meth c G N0 A Q b ao ad gm gc i k n) : Z p l e room_1 s m args below meth c 9 G N0 A Q h k n 1213 [(5, vI i), (4, vR ad), (3, vR ao), (2, vR (gm 0)), (1, vR (gc 0)), (0, vR b)] [] := by
  obtain ⟨a1, ea1⟩ : ∃ z, z = (xs (i + 1).toNat).toInt := ⟨_, rfl⟩
  have ra1 : -2147483648 ≤ a1 ∧ a1 < 2147483648 := by rw [ea1]; exact iI_rng _
  refine z_aload_n F dL_law_1213 rfl 4 rfl ?_
  refine z_aload_n F dL_law_1214 rfl 5 rfl ?_
  refine z_iload F dL_law_1215 0 rfl ?_
  refine z_iconst F dL_law_1217 ?_
  refine z_iadd F dL_law_1218 ?_
  refine z_sld (xs := xs) F hX hbl hbA (by omega) (by omega) (by omega) dL_law_1219 ?_
  rw [← ea1]
  refine z_aload_n F dL_law_1220 rfl 2 rfl ?_
  obtain ⟨f0, ho⟩ := H.o
  refine z_callSW (nA := 3) (As := [vR (gc 0), vI a1, vR ao]) (st := []) F (mL_endOf l G N0 h hl9 gc ρ hc ao f0 a1 T.2.2.1 T.2.2.2.1 H.c ho H.co ra1) (hcw _ cw_endOf) ⟨⟨q1001, q1002, q0⟩, by decide, by decide, by decide +kernel⟩ rfl rfl ⟨le_f (Nat.le_of_ble_eq_true rfl), le_l (Nat.le_of_ble_eq_true rfl)⟩ rfl ⟨le_c (by (try simp only []); omega), le_s (by (try simp only []); omega)⟩ dL_law_1221 ?_
  intro r1 H1 p1
  obtain ⟨z1, hc1, w1, W1⟩ : ∃ (z1 : Int) (hc1 : Hp), r1 = some (vI z1) ∧ HM H1 hm hc1 ao ad := by
    rcases p1 with ⟨_, q1, ρp, h1p, S1, I1, D1, e1⟩ | ⟨_, q1, ρp, h1p, S1, I1, D1, e1⟩
    · exact ⟨_, h1p, q1, by rw [e1]; exact (H.stepC D1).outL _⟩
    · exact ⟨_, h1p, q1, by rw [e1]; exact H.stepC D1⟩
  subst w1
  show Z _ _ _ _ _ _ _ _ _ _ _ _ _ _ _ _ _ _ _ _ [vI z1]
  refine z_istore (lv' := [(6, vI z1), (5, vI i), (4, vR ad), (3, vR ao), (2, vR (gm 0)), (1, vR (gc 0)), (0, vR b)]) F dL_law_1224 (by decide) rfl ?_
  refine z_aload_n F dL_law_1226 rfl 4 rfl ?_
  refine z_aload_n F dL_law_1227 rfl 6 rfl ?_
  refine z_iload F dL_law_1228 1 rfl ?_
  refine z_iconst F dL_law_1230 ?_
  refine z_iadd F dL_law_1231 ?_
  refine z_sld (xs := xs) F hX hbl hbA (by omega) (by omega) (by omega) dL_law_1232 ?_
  rw [← ea1]
  refine z_callV (As := [vI a1]) (st := []) F ((mX9_endOf l G N0 hm gm σ a1 T.1 T.2.1 T.mv ra1).frame W1.m) cvL_220 (W1.m _ _ (mI T.1 0 rfl)) (fun r9 h9 => by cases h9; rfl) rfl rfl ⟨le_f (Nat.le_of_ble_eq_true rfl), le_l (Nat.le_of_ble_eq_true rfl)⟩ rfl ⟨le_c (by (try simp only []); omega), le_s (by (try simp only []); omega)⟩ dL_law_1233 ?_
  intro r2 h2 p2
  obtain ⟨σ1, ρ1, hm1, hc2, v, H', T', q1, q3, q2, q4⟩ := turn_endOf H T p1 p2
  cases q1
  subst q2
  show Z _ _ _ _ _ _ _ _ _ _ _ _ _ _ _ _ _ _ _ _ [vI v]
  exact tail_I F hk0 hn0 (by (try simp only []); omega) (by (try simp only []); omega) H' T' q3 q4 dL_law_1236 dL_law_1238 dL_law_1239 dL_law_1242 dL_law_1244 dL_law_1249 dL_law_1251 dL_law_1254 dL_law_1255 dL_law_1256 dL_law_1257 dL_law_1259 dL_law_1260 dL_law_1261 dL_law_1266 (by decide) K
set_option maxHeartbeats 4000000 in
theorem case_counted {p : Program} {l : Launch} {e : Env} {s : State} {m : MethodId} {args : Array Value} {below : List Frame} {meth : Method} {c : Code} {G : GG} {N0 : Nat} {A : Nat → Prop} {Q : State → Prop} (F : Fx p s m args meth c RL cL_law 9 G N0 A) {b ao ad L : Nat} {xs : Nat → Int32} {gm : Nat → Nat} {gc : Int → Nat} {i : Int} {k n : Nat} {h hm hc : Hp} {σ ρ : Sg} (hl9 : l.stackTraces = false) (hcw : ∀ w ∈ tables_1, w.before args s = true) (hX : va_X b L xs s s.heap) (hbl : b < s.heap.size) (hbA : ¬ A b) (hL : L ≤ 2560) (hi : 0 ≤ i ∧ i + 5 ≤ L) (hk0 : k + 130 ≤ 603072) (hn0 : n + 12100 ≤ 7198826) (H : HM h hm hc ao ad) (T : RT G gm gc σ ρ hm hc) (K : LK p l e s m args below meth c G N0 A Q b ao ad gm gc i k n) : Z p l e room_1 s m args below meth c 9 G N0 A Q h k n 1269 [(5, vI i), (4, vR ad), (3, vR ao), (2, vR (gm 0)), (1, vR (gc 0)), (0, vR b)] [] := by
  obtain ⟨a1, ea1⟩ : ∃ z, z = (xs (i + 1).toNat).toInt := ⟨_, rfl⟩
  have ra1 : -2147483648 ≤ a1 ∧ a1 < 2147483648 := by rw [ea1]; exact iI_rng _
  refine z_aload_n F dL_law_1269 rfl 4 rfl ?_
  refine z_aload_n F dL_law_1270 rfl 5 rfl ?_
  refine z_iload F dL_law_1271 0 rfl ?_
  refine z_iconst F dL_law_1273 ?_
  refine z_iadd F dL_law_1274 ?_
  refine z_sld (xs := xs) F hX hbl hbA (by omega) (by omega) (by omega) dL_law_1275 ?_
  rw [← ea1]
  refine z_aload_n F dL_law_1276 rfl 2 rfl ?_
  obtain ⟨f0, ho⟩ := H.o
  refine z_callSW (nA := 3) (As := [vR (gc 0), vI a1, vR ao]) (st := []) F (mL_counted l G N0 h hl9 gc ρ hc ao f0 a1 T.2.2.1 T.2.2.2.1 H.c ho H.co ra1) (hcw _ cw_counted) ⟨⟨q1008, q1009, q0⟩, by decide, by decide, by decide +kernel⟩ rfl rfl ⟨le_f (Nat.le_of_ble_eq_true rfl), le_l (Nat.le_of_ble_eq_true rfl)⟩ rfl ⟨le_c (by (try simp only []); omega), le_s (by (try simp only []); omega)⟩ dL_law_1277 ?_
  intro r1 H1 p1
  obtain ⟨z1, hc1, w1, W1⟩ : ∃ (z1 : Int) (hc1 : Hp), r1 = some (vI z1) ∧ HM H1 hm hc1 ao ad := by
    rcases p1 with ⟨_, q1, ρp, h1p, S1, I1, D1, e1⟩ | ⟨_, q1, ρp, h1p, S1, I1, D1, e1⟩
    · exact ⟨_, h1p, q1, by rw [e1]; exact (H.stepC D1).outL _⟩
    · exact ⟨_, h1p, q1, by rw [e1]; exact H.stepC D1⟩
  subst w1
  show Z _ _ _ _ _ _ _ _ _ _ _ _ _ _ _ _ _ _ _ _ [vI z1]
  refine z_istore (lv' := [(6, vI z1), (5, vI i), (4, vR ad), (3, vR ao), (2, vR (gm 0)), (1, vR (gc 0)), (0, vR b)]) F dL_law_1280 (by decide) rfl ?_
  refine z_aload_n F dL_law_1282 rfl 4 rfl ?_
  refine z_aload_n F dL_law_1283 rfl 6 rfl ?_
  refine z_iload F dL_law_1284 1 rfl ?_
  refine z_iconst F dL_law_1286 ?_
  refine z_iadd F dL_law_1287 ?_
  refine z_sld (xs := xs) F hX hbl hbA (by omega) (by omega) (by omega) dL_law_1288 ?_
  rw [← ea1]
  refine z_callV (As := [vI a1]) (st := []) F ((mX9_counted l G N0 hm gm σ a1 T.1 T.2.1 T.mv ra1).frame W1.m) cvL_223 (W1.m _ _ (mI T.1 0 rfl)) (fun r9 h9 => by cases h9; rfl) rfl rfl ⟨le_f (Nat.le_of_ble_eq_true rfl), le_l (Nat.le_of_ble_eq_true rfl)⟩ rfl ⟨le_c (by (try simp only []); omega), le_s (by (try simp only []); omega)⟩ dL_law_1289 ?_
  intro r2 h2 p2
  obtain ⟨σ1, ρ1, hm1, hc2, v, H', T', q1, q3, q2, q4⟩ := turn_counted H T p1 p2
  cases q1
  subst q2
  show Z _ _ _ _ _ _ _ _ _ _ _ _ _ _ _ _ _ _ _ _ [vI v]
  exact tail_I F hk0 hn0 (by (try simp only []); omega) (by (try simp only []); omega) H' T' q3 q4 dL_law_1292 dL_law_1294 dL_law_1295 dL_law_1298 dL_law_1300 dL_law_1305 dL_law_1307 dL_law_1310 dL_law_1311 dL_law_1312 dL_law_1313 dL_law_1315 dL_law_1316 dL_law_1317 dL_law_1322 (by decide) K
set_option maxHeartbeats 4000000 in
theorem case_countedByMinutes {p : Program} {l : Launch} {e : Env} {s : State} {m : MethodId} {args : Array Value} {below : List Frame} {meth : Method} {c : Code} {G : GG} {N0 : Nat} {A : Nat → Prop} {Q : State → Prop} (F : Fx p s m args meth c RL cL_law 9 G N0 A) {b ao ad L : Nat} {xs : Nat → Int32} {gm : Nat → Nat} {gc : Int → Nat} {i : Int} {k n : Nat} {h hm hc : Hp} {σ ρ : Sg} (hl9 : l.stackTraces = false) (hcw : ∀ w ∈ tables_1, w.before args s = true) (hX : va_X b L xs s s.heap) (hbl : b < s.heap.size) (hbA : ¬ A b) (hL : L ≤ 2560) (hi : 0 ≤ i ∧ i + 5 ≤ L) (hk0 : k + 130 ≤ 603072) (hn0 : n + 12100 ≤ 7198826) (H : HM h hm hc ao ad) (T : RT G gm gc σ ρ hm hc) (K : LK p l e s m args below meth c G N0 A Q b ao ad gm gc i k n) : Z p l e room_1 s m args below meth c 9 G N0 A Q h k n 1325 [(5, vI i), (4, vR ad), (3, vR ao), (2, vR (gm 0)), (1, vR (gc 0)), (0, vR b)] [] := by
  obtain ⟨a1, ea1⟩ : ∃ z, z = (xs (i + 1).toNat).toInt := ⟨_, rfl⟩
  have ra1 : -2147483648 ≤ a1 ∧ a1 < 2147483648 := by rw [ea1]; exact iI_rng _
  refine z_aload_n F dL_law_1325 rfl 4 rfl ?_
  refine z_aload_n F dL_law_1326 rfl 5 rfl ?_
  refine z_iload F dL_law_1327 0 rfl ?_
  refine z_iconst F dL_law_1329 ?_
  refine z_iadd F dL_law_1330 ?_
  refine z_sld (xs := xs) F hX hbl hbA (by omega) (by omega) (by omega) dL_law_1331 ?_
  rw [← ea1]
  refine z_aload_n F dL_law_1332 rfl 2 rfl ?_
  obtain ⟨f0, ho⟩ := H.o
  refine z_callSW (nA := 3) (As := [vR (gc 0), vI a1, vR ao]) (st := []) F (mL_countedByMinutes l G N0 h hl9 gc ρ hc ao f0 a1 T.2.2.1 T.2.2.2.1 H.c ho H.co ra1) (hcw _ cw_countedByMinutes) ⟨⟨q1016, q1017, q0⟩, by decide, by decide, by decide +kernel⟩ rfl rfl ⟨le_f (Nat.le_of_ble_eq_true rfl), le_l (Nat.le_of_ble_eq_true rfl)⟩ rfl ⟨le_c (by (try simp only []); omega), le_s (by (try simp only []); omega)⟩ dL_law_1333 ?_
  intro r1 H1 p1
  obtain ⟨z1, hc1, w1, W1⟩ : ∃ (z1 : Int) (hc1 : Hp), r1 = some (vI z1) ∧ HM H1 hm hc1 ao ad := by
    rcases p1 with ⟨_, q1, ρp, h1p, S1, I1, D1, e1⟩ | ⟨_, q1, ρp, h1p, S1, I1, D1, e1⟩
    · exact ⟨_, h1p, q1, by rw [e1]; exact (H.stepC D1).outL _⟩
    · exact ⟨_, h1p, q1, by rw [e1]; exact H.stepC D1⟩
  subst w1
  show Z _ _ _ _ _ _ _ _ _ _ _ _ _ _ _ _ _ _ _ _ [vI z1]
  refine z_istore (lv' := [(6, vI z1), (5, vI i), (4, vR ad), (3, vR ao), (2, vR (gm 0)), (1, vR (gc 0)), (0, vR b)]) F dL_law_1336 (by decide) rfl ?_
  refine z_aload_n F dL_law_1338 rfl 4 rfl ?_
  refine z_aload_n F dL_law_1339 rfl 6 rfl ?_
  refine z_iload F dL_law_1340 1 rfl ?_
  refine z_iconst F dL_law_1342 ?_
  refine z_iadd F dL_law_1343 ?_
  refine z_sld (xs := xs) F hX hbl hbA (by omega) (by omega) (by omega) dL_law_1344 ?_
  rw [← ea1]
  refine z_callV (As := [vI a1]) (st := []) F ((mX9_countedByMinutes l G N0 hm gm σ a1 T.1 T.2.1 T.mv ra1).frame W1.m) cvL_226 (W1.m _ _ (mI T.1 0 rfl)) (fun r9 h9 => by cases h9; rfl) rfl rfl ⟨le_f (Nat.le_of_ble_eq_true rfl), le_l (Nat.le_of_ble_eq_true rfl)⟩ rfl ⟨le_c (by (try simp only []); omega), le_s (by (try simp only []); omega)⟩ dL_law_1345 ?_
  intro r2 h2 p2
  obtain ⟨σ1, ρ1, hm1, hc2, v, H', T', q1, q3, q2, q4⟩ := turn_countedByMinutes H T p1 p2
  cases q1
  subst q2
  show Z _ _ _ _ _ _ _ _ _ _ _ _ _ _ _ _ _ _ _ _ [vI v]
  exact tail_I F hk0 hn0 (by (try simp only []); omega) (by (try simp only []); omega) H' T' q3 q4 dL_law_1348 dL_law_1350 dL_law_1351 dL_law_1354 dL_law_1356 dL_law_1361 dL_law_1363 dL_law_1366 dL_law_1367 dL_law_1368 dL_law_1369 dL_law_1371 dL_law_1372 dL_law_1373 dL_law_1378 (by decide) K
set_option maxHeartbeats 4000000 in
theorem case_writeEntry {p : Program} {l : Launch} {e : Env} {s : State} {m : MethodId} {args : Array Value} {below : List Frame} {meth : Method} {c : Code} {G : GG} {N0 : Nat} {A : Nat → Prop} {Q : State → Prop} (F : Fx p s m args meth c RL cL_law 9 G N0 A) {b ao ad L : Nat} {xs : Nat → Int32} {gm : Nat → Nat} {gc : Int → Nat} {i : Int} {k n : Nat} {h hm hc : Hp} {σ ρ : Sg} (hl9 : l.stackTraces = false) (hcw : ∀ w ∈ tables_1, w.before args s = true) (hX : va_X b L xs s s.heap) (hbl : b < s.heap.size) (hbA : ¬ A b) (hL : L ≤ 2560) (hi : 0 ≤ i ∧ i + 5 ≤ L) (hk0 : k + 130 ≤ 603072) (hn0 : n + 12100 ≤ 7198826) (H : HM h hm hc ao ad) (T : RT G gm gc σ ρ hm hc) (K : LK p l e s m args below meth c G N0 A Q b ao ad gm gc i k n) : Z p l e room_1 s m args below meth c 9 G N0 A Q h k n 1381 [(5, vI i), (4, vR ad), (3, vR ao), (2, vR (gm 0)), (1, vR (gc 0)), (0, vR b)] [] := by
  obtain ⟨a1, ea1⟩ : ∃ z, z = (xs (i + 1).toNat).toInt := ⟨_, rfl⟩
  have ra1 : -2147483648 ≤ a1 ∧ a1 < 2147483648 := by rw [ea1]; exact iI_rng _
  refine z_aload_n F dL_law_1381 rfl 4 rfl ?_
  refine z_aload_n F dL_law_1382 rfl 5 rfl ?_
  refine z_iload F dL_law_1383 0 rfl ?_
  refine z_iconst F dL_law_1385 ?_
  refine z_iadd F dL_law_1386 ?_
  refine z_sld (xs := xs) F hX hbl hbA (by omega) (by omega) (by omega) dL_law_1387 ?_
  rw [← ea1]
  refine z_aload_n F dL_law_1388 rfl 2 rfl ?_
  obtain ⟨f0, ho⟩ := H.o
  refine z_callSW (nA := 3) (As := [vR (gc 0), vI a1, vR ao]) (st := []) F (mL_writeEntry l G N0 h hl9 gc ρ hc ao f0 a1 T.2.2.1 T.2.2.2.1 H.c ho H.co ra1) (hcw _ cw_writeEntry) ⟨⟨q1023, q1024, q0⟩, by decide, by decide, by decide +kernel⟩ rfl rfl ⟨le_f (Nat.le_of_ble_eq_true rfl), le_l (Nat.le_of_ble_eq_true rfl)⟩ rfl ⟨le_c (by (try simp only []); omega), le_s (by (try simp only []); omega)⟩ dL_law_1389 ?_
  intro r1 H1 p1
  obtain ⟨z1, hc1, w1, W1⟩ : ∃ (z1 : Int) (hc1 : Hp), r1 = some (vI z1) ∧ HM H1 hm hc1 ao ad := by
    rcases p1 with ⟨_, q1, ρp, h1p, S1, I1, D1, e1⟩ | ⟨_, q1, ρp, h1p, S1, I1, D1, e1⟩
    · exact ⟨_, h1p, q1, by rw [e1]; exact (H.stepC D1).outL _⟩
    · exact ⟨_, h1p, q1, by rw [e1]; exact H.stepC D1⟩
  subst w1
  show Z _ _ _ _ _ _ _ _ _ _ _ _ _ _ _ _ _ _ _ _ [vI z1]
  refine z_istore (lv' := [(6, vI z1), (5, vI i), (4, vR ad), (3, vR ao), (2, vR (gm 0)), (1, vR (gc 0)), (0, vR b)]) F dL_law_1392 (by decide) rfl ?_
  refine z_aload_n F dL_law_1394 rfl 4 rfl ?_
  refine z_aload_n F dL_law_1395 rfl 6 rfl ?_
  refine z_iload F dL_law_1396 1 rfl ?_
  refine z_iconst F dL_law_1398 ?_
  refine z_iadd F dL_law_1399 ?_
  refine z_sld (xs := xs) F hX hbl hbA (by omega) (by omega) (by omega) dL_law_1400 ?_
  rw [← ea1]
  refine z_callV (As := [vI a1]) (st := []) F ((mX9_writeEntry l G N0 hm gm σ a1 T.1 T.2.1 T.mv ra1).frame W1.m) cvL_229 (W1.m _ _ (mI T.1 0 rfl)) (fun r9 h9 => by cases h9; rfl) rfl rfl ⟨le_f (Nat.le_of_ble_eq_true rfl), le_l (Nat.le_of_ble_eq_true rfl)⟩ rfl ⟨le_c (by (try simp only []); omega), le_s (by (try simp only []); omega)⟩ dL_law_1401 ?_
  intro r2 h2 p2
  obtain ⟨σ1, ρ1, hm1, hc2, v, H', T', q1, q3, q2, q4⟩ := turn_writeEntry H T p1 p2
  cases q1
  subst q2
  show Z _ _ _ _ _ _ _ _ _ _ _ _ _ _ _ _ _ _ _ _ [vI v]
  exact tail_I F hk0 hn0 (by (try simp only []); omega) (by (try simp only []); omega) H' T' q3 q4 dL_law_1404 dL_law_1406 dL_law_1407 dL_law_1410 dL_law_1412 dL_law_1417 dL_law_1419 dL_law_1422 dL_law_1423 dL_law_1424 dL_law_1425 dL_law_1427 dL_law_1428 dL_law_1429 dL_law_1434 (by decide) K
set_option maxHeartbeats 4000000 in
theorem case_charAt {p : Program} {l : Launch} {e : Env} {s : State} {m : MethodId} {args : Array Value} {below : List Frame} {meth : Method} {c : Code} {G : GG} {N0 : Nat} {A : Nat → Prop} {Q : State → Prop} (F : Fx p s m args meth c RL cL_law 9 G N0 A) {b ao ad L : Nat} {xs : Nat → Int32} {gm : Nat → Nat} {gc : Int → Nat} {i : Int} {k n : Nat} {h hm hc : Hp} {σ ρ : Sg} (hl9 : l.stackTraces = false) (hcw : ∀ w ∈ tables_1, w.before args s = true) (hX : va_X b L xs s s.heap) (hbl : b < s.heap.size) (hbA : ¬ A b) (hL : L ≤ 2560) (hi : 0 ≤ i ∧ i + 5 ≤ L) (hk0 : k + 130 ≤ 603072) (hn0 : n + 12100 ≤ 7198826) (H : HM h hm hc ao ad) (T : RT G gm gc σ ρ hm hc) (K : LK p l e s m args below meth c G N0 A Q b ao ad gm gc i k n) : Z p l e room_1 s m args below meth c 9 G N0 A Q h k n 1437 [(5, vI i), (4, vR ad), (3, vR ao), (2, vR (gm 0)), (1, vR (gc 0)), (0, vR b)] [] := by
  obtain ⟨a1, ea1⟩ : ∃ z, z = (xs (i + 1).toNat).toInt := ⟨_, rfl⟩
  have ra1 : -2147483648 ≤ a1 ∧ a1 < 2147483648 := by rw [ea1]; exact iI_rng _
  refine z_aload_n F dL_law_1437 rfl 4 rfl ?_
  refine z_aload_n F dL_law_1438 rfl 5 rfl ?_
  refine z_iload F dL_law_1439 0 rfl ?_
  refine z_iconst F dL_law_1441 ?_
  refine z_iadd F dL_law_1442 ?_
  refine z_sld (xs := xs) F hX hbl hbA (by omega) (by omega) (by omega) dL_law_1443 ?_
  rw [← ea1]
  refine z_aload_n F dL_law_1444 rfl 2 rfl ?_
  obtain ⟨f0, ho⟩ := H.o
  refine z_callSW (nA := 3) (As := [vR (gc 0), vI a1, vR ao]) (st := []) F (mL_charAt l G N0 h hl9 gc ρ hc ao f0 a1 T.2.2.1 T.2.2.2.1 H.c ho H.co ra1) (hcw _ cw_charAt) ⟨⟨q1104, q1105, q0⟩, by decide, by decide, by decide +kernel⟩ rfl rfl ⟨le_f (Nat.le_of_ble_eq_true rfl), le_l (Nat.le_of_ble_eq_true rfl)⟩ rfl ⟨le_c (by (try simp only []); omega), le_s (by (try simp only []); omega)⟩ dL_law_1445 ?_
  intro r1 H1 p1
  obtain ⟨z1, hc1, w1, W1⟩ : ∃ (z1 : Int) (hc1 : Hp), r1 = some (vI z1) ∧ HM H1 hm hc1 ao ad := by
    rcases p1 with ⟨_, q1, ρp, h1p, S1, I1, D1, e1⟩ | ⟨_, q1, ρp, h1p, S1, I1, D1, e1⟩
    · exact ⟨_, h1p, q1, by rw [e1]; exact (H.stepC D1).outL _⟩
    · exact ⟨_, h1p, q1, by rw [e1]; exact H.stepC D1⟩
  subst w1
  show Z _ _ _ _ _ _ _ _ _ _ _ _ _ _ _ _ _ _ _ _ [vI z1]
  refine z_istore (lv' := [(6, vI z1), (5, vI i), (4, vR ad), (3, vR ao), (2, vR (gm 0)), (1, vR (gc 0)), (0, vR b)]) F dL_law_1448 (by decide) rfl ?_
  refine z_aload_n F dL_law_1450 rfl 4 rfl ?_
  refine z_aload_n F dL_law_1451 rfl 6 rfl ?_
  refine z_iload F dL_law_1452 1 rfl ?_
  refine z_iconst F dL_law_1454 ?_
  refine z_iadd F dL_law_1455 ?_
  refine z_sld (xs := xs) F hX hbl hbA (by omega) (by omega) (by omega) dL_law_1456 ?_
  rw [← ea1]
  refine z_callV (As := [vI a1]) (st := []) F ((mX9_charAt l G N0 hm gm σ a1 T.1 T.2.1 T.mv ra1).frame W1.m) cvL_232 (W1.m _ _ (mI T.1 0 rfl)) (fun r9 h9 => by cases h9; rfl) rfl rfl ⟨le_f (Nat.le_of_ble_eq_true rfl), le_l (Nat.le_of_ble_eq_true rfl)⟩ rfl ⟨le_c (by (try simp only []); omega), le_s (by (try simp only []); omega)⟩ dL_law_1457 ?_
  intro r2 h2 p2
  obtain ⟨σ1, ρ1, hm1, hc2, v, H', T', q1, q3, q2, q4⟩ := turn_charAt H T p1 p2
  cases q1
  subst q2
  show Z _ _ _ _ _ _ _ _ _ _ _ _ _ _ _ _ _ _ _ _ [vI v]
  exact tail_I F hk0 hn0 (by (try simp only []); omega) (by (try simp only []); omega) H' T' q3 q4 dL_law_1460 dL_law_1462 dL_law_1463 dL_law_1466 dL_law_1468 dL_law_1473 dL_law_1475 dL_law_1478 dL_law_1479 dL_law_1480 dL_law_1481 dL_law_1483 dL_law_1484 dL_law_1485 dL_law_1490 (by decide) K
set_option maxHeartbeats 4000000 in
theorem case_rounded {p : Program} {l : Launch} {e : Env} {s : State} {m : MethodId} {args : Array Value} {below : List Frame} {meth : Method} {c : Code} {G : GG} {N0 : Nat} {A : Nat → Prop} {Q : State → Prop} (F : Fx p s m args meth c RL cL_law 9 G N0 A) {b ao ad L : Nat} {xs : Nat → Int32} {gm : Nat → Nat} {gc : Int → Nat} {i : Int} {k n : Nat} {h hm hc : Hp} {σ ρ : Sg} (hl9 : l.stackTraces = false) (hcw : ∀ w ∈ tables_1, w.before args s = true) (hX : va_X b L xs s s.heap) (hbl : b < s.heap.size) (hbA : ¬ A b) (hL : L ≤ 2560) (hi : 0 ≤ i ∧ i + 5 ≤ L) (hk0 : k + 130 ≤ 603072) (hn0 : n + 12100 ≤ 7198826) (H : HM h hm hc ao ad) (T : RT G gm gc σ ρ hm hc) (K : LK p l e s m args below meth c G N0 A Q b ao ad gm gc i k n) : Z p l e room_1 s m args below meth c 9 G N0 A Q h k n 1493 [(5, vI i), (4, vR ad), (3, vR ao), (2, vR (gm 0)), (1, vR (gc 0)), (0, vR b)] [] := by
  obtain ⟨a1, ea1⟩ : ∃ z, z = (xs (i + 1).toNat).toInt := ⟨_, rfl⟩
  have ra1 : -2147483648 ≤ a1 ∧ a1 < 2147483648 := by rw [ea1]; exact iI_rng _
  refine z_aload_n F dL_law_1493 rfl 4 rfl ?_
  refine z_aload_n F dL_law_1494 rfl 5 rfl ?_
  refine z_iload F dL_law_1495 0 rfl ?_
  refine z_iconst F dL_law_1497 ?_
  refine z_iadd F dL_law_1498 ?_
  refine z_sld (xs := xs) F hX hbl hbA (by omega) (by omega) (by omega) dL_law_1499 ?_
  rw [← ea1]
  refine z_aload_n F dL_law_1500 rfl 2 rfl ?_
  obtain ⟨f0, ho⟩ := H.o
  refine z_callSW (nA := 3) (As := [vR (gc 0), vI a1, vR ao]) (st := []) F (mL_rounded l G N0 h hl9 gc ρ hc ao f0 a1 T.2.2.1 T.2.2.2.1 H.c ho H.co ra1) (hcw _ cw_rounded) ⟨⟨q1122, q1123, q0⟩, by decide, by decide, by decide +kernel⟩ rfl rfl ⟨le_f (Nat.le_of_ble_eq_true rfl), le_l (Nat.le_of_ble_eq_true rfl)⟩ rfl ⟨le_c (by (try simp only []); omega), le_s (by (try simp only []); omega)⟩ dL_law_1501 ?_
  intro r1 H1 p1
  obtain ⟨z1, hc1, w1, W1⟩ : ∃ (z1 : Int) (hc1 : Hp), r1 = some (vI z1) ∧ HM H1 hm hc1 ao ad := by
    rcases p1 with ⟨_, _, _, q1, ρp, h1p, S1, I1, D1, e1⟩ | ⟨_, q1, ρp, h1p, S1, I1, D1, e1⟩ | ⟨_, q1, ρp, h1p, S1, I1, D1, e1⟩ | ⟨_, q1, ρp, h1p, S1, I1, D1, e1⟩
    · exact ⟨_, h1p, q1, by rw [e1]; exact (H.stepC D1).outL _⟩
    · exact ⟨_, h1p, q1, by rw [e1]; exact H.stepC D1⟩
    · exact ⟨_, h1p, q1, by rw [e1]; exact H.stepC D1⟩
    · exact ⟨_, h1p, q1, by rw [e1]; exact H.stepC D1⟩
  subst w1
  show Z _ _ _ _ _ _ _ _ _ _ _ _ _ _ _ _ _ _ _ _ [vI z1]
  refine z_istore (lv' := [(6, vI z1), (5, vI i), (4, vR ad), (3, vR ao), (2, vR (gm 0)), (1, vR (gc 0)), (0, vR b)]) F dL_law_1504 (by decide) rfl ?_
  refine z_aload_n F dL_law_1506 rfl 4 rfl ?_
  refine z_aload_n F dL_law_1507 rfl 6 rfl ?_
  refine z_iload F dL_law_1508 1 rfl ?_
  refine z_iconst F dL_law_1510 ?_
  refine z_iadd F dL_law_1511 ?_
  refine z_sld (xs := xs) F hX hbl hbA (by omega) (by omega) (by omega) dL_law_1512 ?_
  rw [← ea1]
  refine z_callV (As := [vI a1]) (st := []) F ((mX9_rounded l G N0 hm gm σ a1 T.1 T.2.1 T.mv ra1).frame W1.m) cvL_235 (W1.m _ _ (mI T.1 0 rfl)) (fun r9 h9 => by cases h9; rfl) rfl rfl ⟨le_f (Nat.le_of_ble_eq_true rfl), le_l (Nat.le_of_ble_eq_true rfl)⟩ rfl ⟨le_c (by (try simp only []); omega), le_s (by (try simp only []); omega)⟩ dL_law_1513 ?_
  intro r2 h2 p2
  obtain ⟨σ1, ρ1, hm1, hc2, v, H', T', q1, q3, q2, q4⟩ := turn_rounded H T p1 p2
  cases q1
  subst q2
  show Z _ _ _ _ _ _ _ _ _ _ _ _ _ _ _ _ _ _ _ _ [vI v]
  exact tail_I F hk0 hn0 (by (try simp only []); omega) (by (try simp only []); omega) H' T' q3 q4 dL_law_1516 dL_law_1518 dL_law_1519 dL_law_1522 dL_law_1524 dL_law_1529 dL_law_1531 dL_law_1534 dL_law_1535 dL_law_1536 dL_law_1537 dL_law_1539 dL_law_1540 dL_law_1541 dL_law_1546 (by decide) K
set_option maxHeartbeats 4000000 in
theorem case_daySeconds {p : Program} {l : Launch} {e : Env} {s : State} {m : MethodId} {args : Array Value} {below : List Frame} {meth : Method} {c : Code} {G : GG} {N0 : Nat} {A : Nat → Prop} {Q : State → Prop} (F : Fx p s m args meth c RL cL_law 9 G N0 A) {b ao ad L : Nat} {xs : Nat → Int32} {gm : Nat → Nat} {gc : Int → Nat} {i : Int} {k n : Nat} {h hm hc : Hp} {σ ρ : Sg} (hl9 : l.stackTraces = false) (hcw : ∀ w ∈ tables_1, w.before args s = true) (hX : va_X b L xs s s.heap) (hbl : b < s.heap.size) (hbA : ¬ A b) (hL : L ≤ 2560) (hi : 0 ≤ i ∧ i + 5 ≤ L) (hk0 : k + 130 ≤ 603072) (hn0 : n + 12100 ≤ 7198826) (H : HM h hm hc ao ad) (T : RT G gm gc σ ρ hm hc) (K : LK p l e s m args below meth c G N0 A Q b ao ad gm gc i k n) : Z p l e room_1 s m args below meth c 9 G N0 A Q h k n 1549 [(5, vI i), (4, vR ad), (3, vR ao), (2, vR (gm 0)), (1, vR (gc 0)), (0, vR b)] [] := by
  obtain ⟨a1, ea1⟩ : ∃ z, z = (xs (i + 1).toNat).toInt := ⟨_, rfl⟩
  have ra1 : -2147483648 ≤ a1 ∧ a1 < 2147483648 := by rw [ea1]; exact iI_rng _
  obtain ⟨a2, ea2⟩ : ∃ z, z = (xs (i + 2).toNat).toInt := ⟨_, rfl⟩
  have ra2 : -2147483648 ≤ a2 ∧ a2 < 2147483648 := by rw [ea2]; exact iI_rng _
  refine z_aload_n F dL_law_1549 rfl 4 rfl ?_
  refine z_aload_n F dL_law_1550 rfl 5 rfl ?_
  refine z_iload F dL_law_1551 0 rfl ?_
  refine z_iconst F dL_law_1553 ?_
  refine z_iadd F dL_law_1554 ?_
  refine z_sld (xs := xs) F hX hbl hbA (by omega) (by omega) (by omega) dL_law_1555 ?_
  rw [← ea1]
  refine z_aload_n F dL_law_1556 rfl 5 rfl ?_
  refine z_iload F dL_law_1557 0 rfl ?_
  refine z_iconst F dL_law_1559 ?_
  refine z_iadd F dL_law_1560 ?_
  refine z_sld (xs := xs) F hX hbl hbA (by omega) (by omega) (by omega) dL_law_1561 ?_
  rw [← ea2]
  refine z_aload_n F dL_law_1562 rfl 2 rfl ?_
  obtain ⟨f0, ho⟩ := H.o
  refine z_callSW (nA := 4) (As := [vR (gc 0), vI a1, vI a2, vR ao]) (st := []) F (mL_daySeconds l G N0 h hl9 gc ρ hc ao f0 a1 a2 T.2.2.1 T.2.2.2.1 H.c ho H.co ra1 ra2) (hcw _ cw_daySeconds) ⟨⟨q1151, q1152, q0⟩, by decide, by decide, by decide +kernel⟩ rfl rfl ⟨le_f (Nat.le_of_ble_eq_true rfl), le_l (Nat.le_of_ble_eq_true rfl)⟩ rfl ⟨le_c (by (try simp only []); omega), le_s (by (try simp only []); omega)⟩ dL_law_1563 ?_
  intro r1 H1 p1
  obtain ⟨z1, hc1, w1, W1⟩ : ∃ (z1 : Int) (hc1 : Hp), r1 = some (vI z1) ∧ HM H1 hm hc1 ao ad := by
    rcases p1 with ⟨_, _, q1, ρp, h1p, S1, I1, D1, e1⟩ | ⟨_, q1, ρp, h1p, S1, I1, D1, e1⟩ | ⟨_, q1, ρp, h1p, S1, I1, D1, e1⟩
    · exact ⟨_, h1p, q1, by rw [e1]; exact (H.stepC D1).outL _⟩
    · exact ⟨_, h1p, q1, by rw [e1]; exact H.stepC D1⟩
    · exact ⟨_, h1p, q1, by rw [e1]; exact H.stepC D1⟩
  subst w1
  show Z _ _ _ _ _ _ _ _ _ _ _ _ _ _ _ _ _ _ _ _ [vI z1]
  refine z_istore (lv' := [(6, vI z1), (5, vI i), (4, vR ad), (3, vR ao), (2, vR (gm 0)), (1, vR (gc 0)), (0, vR b)]) F dL_law_1566 (by decide) rfl ?_
  refine z_aload_n F dL_law_1568 rfl 4 rfl ?_
  refine z_aload_n F dL_law_1569 rfl 6 rfl ?_
  refine z_iload F dL_law_1570 1 rfl ?_
  refine z_iconst F dL_law_1572 ?_
  refine z_iadd F dL_law_1573 ?_
  refine z_sld (xs := xs) F hX hbl hbA (by omega) (by omega) (by omega) dL_law_1574 ?_
  rw [← ea1]
  refine z_aload_n F dL_law_1575 rfl 6 rfl ?_
  refine z_iload F dL_law_1576 1 rfl ?_
  refine z_iconst F dL_law_1578 ?_
  refine z_iadd F dL_law_1579 ?_
  refine z_sld (xs := xs) F hX hbl hbA (by omega) (by omega) (by omega) dL_law_1580 ?_
  rw [← ea2]
  refine z_callV (As := [vI a1, vI a2]) (st := []) F ((mX9_daySeconds l G N0 hm gm σ a1 a2 T.1 T.2.1 T.mv ra1 ra2).frame W1.m) cvL_238 (W1.m _ _ (mI T.1 0 rfl)) (fun r9 h9 => by cases h9; rfl) rfl rfl ⟨le_f (Nat.le_of_ble_eq_true rfl), le_l (Nat.le_of_ble_eq_true rfl)⟩ rfl ⟨le_c (by (try simp only []); omega), le_s (by (try simp only []); omega)⟩ dL_law_1581 ?_
  intro r2 h2 p2
  obtain ⟨σ1, ρ1, hm1, hc2, v, H', T', q1, q3, q2, q4⟩ := turn_daySeconds H T p1 p2
  cases q1
  subst q2
  show Z _ _ _ _ _ _ _ _ _ _ _ _ _ _ _ _ _ _ _ _ [vI v]
  exact tail_I F hk0 hn0 (by (try simp only []); omega) (by (try simp only []); omega) H' T' q3 q4 dL_law_1584 dL_law_1586 dL_law_1587 dL_law_1590 dL_law_1592 dL_law_1597 dL_law_1599 dL_law_1602 dL_law_1603 dL_law_1604 dL_law_1605 dL_law_1607 dL_law_1608 dL_law_1609 dL_law_1614 (by decide) K
set_option maxHeartbeats 4000000 in
theorem case_daySecondsByMinutes {p : Program} {l : Launch} {e : Env} {s : State} {m : MethodId} {args : Array Value} {below : List Frame} {meth : Method} {c : Code} {G : GG} {N0 : Nat} {A : Nat → Prop} {Q : State → Prop} (F : Fx p s m args meth c RL cL_law 9 G N0 A) {b ao ad L : Nat} {xs : Nat → Int32} {gm : Nat → Nat} {gc : Int → Nat} {i : Int} {k n : Nat} {h hm hc : Hp} {σ ρ : Sg} (hl9 : l.stackTraces = false) (hcw : ∀ w ∈ tables_1, w.before args s = true) (hX : va_X b L xs s s.heap) (hbl : b < s.heap.size) (hbA : ¬ A b) (hL : L ≤ 2560) (hi : 0 ≤ i ∧ i + 5 ≤ L) (hk0 : k + 130 ≤ 603072) (hn0 : n + 12100 ≤ 7198826) (H : HM h hm hc ao ad) (T : RT G gm gc σ ρ hm hc) (K : LK p l e s m args below meth c G N0 A Q b ao ad gm gc i k n) : Z p l e room_1 s m args below meth c 9 G N0 A Q h k n 1617 [(5, vI i), (4, vR ad), (3, vR ao), (2, vR (gm 0)), (1, vR (gc 0)), (0, vR b)] [] := by
  obtain ⟨a1, ea1⟩ : ∃ z, z = (xs (i + 1).toNat).toInt := ⟨_, rfl⟩
  have ra1 : -2147483648 ≤ a1 ∧ a1 < 2147483648 := by rw [ea1]; exact iI_rng _
  obtain ⟨a2, ea2⟩ : ∃ z, z = (xs (i + 2).toNat).toInt := ⟨_, rfl⟩
  have ra2 : -2147483648 ≤ a2 ∧ a2 < 2147483648 := by rw [ea2]; exact iI_rng _
  refine z_aload_n F dL_law_1617 rfl 4 rfl ?_
  refine z_aload_n F dL_law_1618 rfl 5 rfl ?_
  refine z_iload F dL_law_1619 0 rfl ?_
  refine z_iconst F dL_law_1621 ?_
  refine z_iadd F dL_law_1622 ?_
  refine z_sld (xs := xs) F hX hbl hbA (by omega) (by omega) (by omega) dL_law_1623 ?_
  rw [← ea1]
  refine z_aload_n F dL_law_1624 rfl 5 rfl ?_
  refine z_iload F dL_law_1625 0 rfl ?_
  refine z_iconst F dL_law_1627 ?_
  refine z_iadd F dL_law_1628 ?_
  refine z_sld (xs := xs) F hX hbl hbA (by omega) (by omega) (by omega) dL_law_1629 ?_
  rw [← ea2]
  refine z_aload_n F dL_law_1630 rfl 2 rfl ?_
  obtain ⟨f0, ho⟩ := H.o
  refine z_callSW (nA := 4) (As := [vR (gc 0), vI a1, vI a2, vR ao]) (st := []) F (mL_daySecondsByMinutes l G N0 h hl9 gc ρ hc ao f0 a1 a2 T.2.2.1 T.2.2.2.1 H.c ho H.co ra1 ra2) (hcw _ cw_daySecondsByMinutes) ⟨⟨q1178, q1179, q0⟩, by decide, by decide, by decide +kernel⟩ rfl rfl ⟨le_f (Nat.le_of_ble_eq_true rfl), le_l (Nat.le_of_ble_eq_true rfl)⟩ rfl ⟨le_c (by (try simp only []); omega), le_s (by (try simp only []); omega)⟩ dL_law_1631 ?_
  intro r1 H1 p1
  obtain ⟨z1, hc1, w1, W1⟩ : ∃ (z1 : Int) (hc1 : Hp), r1 = some (vI z1) ∧ HM H1 hm hc1 ao ad := by
    rcases p1 with ⟨_, _, q1, ρp, h1p, S1, I1, D1, e1⟩ | ⟨_, q1, ρp, h1p, S1, I1, D1, e1⟩ | ⟨_, q1, ρp, h1p, S1, I1, D1, e1⟩
    · exact ⟨_, h1p, q1, by rw [e1]; exact (H.stepC D1).outL _⟩
    · exact ⟨_, h1p, q1, by rw [e1]; exact H.stepC D1⟩
    · exact ⟨_, h1p, q1, by rw [e1]; exact H.stepC D1⟩
  subst w1
  show Z _ _ _ _ _ _ _ _ _ _ _ _ _ _ _ _ _ _ _ _ [vI z1]
  refine z_istore (lv' := [(6, vI z1), (5, vI i), (4, vR ad), (3, vR ao), (2, vR (gm 0)), (1, vR (gc 0)), (0, vR b)]) F dL_law_1634 (by decide) rfl ?_
  refine z_aload_n F dL_law_1636 rfl 4 rfl ?_
  refine z_aload_n F dL_law_1637 rfl 6 rfl ?_
  refine z_iload F dL_law_1638 1 rfl ?_
  refine z_iconst F dL_law_1640 ?_
  refine z_iadd F dL_law_1641 ?_
  refine z_sld (xs := xs) F hX hbl hbA (by omega) (by omega) (by omega) dL_law_1642 ?_
  rw [← ea1]
  refine z_aload_n F dL_law_1643 rfl 6 rfl ?_
  refine z_iload F dL_law_1644 1 rfl ?_
  refine z_iconst F dL_law_1646 ?_
  refine z_iadd F dL_law_1647 ?_
  refine z_sld (xs := xs) F hX hbl hbA (by omega) (by omega) (by omega) dL_law_1648 ?_
  rw [← ea2]
  refine z_callV (As := [vI a1, vI a2]) (st := []) F ((mX9_daySecondsByMinutes l G N0 hm gm σ a1 a2 T.1 T.2.1 T.mv ra1 ra2).frame W1.m) cvL_241 (W1.m _ _ (mI T.1 0 rfl)) (fun r9 h9 => by cases h9; rfl) rfl rfl ⟨le_f (Nat.le_of_ble_eq_true rfl), le_l (Nat.le_of_ble_eq_true rfl)⟩ rfl ⟨le_c (by (try simp only []); omega), le_s (by (try simp only []); omega)⟩ dL_law_1649 ?_
  intro r2 h2 p2
  obtain ⟨σ1, ρ1, hm1, hc2, v, H', T', q1, q3, q2, q4⟩ := turn_daySecondsByMinutes H T p1 p2
  cases q1
  subst q2
  show Z _ _ _ _ _ _ _ _ _ _ _ _ _ _ _ _ _ _ _ _ [vI v]
  exact tail_I F hk0 hn0 (by (try simp only []); omega) (by (try simp only []); omega) H' T' q3 q4 dL_law_1652 dL_law_1654 dL_law_1655 dL_law_1658 dL_law_1660 dL_law_1665 dL_law_1667 dL_law_1670 dL_law_1671 dL_law_1672 dL_law_1673 dL_law_1675 dL_law_1676 dL_law_1677 dL_law_1682 (by decide) K
set_option maxHeartbeats 4000000 in
theorem case_openMinutes {p : Program} {l : Launch} {e : Env} {s : State} {m : MethodId} {args : Array Value} {below : List Frame} {meth : Method} {c : Code} {G : GG} {N0 : Nat} {A : Nat → Prop} {Q : State → Prop} (F : Fx p s m args meth c RL cL_law 9 G N0 A) {b ao ad L : Nat} {xs : Nat → Int32} {gm : Nat → Nat} {gc : Int → Nat} {i : Int} {k n : Nat} {h hm hc : Hp} {σ ρ : Sg} (hl9 : l.stackTraces = false) (hcw : ∀ w ∈ tables_1, w.before args s = true) (hX : va_X b L xs s s.heap) (hbl : b < s.heap.size) (hbA : ¬ A b) (hL : L ≤ 2560) (hi : 0 ≤ i ∧ i + 5 ≤ L) (hk0 : k + 130 ≤ 603072) (hn0 : n + 12100 ≤ 7198826) (H : HM h hm hc ao ad) (T : RT G gm gc σ ρ hm hc) (K : LK p l e s m args below meth c G N0 A Q b ao ad gm gc i k n) : Z p l e room_1 s m args below meth c 9 G N0 A Q h k n 1685 [(5, vI i), (4, vR ad), (3, vR ao), (2, vR (gm 0)), (1, vR (gc 0)), (0, vR b)] [] := by
  obtain ⟨a1, ea1⟩ : ∃ z, z = (xs (i + 1).toNat).toInt := ⟨_, rfl⟩
  have ra1 : -2147483648 ≤ a1 ∧ a1 < 2147483648 := by rw [ea1]; exact iI_rng _
  refine z_aload_n F dL_law_1685 rfl 4 rfl ?_
  refine z_aload_n F dL_law_1686 rfl 5 rfl ?_
  refine z_iload F dL_law_1687 0 rfl ?_
  refine z_iconst F dL_law_1689 ?_
  refine z_iadd F dL_law_1690 ?_
  refine z_sld (xs := xs) F hX hbl hbA (by omega) (by omega) (by omega) dL_law_1691 ?_
  rw [← ea1]
  refine z_aload_n F dL_law_1692 rfl 2 rfl ?_
  obtain ⟨f0, ho⟩ := H.o
  refine z_callSW (nA := 3) (As := [vR (gc 0), vI a1, vR ao]) (st := []) F (mL_openMinutes l G N0 h hl9 gc ρ hc ao f0 a1 T.2.2.1 T.2.2.2.1 H.c ho H.co ra1) (hcw _ cw_openMinutes) ⟨⟨q1185, q1186, q0⟩, by decide, by decide, by decide +kernel⟩ rfl rfl ⟨le_f (Nat.le_of_ble_eq_true rfl), le_l (Nat.le_of_ble_eq_true rfl)⟩ rfl ⟨le_c (by (try simp only []); omega), le_s (by (try simp only []); omega)⟩ dL_law_1693 ?_
  intro r1 H1 p1
  obtain ⟨z1, hc1, w1, W1⟩ : ∃ (z1 : Int) (hc1 : Hp), r1 = some (vI z1) ∧ HM H1 hm hc1 ao ad := by
    rcases p1 with ⟨_, q1, ρp, h1p, S1, I1, D1, e1⟩ | ⟨_, q1, ρp, h1p, S1, I1, D1, e1⟩
    · exact ⟨_, h1p, q1, by rw [e1]; exact (H.stepC D1).outL _⟩
    · exact ⟨_, h1p, q1, by rw [e1]; exact H.stepC D1⟩
  subst w1
  show Z _ _ _ _ _ _ _ _ _ _ _ _ _ _ _ _ _ _ _ _ [vI z1]
  refine z_istore (lv' := [(6, vI z1), (5, vI i), (4, vR ad), (3, vR ao), (2, vR (gm 0)), (1, vR (gc 0)), (0, vR b)]) F dL_law_1696 (by decide) rfl ?_
  refine z_aload_n F dL_law_1698 rfl 4 rfl ?_
  refine z_aload_n F dL_law_1699 rfl 6 rfl ?_
  refine z_iload F dL_law_1700 1 rfl ?_
  refine z_iconst F dL_law_1702 ?_
  refine z_iadd F dL_law_1703 ?_
  refine z_sld (xs := xs) F hX hbl hbA (by omega) (by omega) (by omega) dL_law_1704 ?_
  rw [← ea1]
  refine z_callV (As := [vI a1]) (st := []) F ((mX9_openMinutes l G N0 hm gm σ a1 T.1 T.2.1 T.mv ra1).frame W1.m) cvL_244 (W1.m _ _ (mI T.1 0 rfl)) (fun r9 h9 => by cases h9; rfl) rfl rfl ⟨le_f (Nat.le_of_ble_eq_true rfl), le_l (Nat.le_of_ble_eq_true rfl)⟩ rfl ⟨le_c (by (try simp only []); omega), le_s (by (try simp only []); omega)⟩ dL_law_1705 ?_
  intro r2 h2 p2
  obtain ⟨σ1, ρ1, hm1, hc2, v, H', T', q1, q3, q2, q4⟩ := turn_openMinutes H T p1 p2
  cases q1
  subst q2
  show Z _ _ _ _ _ _ _ _ _ _ _ _ _ _ _ _ _ _ _ _ [vI v]
  exact tail_I F hk0 hn0 (by (try simp only []); omega) (by (try simp only []); omega) H' T' q3 q4 dL_law_1708 dL_law_1710 dL_law_1711 dL_law_1714 dL_law_1716 dL_law_1721 dL_law_1723 dL_law_1726 dL_law_1727 dL_law_1728 dL_law_1729 dL_law_1731 dL_law_1732 dL_law_1733 dL_law_1738 (by decide) K
set_option maxHeartbeats 4000000 in
theorem case_openMinutesByLines {p : Program} {l : Launch} {e : Env} {s : State} {m : MethodId} {args : Array Value} {below : List Frame} {meth : Method} {c : Code} {G : GG} {N0 : Nat} {A : Nat → Prop} {Q : State → Prop} (F : Fx p s m args meth c RL cL_law 9 G N0 A) {b ao ad L : Nat} {xs : Nat → Int32} {gm : Nat → Nat} {gc : Int → Nat} {i : Int} {k n : Nat} {h hm hc : Hp} {σ ρ : Sg} (hl9 : l.stackTraces = false) (hcw : ∀ w ∈ tables_1, w.before args s = true) (hX : va_X b L xs s s.heap) (hbl : b < s.heap.size) (hbA : ¬ A b) (hL : L ≤ 2560) (hi : 0 ≤ i ∧ i + 5 ≤ L) (hk0 : k + 130 ≤ 603072) (hn0 : n + 12100 ≤ 7198826) (H : HM h hm hc ao ad) (T : RT G gm gc σ ρ hm hc) (K : LK p l e s m args below meth c G N0 A Q b ao ad gm gc i k n) : Z p l e room_1 s m args below meth c 9 G N0 A Q h k n 1741 [(5, vI i), (4, vR ad), (3, vR ao), (2, vR (gm 0)), (1, vR (gc 0)), (0, vR b)] [] := by
  obtain ⟨a1, ea1⟩ : ∃ z, z = (xs (i + 1).toNat).toInt := ⟨_, rfl⟩
  have ra1 : -2147483648 ≤ a1 ∧ a1 < 2147483648 := by rw [ea1]; exact iI_rng _
  refine z_aload_n F dL_law_1741 rfl 4 rfl ?_
  refine z_aload_n F dL_law_1742 rfl 5 rfl ?_
  refine z_iload F dL_law_1743 0 rfl ?_
  refine z_iconst F dL_law_1745 ?_
  refine z_iadd F dL_law_1746 ?_
  refine z_sld (xs := xs) F hX hbl hbA (by omega) (by omega) (by omega) dL_law_1747 ?_
  rw [← ea1]
  refine z_aload_n F dL_law_1748 rfl 2 rfl ?_
  obtain ⟨f0, ho⟩ := H.o
  refine z_callSW (nA := 3) (As := [vR (gc 0), vI a1, vR ao]) (st := []) F (mL_openMinutesByLines l G N0 h hl9 gc ρ hc ao f0 a1 T.2.2.1 T.2.2.2.1 H.c ho H.co ra1) (hcw _ cw_openMinutesByLines) ⟨⟨q1192, q1193, q0⟩, by decide, by decide, by decide +kernel⟩ rfl rfl ⟨le_f (Nat.le_of_ble_eq_true rfl), le_l (Nat.le_of_ble_eq_true rfl)⟩ rfl ⟨le_c (by (try simp only []); omega), le_s (by (try simp only []); omega)⟩ dL_law_1749 ?_
  intro r1 H1 p1
  obtain ⟨z1, hc1, w1, W1⟩ : ∃ (z1 : Int) (hc1 : Hp), r1 = some (vI z1) ∧ HM H1 hm hc1 ao ad := by
    rcases p1 with ⟨_, q1, ρp, h1p, S1, I1, D1, e1⟩ | ⟨_, q1, ρp, h1p, S1, I1, D1, e1⟩
    · exact ⟨_, h1p, q1, by rw [e1]; exact (H.stepC D1).outL _⟩
    · exact ⟨_, h1p, q1, by rw [e1]; exact H.stepC D1⟩
  subst w1
  show Z _ _ _ _ _ _ _ _ _ _ _ _ _ _ _ _ _ _ _ _ [vI z1]
  refine z_istore (lv' := [(6, vI z1), (5, vI i), (4, vR ad), (3, vR ao), (2, vR (gm 0)), (1, vR (gc 0)), (0, vR b)]) F dL_law_1752 (by decide) rfl ?_
  refine z_aload_n F dL_law_1754 rfl 4 rfl ?_
  refine z_aload_n F dL_law_1755 rfl 6 rfl ?_
  refine z_iload F dL_law_1756 1 rfl ?_
  refine z_iconst F dL_law_1758 ?_
  refine z_iadd F dL_law_1759 ?_
  refine z_sld (xs := xs) F hX hbl hbA (by omega) (by omega) (by omega) dL_law_1760 ?_
  rw [← ea1]
  refine z_callV (As := [vI a1]) (st := []) F ((mX9_openMinutesByLines l G N0 hm gm σ a1 T.1 T.2.1 T.mv ra1).frame W1.m) cvL_247 (W1.m _ _ (mI T.1 0 rfl)) (fun r9 h9 => by cases h9; rfl) rfl rfl ⟨le_f (Nat.le_of_ble_eq_true rfl), le_l (Nat.le_of_ble_eq_true rfl)⟩ rfl ⟨le_c (by (try simp only []); omega), le_s (by (try simp only []); omega)⟩ dL_law_1761 ?_
  intro r2 h2 p2
  obtain ⟨σ1, ρ1, hm1, hc2, v, H', T', q1, q3, q2, q4⟩ := turn_openMinutesByLines H T p1 p2
  cases q1
  subst q2
  show Z _ _ _ _ _ _ _ _ _ _ _ _ _ _ _ _ _ _ _ _ [vI v]
  exact tail_I F hk0 hn0 (by (try simp only []); omega) (by (try simp only []); omega) H' T' q3 q4 dL_law_1764 dL_law_1766 dL_law_1767 dL_law_1770 dL_law_1772 dL_law_1777 dL_law_1779 dL_law_1782 dL_law_1783 dL_law_1784 dL_law_1785 dL_law_1787 dL_law_1788 dL_law_1789 dL_law_1794 (by decide) K
set_option maxHeartbeats 4000000 in
theorem case_invoice {p : Program} {l : Launch} {e : Env} {s : State} {m : MethodId} {args : Array Value} {below : List Frame} {meth : Method} {c : Code} {G : GG} {N0 : Nat} {A : Nat → Prop} {Q : State → Prop} (F : Fx p s m args meth c RL cL_law 9 G N0 A) {b ao ad L : Nat} {xs : Nat → Int32} {gm : Nat → Nat} {gc : Int → Nat} {i : Int} {k n : Nat} {h hm hc : Hp} {σ ρ : Sg} (hl9 : l.stackTraces = false) (hcw : ∀ w ∈ tables_1, w.before args s = true) (hX : va_X b L xs s s.heap) (hbl : b < s.heap.size) (hbA : ¬ A b) (hL : L ≤ 2560) (hi : 0 ≤ i ∧ i + 5 ≤ L) (hk0 : k + 130 ≤ 603072) (hn0 : n + 12100 ≤ 7198826) (H : HM h hm hc ao ad) (T : RT G gm gc σ ρ hm hc) (K : LK p l e s m args below meth c G N0 A Q b ao ad gm gc i k n) : Z p l e room_1 s m args below meth c 9 G N0 A Q h k n 1797 [(5, vI i), (4, vR ad), (3, vR ao), (2, vR (gm 0)), (1, vR (gc 0)), (0, vR b)] [] := by
  obtain ⟨a1, ea1⟩ : ∃ z, z = (xs (i + 1).toNat).toInt := ⟨_, rfl⟩
  have ra1 : -2147483648 ≤ a1 ∧ a1 < 2147483648 := by rw [ea1]; exact iI_rng _
  refine z_aload_n F dL_law_1797 rfl 4 rfl ?_
  refine z_aload_n F dL_law_1798 rfl 5 rfl ?_
  refine z_iload F dL_law_1799 0 rfl ?_
  refine z_iconst F dL_law_1801 ?_
  refine z_iadd F dL_law_1802 ?_
  refine z_sld (xs := xs) F hX hbl hbA (by omega) (by omega) (by omega) dL_law_1803 ?_
  rw [← ea1]
  refine z_aload_n F dL_law_1804 rfl 2 rfl ?_
  obtain ⟨f0, ho⟩ := H.o
  refine z_callSW (nA := 3) (As := [vR (gc 0), vI a1, vR ao]) (st := []) F (mL_invoice l G N0 h hl9 gc ρ hc ao f0 a1 T.2.2.1 T.2.2.2.1 H.c ho H.co ra1) (hcw _ cw_invoice) ⟨⟨q1199, q1200, q0⟩, by decide, by decide, by decide +kernel⟩ rfl rfl ⟨le_f (Nat.le_of_ble_eq_true rfl), le_l (Nat.le_of_ble_eq_true rfl)⟩ rfl ⟨le_c (by (try simp only []); omega), le_s (by (try simp only []); omega)⟩ dL_law_1805 ?_
  intro r1 H1 p1
  obtain ⟨z1, hc1, w1, W1⟩ : ∃ (z1 : Int) (hc1 : Hp), r1 = some (vI z1) ∧ HM H1 hm hc1 ao ad := by
    rcases p1 with ⟨_, _, q1, ρp, h1p, S1, I1, D1, e1⟩ | ⟨_, q1, ρp, h1p, S1, I1, D1, e1⟩ | ⟨_, q1, ρp, h1p, S1, I1, D1, e1⟩
    · exact ⟨_, h1p, q1, by rw [e1]; exact (H.stepC D1).outL _⟩
    · exact ⟨_, h1p, q1, by rw [e1]; exact H.stepC D1⟩
    · exact ⟨_, h1p, q1, by rw [e1]; exact H.stepC D1⟩
  subst w1
  show Z _ _ _ _ _ _ _ _ _ _ _ _ _ _ _ _ _ _ _ _ [vI z1]
  refine z_istore (lv' := [(6, vI z1), (5, vI i), (4, vR ad), (3, vR ao), (2, vR (gm 0)), (1, vR (gc 0)), (0, vR b)]) F dL_law_1808 (by decide) rfl ?_
  refine z_aload_n F dL_law_1810 rfl 4 rfl ?_
  refine z_aload_n F dL_law_1811 rfl 6 rfl ?_
  refine z_iload F dL_law_1812 1 rfl ?_
  refine z_iconst F dL_law_1814 ?_
  refine z_iadd F dL_law_1815 ?_
  refine z_sld (xs := xs) F hX hbl hbA (by omega) (by omega) (by omega) dL_law_1816 ?_
  rw [← ea1]
  refine z_callV (As := [vI a1]) (st := []) F ((mX9_invoice l G N0 hm gm σ a1 T.1 T.2.1 T.mv ra1).frame W1.m) cvL_250 (W1.m _ _ (mI T.1 0 rfl)) (fun r9 h9 => by cases h9; rfl) rfl rfl ⟨le_f (Nat.le_of_ble_eq_true rfl), le_l (Nat.le_of_ble_eq_true rfl)⟩ rfl ⟨le_c (by (try simp only []); omega), le_s (by (try simp only []); omega)⟩ dL_law_1817 ?_
  intro r2 h2 p2
  obtain ⟨σ1, ρ1, hm1, hc2, v, H', T', q1, q3, q2, q4⟩ := turn_invoice H T p1 p2
  cases q1
  subst q2
  show Z _ _ _ _ _ _ _ _ _ _ _ _ _ _ _ _ _ _ _ _ [vI v]
  exact tail_I F hk0 hn0 (by (try simp only []); omega) (by (try simp only []); omega) H' T' q3 q4 dL_law_1820 dL_law_1822 dL_law_1823 dL_law_1826 dL_law_1828 dL_law_1833 dL_law_1835 dL_law_1838 dL_law_1839 dL_law_1840 dL_law_1841 dL_law_1843 dL_law_1844 dL_law_1845 dL_law_1850 (by decide) K
set_option maxHeartbeats 4000000 in
theorem case_invoices {p : Program} {l : Launch} {e : Env} {s : State} {m : MethodId} {args : Array Value} {below : List Frame} {meth : Method} {c : Code} {G : GG} {N0 : Nat} {A : Nat → Prop} {Q : State → Prop} (F : Fx p s m args meth c RL cL_law 9 G N0 A) {b ao ad L : Nat} {xs : Nat → Int32} {gm : Nat → Nat} {gc : Int → Nat} {i : Int} {k n : Nat} {h hm hc : Hp} {σ ρ : Sg} (hl9 : l.stackTraces = false) (hcw : ∀ w ∈ tables_1, w.before args s = true) (hX : va_X b L xs s s.heap) (hbl : b < s.heap.size) (hbA : ¬ A b) (hL : L ≤ 2560) (hi : 0 ≤ i ∧ i + 5 ≤ L) (hk0 : k + 130 ≤ 603072) (hn0 : n + 12100 ≤ 7198826) (H : HM h hm hc ao ad) (T : RT G gm gc σ ρ hm hc) (K : LK p l e s m args below meth c G N0 A Q b ao ad gm gc i k n) : Z p l e room_1 s m args below meth c 9 G N0 A Q h k n 1853 [(5, vI i), (4, vR ad), (3, vR ao), (2, vR (gm 0)), (1, vR (gc 0)), (0, vR b)] [] := by
  refine z_aload_n F dL_law_1853 rfl 4 rfl ?_
  refine z_callV (As := []) (st := []) F ((mX8_invoices l G N0 hc gc ρ T.2.2.1 T.2.2.2.1).frame H.c) cvL_251 (H.c _ _ (ci_0 T.2.2.1)) (fun r9 h9 => by cases h9; rfl) rfl rfl ⟨le_f (Nat.le_of_ble_eq_true rfl), le_l (Nat.le_of_ble_eq_true rfl)⟩ rfl ⟨le_c (by (try simp only []); omega), le_s (by (try simp only []); omega)⟩ dL_law_1854 ?_
  rintro _ h9 ⟨h1p, ⟨rfl, e9⟩, -, rfl⟩
  rw [e9, mgH_self H.c]
  show Z _ _ _ _ _ _ _ _ _ _ _ _ _ _ _ _ _ _ _ _ [vI (ρ 16 0)]
  refine z_aload_n F dL_law_1857 rfl 3 rfl ?_
  refine z_callV (As := []) (st := [vI (ρ 16 0)]) F ((mX9_invoices l G N0 hm gm σ T.1 T.2.1).frame H.m) cvL_254 (H.m _ _ (mI T.1 0 rfl)) (fun r9 h9 => by cases h9; rfl) rfl rfl ⟨le_f (Nat.le_of_ble_eq_true rfl), le_l (Nat.le_of_ble_eq_true rfl)⟩ rfl ⟨le_c (by (try simp only []); omega), le_s (by (try simp only []); omega)⟩ dL_law_1858 ?_
  rintro _ h9 ⟨hm1, ⟨rfl, mi⟩, D2, rfl⟩
  show Z _ _ _ _ _ _ _ _ _ _ _ _ _ _ _ _ _ _ _ _ [vI (σ 16 0), vI (ρ 16 0)]
  refine z_icmp_eq (tgt := 2785) F dL_law_1861 (by decide) (by rw [← T.2.2.2.2.1.e 16]; exact T.2.1 16 0) (T.2.1 16 0) (fun _ => ?_) (fun c9 => absurd (by rw [T.2.2.2.2.1.e 16]) c9)
  exact K _ _ _ (su σ 30 0 0) ρ hm1 hc (by (try simp only []); omega) (by (try simp only []); omega) (H.stepM D2) (T.same mi (rg_su T.2.1 (by decide)) T.2.2.1 (SA.refl ρ) (fun k n1 n2 n3 => by funext j; exact su_n n3))
set_option maxHeartbeats 4000000 in
theorem case_lines {p : Program} {l : Launch} {e : Env} {s : State} {m : MethodId} {args : Array Value} {below : List Frame} {meth : Method} {c : Code} {G : GG} {N0 : Nat} {A : Nat → Prop} {Q : State → Prop} (F : Fx p s m args meth c RL cL_law 9 G N0 A) {b ao ad L : Nat} {xs : Nat → Int32} {gm : Nat → Nat} {gc : Int → Nat} {i : Int} {k n : Nat} {h hm hc : Hp} {σ ρ : Sg} (hl9 : l.stackTraces = false) (hcw : ∀ w ∈ tables_1, w.before args s = true) (hX : va_X b L xs s s.heap) (hbl : b < s.heap.size) (hbA : ¬ A b) (hL : L ≤ 2560) (hi : 0 ≤ i ∧ i + 5 ≤ L) (hk0 : k + 130 ≤ 603072) (hn0 : n + 12100 ≤ 7198826) (H : HM h hm hc ao ad) (T : RT G gm gc σ ρ hm hc) (K : LK p l e s m args below meth c G N0 A Q b ao ad gm gc i k n) : Z p l e room_1 s m args below meth c 9 G N0 A Q h k n 1866 [(5, vI i), (4, vR ad), (3, vR ao), (2, vR (gm 0)), (1, vR (gc 0)), (0, vR b)] [] := by
  obtain ⟨a1, ea1⟩ : ∃ z, z = (xs (i + 1).toNat).toInt := ⟨_, rfl⟩
  have ra1 : -2147483648 ≤ a1 ∧ a1 < 2147483648 := by rw [ea1]; exact iI_rng _
  refine z_aload_n F dL_law_1866 rfl 4 rfl ?_
  refine z_aload_n F dL_law_1867 rfl 5 rfl ?_
  refine z_iload F dL_law_1868 0 rfl ?_
  refine z_iconst F dL_law_1870 ?_
  refine z_iadd F dL_law_1871 ?_
  refine z_sld (xs := xs) F hX hbl hbA (by omega) (by omega) (by omega) dL_law_1872 ?_
  rw [← ea1]
  refine z_aload_n F dL_law_1873 rfl 2 rfl ?_
  obtain ⟨f0, ho⟩ := H.o
  refine z_callSW (nA := 3) (As := [vR (gc 0), vI a1, vR ao]) (st := []) F (mL_lines l G N0 h hl9 gc ρ hc ao f0 a1 T.2.2.1 T.2.2.2.1 H.c ho H.co ra1) (hcw _ cw_lines) ⟨⟨q1292, q1293, q0⟩, by decide, by decide, by decide +kernel⟩ rfl rfl ⟨le_f (Nat.le_of_ble_eq_true rfl), le_l (Nat.le_of_ble_eq_true rfl)⟩ rfl ⟨le_c (by (try simp only []); omega), le_s (by (try simp only []); omega)⟩ dL_law_1874 ?_
  intro r1 H1 p1
  obtain ⟨z1, hc1, w1, W1⟩ : ∃ (z1 : Int) (hc1 : Hp), r1 = some (vI z1) ∧ HM H1 hm hc1 ao ad := by
    rcases p1 with ⟨_, q1, ρp, h1p, S1, I1, D1, e1⟩ | ⟨_, q1, ρp, h1p, S1, I1, D1, e1⟩
    · exact ⟨_, h1p, q1, by rw [e1]; exact (H.stepC D1).outL _⟩
    · exact ⟨_, h1p, q1, by rw [e1]; exact H.stepC D1⟩
  subst w1
  show Z _ _ _ _ _ _ _ _ _ _ _ _ _ _ _ _ _ _ _ _ [vI z1]
  refine z_istore (lv' := [(6, vI z1), (5, vI i), (4, vR ad), (3, vR ao), (2, vR (gm 0)), (1, vR (gc 0)), (0, vR b)]) F dL_law_1877 (by decide) rfl ?_
  refine z_aload_n F dL_law_1879 rfl 4 rfl ?_
  refine z_aload_n F dL_law_1880 rfl 6 rfl ?_
  refine z_iload F dL_law_1881 1 rfl ?_
  refine z_iconst F dL_law_1883 ?_
  refine z_iadd F dL_law_1884 ?_
  refine z_sld (xs := xs) F hX hbl hbA (by omega) (by omega) (by omega) dL_law_1885 ?_
  rw [← ea1]
  refine z_callV (As := [vI a1]) (st := []) F ((mX9_lines l G N0 hm gm σ a1 T.1 T.2.1 T.mv ra1).frame W1.m) cvL_257 (W1.m _ _ (mI T.1 0 rfl)) (fun r9 h9 => by cases h9; rfl) rfl rfl ⟨le_f (Nat.le_of_ble_eq_true rfl), le_l (Nat.le_of_ble_eq_true rfl)⟩ rfl ⟨le_c (by (try simp only []); omega), le_s (by (try simp only []); omega)⟩ dL_law_1886 ?_
  intro r2 h2 p2
  obtain ⟨σ1, ρ1, hm1, hc2, v, H', T', q1, q3, q2, q4⟩ := turn_lines H T p1 p2
  cases q1
  subst q2
  show Z _ _ _ _ _ _ _ _ _ _ _ _ _ _ _ _ _ _ _ _ [vI v]
  exact tail_I F hk0 hn0 (by (try simp only []); omega) (by (try simp only []); omega) H' T' q3 q4 dL_law_1889 dL_law_1891 dL_law_1892 dL_law_1895 dL_law_1897 dL_law_1902 dL_law_1904 dL_law_1907 dL_law_1908 dL_law_1909 dL_law_1910 dL_law_1912 dL_law_1913 dL_law_1914 dL_law_1919 (by decide) K
set_option maxHeartbeats 4000000 in
theorem case_lineKind {p : Program} {l : Launch} {e : Env} {s : State} {m : MethodId} {args : Array Value} {below : List Frame} {meth : Method} {c : Code} {G : GG} {N0 : Nat} {A : Nat → Prop} {Q : State → Prop} (F : Fx p s m args meth c RL cL_law 9 G N0 A) {b ao ad L : Nat} {xs : Nat → Int32} {gm : Nat → Nat} {gc : Int → Nat} {i : Int} {k n : Nat} {h hm hc : Hp} {σ ρ : Sg} (hl9 : l.stackTraces = false) (hcw : ∀ w ∈ tables_1, w.before args s = true) (hX : va_X b L xs s s.heap) (hbl : b < s.heap.size) (hbA : ¬ A b) (hL : L ≤ 2560) (hi : 0 ≤ i ∧ i + 5 ≤ L) (hk0 : k + 130 ≤ 603072) (hn0 : n + 12100 ≤ 7198826) (H : HM h hm hc ao ad) (T : RT G gm gc σ ρ hm hc) (K : LK p l e s m args below meth c G N0 A Q b ao ad gm gc i k n) : Z p l e room_1 s m args below meth c 9 G N0 A Q h k n 1922 [(5, vI i), (4, vR ad), (3, vR ao), (2, vR (gm 0)), (1, vR (gc 0)), (0, vR b)] [] := by
  obtain ⟨a1, ea1⟩ : ∃ z, z = (xs (i + 1).toNat).toInt := ⟨_, rfl⟩
  have ra1 : -2147483648 ≤ a1 ∧ a1 < 2147483648 := by rw [ea1]; exact iI_rng _
  obtain ⟨a2, ea2⟩ : ∃ z, z = (xs (i + 2).toNat).toInt := ⟨_, rfl⟩
  have ra2 : -2147483648 ≤ a2 ∧ a2 < 2147483648 := by rw [ea2]; exact iI_rng _
  refine z_aload_n F dL_law_1922 rfl 4 rfl ?_
  refine z_aload_n F dL_law_1923 rfl 5 rfl ?_
  refine z_iload F dL_law_1924 0 rfl ?_
  refine z_iconst F dL_law_1926 ?_
  refine z_iadd F dL_law_1927 ?_
  refine z_sld (xs := xs) F hX hbl hbA (by omega) (by omega) (by omega) dL_law_1928 ?_
  rw [← ea1]
  refine z_aload_n F dL_law_1929 rfl 5 rfl ?_
  refine z_iload F dL_law_1930 0 rfl ?_
  refine z_iconst F dL_law_1932 ?_
  refine z_iadd F dL_law_1933 ?_
  refine z_sld (xs := xs) F hX hbl hbA (by omega) (by omega) (by omega) dL_law_1934 ?_
  rw [← ea2]
  refine z_aload_n F dL_law_1935 rfl 2 rfl ?_
  obtain ⟨f0, ho⟩ := H.o
  refine z_callSW (nA := 4) (As := [vR (gc 0), vI a1, vI a2, vR ao]) (st := []) F (mL_lineKind l G N0 h hl9 gc ρ hc ao f0 a1 a2 T.2.2.1 T.2.2.2.1 H.c ho H.co ra1 ra2) (hcw _ cw_lineKind) ⟨⟨q1304, q1305, q0⟩, by decide, by decide, by decide +kernel⟩ rfl rfl ⟨le_f (Nat.le_of_ble_eq_true rfl), le_l (Nat.le_of_ble_eq_true rfl)⟩ rfl ⟨le_c (by (try simp only []); omega), le_s (by (try simp only []); omega)⟩ dL_law_1936 ?_
  intro r1 H1 p1
  obtain ⟨z1, hc1, w1, W1⟩ : ∃ (z1 : Int) (hc1 : Hp), r1 = some (vI z1) ∧ HM H1 hm hc1 ao ad := by
    rcases p1 with ⟨_, q1, ρp, h1p, S1, I1, D1, e1⟩ | ⟨_, q1, ρp, h1p, S1, I1, D1, e1⟩
    · exact ⟨_, h1p, q1, by rw [e1]; exact (H.stepC D1).outL _⟩
    · exact ⟨_, h1p, q1, by rw [e1]; exact H.stepC D1⟩
  subst w1
  show Z _ _ _ _ _ _ _ _ _ _ _ _ _ _ _ _ _ _ _ _ [vI z1]
  refine z_istore (lv' := [(6, vI z1), (5, vI i), (4, vR ad), (3, vR ao), (2, vR (gm 0)), (1, vR (gc 0)), (0, vR b)]) F dL_law_1939 (by decide) rfl ?_
  refine z_aload_n F dL_law_1941 rfl 4 rfl ?_
  refine z_aload_n F dL_law_1942 rfl 6 rfl ?_
  refine z_iload F dL_law_1943 1 rfl ?_
  refine z_iconst F dL_law_1945 ?_
  refine z_iadd F dL_law_1946 ?_
  refine z_sld (xs := xs) F hX hbl hbA (by omega) (by omega) (by omega) dL_law_1947 ?_
  rw [← ea1]
  refine z_aload_n F dL_law_1948 rfl 6 rfl ?_
  refine z_iload F dL_law_1949 1 rfl ?_
  refine z_iconst F dL_law_1951 ?_
  refine z_iadd F dL_law_1952 ?_
  refine z_sld (xs := xs) F hX hbl hbA (by omega) (by omega) (by omega) dL_law_1953 ?_
  rw [← ea2]
  refine z_callV (As := [vI a1, vI a2]) (st := []) F ((mX9_lineKind l G N0 hm gm σ a1 a2 T.1 T.2.1 T.mv ra1 ra2).frame W1.m) cvL_260 (W1.m _ _ (mI T.1 0 rfl)) (fun r9 h9 => by cases h9; rfl) rfl rfl ⟨le_f (Nat.le_of_ble_eq_true rfl), le_l (Nat.le_of_ble_eq_true rfl)⟩ rfl ⟨le_c (by (try simp only []); omega), le_s (by (try simp only []); omega)⟩ dL_law_1954 ?_
  intro r2 h2 p2
  obtain ⟨σ1, ρ1, hm1, hc2, v, H', T', q1, q3, q2, q4⟩ := turn_lineKind H T p1 p2
  cases q1
  subst q2
  show Z _ _ _ _ _ _ _ _ _ _ _ _ _ _ _ _ _ _ _ _ [vI v]
  exact tail_I F hk0 hn0 (by (try simp only []); omega) (by (try simp only []); omega) H' T' q3 q4 dL_law_1957 dL_law_1959 dL_law_1960 dL_law_1963 dL_law_1965 dL_law_1970 dL_law_1972 dL_law_1975 dL_law_1976 dL_law_1977 dL_law_1978 dL_law_1980 dL_law_1981 dL_law_1982 dL_law_1987 (by decide) K
set_option maxHeartbeats 4000000 in
theorem case_lineMinutes {p : Program} {l : Launch} {e : Env} {s : State} {m : MethodId} {args : Array Value} {below : List Frame} {meth : Method} {c : Code} {G : GG} {N0 : Nat} {A : Nat → Prop} {Q : State → Prop} (F : Fx p s m args meth c RL cL_law 9 G N0 A) {b ao ad L : Nat} {xs : Nat → Int32} {gm : Nat → Nat} {gc : Int → Nat} {i : Int} {k n : Nat} {h hm hc : Hp} {σ ρ : Sg} (hl9 : l.stackTraces = false) (hcw : ∀ w ∈ tables_1, w.before args s = true) (hX : va_X b L xs s s.heap) (hbl : b < s.heap.size) (hbA : ¬ A b) (hL : L ≤ 2560) (hi : 0 ≤ i ∧ i + 5 ≤ L) (hk0 : k + 130 ≤ 603072) (hn0 : n + 12100 ≤ 7198826) (H : HM h hm hc ao ad) (T : RT G gm gc σ ρ hm hc) (K : LK p l e s m args below meth c G N0 A Q b ao ad gm gc i k n) : Z p l e room_1 s m args below meth c 9 G N0 A Q h k n 1990 [(5, vI i), (4, vR ad), (3, vR ao), (2, vR (gm 0)), (1, vR (gc 0)), (0, vR b)] [] := by
  obtain ⟨a1, ea1⟩ : ∃ z, z = (xs (i + 1).toNat).toInt := ⟨_, rfl⟩
  have ra1 : -2147483648 ≤ a1 ∧ a1 < 2147483648 := by rw [ea1]; exact iI_rng _
  obtain ⟨a2, ea2⟩ : ∃ z, z = (xs (i + 2).toNat).toInt := ⟨_, rfl⟩
  have ra2 : -2147483648 ≤ a2 ∧ a2 < 2147483648 := by rw [ea2]; exact iI_rng _
  refine z_aload_n F dL_law_1990 rfl 4 rfl ?_
  refine z_aload_n F dL_law_1991 rfl 5 rfl ?_
  refine z_iload F dL_law_1992 0 rfl ?_
  refine z_iconst F dL_law_1994 ?_
  refine z_iadd F dL_law_1995 ?_
  refine z_sld (xs := xs) F hX hbl hbA (by omega) (by omega) (by omega) dL_law_1996 ?_
  rw [← ea1]
  refine z_aload_n F dL_law_1997 rfl 5 rfl ?_
  refine z_iload F dL_law_1998 0 rfl ?_
  refine z_iconst F dL_law_2000 ?_
  refine z_iadd F dL_law_2001 ?_
  refine z_sld (xs := xs) F hX hbl hbA (by omega) (by omega) (by omega) dL_law_2002 ?_
  rw [← ea2]
  refine z_aload_n F dL_law_2003 rfl 2 rfl ?_
  obtain ⟨f0, ho⟩ := H.o
  refine z_callSW (nA := 4) (As := [vR (gc 0), vI a1, vI a2, vR ao]) (st := []) F (mL_lineMinutes l G N0 h hl9 gc ρ hc ao f0 a1 a2 T.2.2.1 T.2.2.2.1 H.c ho H.co ra1 ra2) (hcw _ cw_lineMinutes) ⟨⟨q1317, q1318, q0⟩, by decide, by decide, by decide +kernel⟩ rfl rfl ⟨le_f (Nat.le_of_ble_eq_true rfl), le_l (Nat.le_of_ble_eq_true rfl)⟩ rfl ⟨le_c (by (try simp only []); omega), le_s (by (try simp only []); omega)⟩ dL_law_2004 ?_
  intro r1 H1 p1
  obtain ⟨z1, hc1, w1, W1⟩ : ∃ (z1 : Int) (hc1 : Hp), r1 = some (vI z1) ∧ HM H1 hm hc1 ao ad := by
    rcases p1 with ⟨_, q1, ρp, h1p, S1, I1, D1, e1⟩ | ⟨_, q1, ρp, h1p, S1, I1, D1, e1⟩
    · exact ⟨_, h1p, q1, by rw [e1]; exact (H.stepC D1).outL _⟩
    · exact ⟨_, h1p, q1, by rw [e1]; exact H.stepC D1⟩
  subst w1
  show Z _ _ _ _ _ _ _ _ _ _ _ _ _ _ _ _ _ _ _ _ [vI z1]
  refine z_istore (lv' := [(6, vI z1), (5, vI i), (4, vR ad), (3, vR ao), (2, vR (gm 0)), (1, vR (gc 0)), (0, vR b)]) F dL_law_2007 (by decide) rfl ?_
  refine z_aload_n F dL_law_2009 rfl 4 rfl ?_
  refine z_aload_n F dL_law_2010 rfl 6 rfl ?_
  refine z_iload F dL_law_2011 1 rfl ?_
  refine z_iconst F dL_law_2013 ?_
  refine z_iadd F dL_law_2014 ?_
  refine z_sld (xs := xs) F hX hbl hbA (by omega) (by omega) (by omega) dL_law_2015 ?_
  rw [← ea1]
  refine z_aload_n F dL_law_2016 rfl 6 rfl ?_
  refine z_iload F dL_law_2017 1 rfl ?_
  refine z_iconst F dL_law_2019 ?_
  refine z_iadd F dL_law_2020 ?_
  refine z_sld (xs := xs) F hX hbl hbA (by omega) (by omega) (by omega) dL_law_2021 ?_
  rw [← ea2]
  refine z_callV (As := [vI a1, vI a2]) (st := []) F ((mX9_lineMinutes l G N0 hm gm σ a1 a2 T.1 T.2.1 T.mv ra1 ra2).frame W1.m) cvL_263 (W1.m _ _ (mI T.1 0 rfl)) (fun r9 h9 => by cases h9; rfl) rfl rfl ⟨le_f (Nat.le_of_ble_eq_true rfl), le_l (Nat.le_of_ble_eq_true rfl)⟩ rfl ⟨le_c (by (try simp only []); omega), le_s (by (try simp only []); omega)⟩ dL_law_2022 ?_
  intro r2 h2 p2
  obtain ⟨σ1, ρ1, hm1, hc2, v, H', T', q1, q3, q2, q4⟩ := turn_lineMinutes H T p1 p2
  cases q1
  subst q2
  show Z _ _ _ _ _ _ _ _ _ _ _ _ _ _ _ _ _ _ _ _ [vI v]
  exact tail_I F hk0 hn0 (by (try simp only []); omega) (by (try simp only []); omega) H' T' q3 q4 dL_law_2025 dL_law_2027 dL_law_2028 dL_law_2031 dL_law_2033 dL_law_2038 dL_law_2040 dL_law_2043 dL_law_2044 dL_law_2045 dL_law_2046 dL_law_2048 dL_law_2049 dL_law_2050 dL_law_2055 (by decide) K
set_option maxHeartbeats 4000000 in
theorem case_lineSubject {p : Program} {l : Launch} {e : Env} {s : State} {m : MethodId} {args : Array Value} {below : List Frame} {meth : Method} {c : Code} {G : GG} {N0 : Nat} {A : Nat → Prop} {Q : State → Prop} (F : Fx p s m args meth c RL cL_law 9 G N0 A) {b ao ad L : Nat} {xs : Nat → Int32} {gm : Nat → Nat} {gc : Int → Nat} {i : Int} {k n : Nat} {h hm hc : Hp} {σ ρ : Sg} (hl9 : l.stackTraces = false) (hcw : ∀ w ∈ tables_1, w.before args s = true) (hX : va_X b L xs s s.heap) (hbl : b < s.heap.size) (hbA : ¬ A b) (hL : L ≤ 2560) (hi : 0 ≤ i ∧ i + 5 ≤ L) (hk0 : k + 130 ≤ 603072) (hn0 : n + 12100 ≤ 7198826) (H : HM h hm hc ao ad) (T : RT G gm gc σ ρ hm hc) (K : LK p l e s m args below meth c G N0 A Q b ao ad gm gc i k n) : Z p l e room_1 s m args below meth c 9 G N0 A Q h k n 2058 [(5, vI i), (4, vR ad), (3, vR ao), (2, vR (gm 0)), (1, vR (gc 0)), (0, vR b)] [] := by
  obtain ⟨a1, ea1⟩ : ∃ z, z = (xs (i + 1).toNat).toInt := ⟨_, rfl⟩
  have ra1 : -2147483648 ≤ a1 ∧ a1 < 2147483648 := by rw [ea1]; exact iI_rng _
  obtain ⟨a2, ea2⟩ : ∃ z, z = (xs (i + 2).toNat).toInt := ⟨_, rfl⟩
  have ra2 : -2147483648 ≤ a2 ∧ a2 < 2147483648 := by rw [ea2]; exact iI_rng _
  refine z_aload_n F dL_law_2058 rfl 4 rfl ?_
  refine z_aload_n F dL_law_2059 rfl 5 rfl ?_
  refine z_iload F dL_law_2060 0 rfl ?_
  refine z_iconst F dL_law_2062 ?_
  refine z_iadd F dL_law_2063 ?_
  refine z_sld (xs := xs) F hX hbl hbA (by omega) (by omega) (by omega) dL_law_2064 ?_
  rw [← ea1]
  refine z_aload_n F dL_law_2065 rfl 5 rfl ?_
  refine z_iload F dL_law_2066 0 rfl ?_
  refine z_iconst F dL_law_2068 ?_
  refine z_iadd F dL_law_2069 ?_
  refine z_sld (xs := xs) F hX hbl hbA (by omega) (by omega) (by omega) dL_law_2070 ?_
  rw [← ea2]
  refine z_aload_n F dL_law_2071 rfl 2 rfl ?_
  obtain ⟨f0, ho⟩ := H.o
  refine z_callSW (nA := 4) (As := [vR (gc 0), vI a1, vI a2, vR ao]) (st := []) F (mL_lineSubject l G N0 h hl9 gc ρ hc ao f0 a1 a2 T.2.2.1 T.2.2.2.1 H.c ho H.co ra1 ra2) (hcw _ cw_lineSubject) ⟨⟨q1324, q1325, q0⟩, by decide, by decide, by decide +kernel⟩ rfl rfl ⟨le_f (Nat.le_of_ble_eq_true rfl), le_l (Nat.le_of_ble_eq_true rfl)⟩ rfl ⟨le_c (by (try simp only []); omega), le_s (by (try simp only []); omega)⟩ dL_law_2072 ?_
  intro r1 H1 p1
  obtain ⟨z1, hc1, w1, W1⟩ : ∃ (z1 : Int) (hc1 : Hp), r1 = some (vI z1) ∧ HM H1 hm hc1 ao ad := by
    rcases p1 with ⟨_, q1, ρp, h1p, S1, I1, D1, e1⟩ | ⟨_, q1, ρp, h1p, S1, I1, D1, e1⟩
    · exact ⟨_, h1p, q1, by rw [e1]; exact (H.stepC D1).outL _⟩
    · exact ⟨_, h1p, q1, by rw [e1]; exact H.stepC D1⟩
  subst w1
  show Z _ _ _ _ _ _ _ _ _ _ _ _ _ _ _ _ _ _ _ _ [vI z1]
  refine z_istore (lv' := [(6, vI z1), (5, vI i), (4, vR ad), (3, vR ao), (2, vR (gm 0)), (1, vR (gc 0)), (0, vR b)]) F dL_law_2075 (by decide) rfl ?_
  refine z_aload_n F dL_law_2077 rfl 4 rfl ?_
  refine z_aload_n F dL_law_2078 rfl 6 rfl ?_
  refine z_iload F dL_law_2079 1 rfl ?_
  refine z_iconst F dL_law_2081 ?_
  refine z_iadd F dL_law_2082 ?_
  refine z_sld (xs := xs) F hX hbl hbA (by omega) (by omega) (by omega) dL_law_2083 ?_
  rw [← ea1]
  refine z_aload_n F dL_law_2084 rfl 6 rfl ?_
  refine z_iload F dL_law_2085 1 rfl ?_
  refine z_iconst F dL_law_2087 ?_
  refine z_iadd F dL_law_2088 ?_
  refine z_sld (xs := xs) F hX hbl hbA (by omega) (by omega) (by omega) dL_law_2089 ?_
  rw [← ea2]
  refine z_callV (As := [vI a1, vI a2]) (st := []) F ((mX9_lineSubject l G N0 hm gm σ a1 a2 T.1 T.2.1 T.mv ra1 ra2).frame W1.m) cvL_266 (W1.m _ _ (mI T.1 0 rfl)) (fun r9 h9 => by cases h9; rfl) rfl rfl ⟨le_f (Nat.le_of_ble_eq_true rfl), le_l (Nat.le_of_ble_eq_true rfl)⟩ rfl ⟨le_c (by (try simp only []); omega), le_s (by (try simp only []); omega)⟩ dL_law_2090 ?_
  intro r2 h2 p2
  obtain ⟨σ1, ρ1, hm1, hc2, v, H', T', q1, q3, q2, q4⟩ := turn_lineSubject H T p1 p2
  cases q1
  subst q2
  show Z _ _ _ _ _ _ _ _ _ _ _ _ _ _ _ _ _ _ _ _ [vI v]
  exact tail_I F hk0 hn0 (by (try simp only []); omega) (by (try simp only []); omega) H' T' q3 q4 dL_law_2093 dL_law_2095 dL_law_2096 dL_law_2099 dL_law_2101 dL_law_2106 dL_law_2108 dL_law_2111 dL_law_2112 dL_law_2113 dL_law_2114 dL_law_2116 dL_law_2117 dL_law_2118 dL_law_2123 (by decide) K
set_option maxHeartbeats 4000000 in
theorem case_lineAmount {p : Program} {l : Launch} {e : Env} {s : State} {m : MethodId} {args : Array Value} {below : List Frame} {meth : Method} {c : Code} {G : GG} {N0 : Nat} {A : Nat → Prop} {Q : State → Prop} (F : Fx p s m args meth c RL cL_law 9 G N0 A) {b ao ad L : Nat} {xs : Nat → Int32} {gm : Nat → Nat} {gc : Int → Nat} {i : Int} {k n : Nat} {h hm hc : Hp} {σ ρ : Sg} (hl9 : l.stackTraces = false) (hcw : ∀ w ∈ tables_1, w.before args s = true) (hX : va_X b L xs s s.heap) (hbl : b < s.heap.size) (hbA : ¬ A b) (hL : L ≤ 2560) (hi : 0 ≤ i ∧ i + 5 ≤ L) (hk0 : k + 130 ≤ 603072) (hn0 : n + 12100 ≤ 7198826) (H : HM h hm hc ao ad) (T : RT G gm gc σ ρ hm hc) (K : LK p l e s m args below meth c G N0 A Q b ao ad gm gc i k n) : Z p l e room_1 s m args below meth c 9 G N0 A Q h k n 2126 [(5, vI i), (4, vR ad), (3, vR ao), (2, vR (gm 0)), (1, vR (gc 0)), (0, vR b)] [] := by
  obtain ⟨a1, ea1⟩ : ∃ z, z = (xs (i + 1).toNat).toInt := ⟨_, rfl⟩
  have ra1 : -2147483648 ≤ a1 ∧ a1 < 2147483648 := by rw [ea1]; exact iI_rng _
  obtain ⟨a2, ea2⟩ : ∃ z, z = (xs (i + 2).toNat).toInt := ⟨_, rfl⟩
  have ra2 : -2147483648 ≤ a2 ∧ a2 < 2147483648 := by rw [ea2]; exact iI_rng _
  refine z_aload_n F dL_law_2126 rfl 4 rfl ?_
  refine z_aload_n F dL_law_2127 rfl 5 rfl ?_
  refine z_iload F dL_law_2128 0 rfl ?_
  refine z_iconst F dL_law_2130 ?_
  refine z_iadd F dL_law_2131 ?_
  refine z_sld (xs := xs) F hX hbl hbA (by omega) (by omega) (by omega) dL_law_2132 ?_
  rw [← ea1]
  refine z_aload_n F dL_law_2133 rfl 5 rfl ?_
  refine z_iload F dL_law_2134 0 rfl ?_
  refine z_iconst F dL_law_2136 ?_
  refine z_iadd F dL_law_2137 ?_
  refine z_sld (xs := xs) F hX hbl hbA (by omega) (by omega) (by omega) dL_law_2138 ?_
  rw [← ea2]
  refine z_aload F dL_law_2139 1 rfl ?_
  obtain ⟨f0, ho⟩ := H.od
  refine z_callSW (nA := 4) (As := [vR (gc 0), vI a1, vI a2, vR ad]) (st := []) F (mL_lineAmount l G N0 h hl9 gc ρ hc ad f0 a1 a2 T.2.2.1 T.2.2.2.1 H.c ho H.cd ra1 ra2) (hcw _ cw_lineAmount) ⟨⟨q1331, q1332, q0⟩, by decide, by decide, by decide +kernel⟩ rfl rfl ⟨le_f (Nat.le_of_ble_eq_true rfl), le_l (Nat.le_of_ble_eq_true rfl)⟩ rfl ⟨le_c (by (try simp only []); omega), le_s (by (try simp only []); omega)⟩ dL_law_2141 ?_
  intro r1 H1 p1
  obtain ⟨z1, hc1, w1, W1⟩ : ∃ (z1 : Int) (hc1 : Hp), r1 = some (vI z1) ∧ HM H1 hm hc1 ao ad := by
    rcases p1 with ⟨_, q1, ρp, h1p, S1, I1, D1, e1⟩ | ⟨_, q1, ρp, h1p, S1, I1, D1, e1⟩
    · exact ⟨_, h1p, q1, by rw [e1]; exact (H.stepC D1).outD _⟩
    · exact ⟨_, h1p, q1, by rw [e1]; exact H.stepC D1⟩
  subst w1
  show Z _ _ _ _ _ _ _ _ _ _ _ _ _ _ _ _ _ _ _ _ [vI z1]
  refine z_istore (lv' := [(6, vI z1), (5, vI i), (4, vR ad), (3, vR ao), (2, vR (gm 0)), (1, vR (gc 0)), (0, vR b)]) F dL_law_2144 (by decide) rfl ?_
  refine z_aload_n F dL_law_2146 rfl 4 rfl ?_
  refine z_aload_n F dL_law_2147 rfl 6 rfl ?_
  refine z_iload F dL_law_2148 1 rfl ?_
  refine z_iconst F dL_law_2150 ?_
  refine z_iadd F dL_law_2151 ?_
  refine z_sld (xs := xs) F hX hbl hbA (by omega) (by omega) (by omega) dL_law_2152 ?_
  rw [← ea1]
  refine z_aload_n F dL_law_2153 rfl 6 rfl ?_
  refine z_iload F dL_law_2154 1 rfl ?_
  refine z_iconst F dL_law_2156 ?_
  refine z_iadd F dL_law_2157 ?_
  refine z_sld (xs := xs) F hX hbl hbA (by omega) (by omega) (by omega) dL_law_2158 ?_
  rw [← ea2]
  refine z_callV (As := [vI a1, vI a2]) (st := []) F ((mX9_lineAmount l G N0 hm gm σ a1 a2 T.1 T.2.1 T.mv ra1 ra2).frame W1.m) cvL_270 (W1.m _ _ (mI T.1 0 rfl)) (fun r9 h9 => by cases h9; rfl) rfl rfl ⟨le_f (Nat.le_of_ble_eq_true rfl), le_l (Nat.le_of_ble_eq_true rfl)⟩ rfl ⟨le_c (by (try simp only []); omega), le_s (by (try simp only []); omega)⟩ dL_law_2159 ?_
  intro r2 h2 p2
  obtain ⟨v, q2, σ1, ρ1, hm1, hc2, H', T', q1, q3, q4⟩ := turn_lineAmount H T p1 p2
  cases q1
  subst q2
  show Z _ _ _ _ _ _ _ _ _ _ _ _ _ _ _ _ _ _ _ _ [vF v]
  exact tail_F F hk0 hn0 (by (try simp only []); omega) (by (try simp only []); omega) H' T' q3 q4 dL_law_2162 dL_law_2164 dL_law_2165 dL_law_2168 dL_law_2170 dL_law_2175 dL_law_2177 dL_law_2180 dL_law_2182 dL_law_2183 dL_law_2184 dL_law_2186 dL_law_2187 dL_law_2188 dL_law_2213 (by decide) K
set_option maxHeartbeats 4000000 in
theorem case_total {p : Program} {l : Launch} {e : Env} {s : State} {m : MethodId} {args : Array Value} {below : List Frame} {meth : Method} {c : Code} {G : GG} {N0 : Nat} {A : Nat → Prop} {Q : State → Prop} (F : Fx p s m args meth c RL cL_law 9 G N0 A) {b ao ad L : Nat} {xs : Nat → Int32} {gm : Nat → Nat} {gc : Int → Nat} {i : Int} {k n : Nat} {h hm hc : Hp} {σ ρ : Sg} (hl9 : l.stackTraces = false) (hcw : ∀ w ∈ tables_1, w.before args s = true) (hX : va_X b L xs s s.heap) (hbl : b < s.heap.size) (hbA : ¬ A b) (hL : L ≤ 2560) (hi : 0 ≤ i ∧ i + 5 ≤ L) (hk0 : k + 130 ≤ 603072) (hn0 : n + 12100 ≤ 7198826) (H : HM h hm hc ao ad) (T : RT G gm gc σ ρ hm hc) (K : LK p l e s m args below meth c G N0 A Q b ao ad gm gc i k n) : Z p l e room_1 s m args below meth c 9 G N0 A Q h k n 2216 [(5, vI i), (4, vR ad), (3, vR ao), (2, vR (gm 0)), (1, vR (gc 0)), (0, vR b)] [] := by
  obtain ⟨a1, ea1⟩ : ∃ z, z = (xs (i + 1).toNat).toInt := ⟨_, rfl⟩
  have ra1 : -2147483648 ≤ a1 ∧ a1 < 2147483648 := by rw [ea1]; exact iI_rng _
  refine z_aload_n F dL_law_2216 rfl 4 rfl ?_
  refine z_aload_n F dL_law_2217 rfl 5 rfl ?_
  refine z_iload F dL_law_2218 0 rfl ?_
  refine z_iconst F dL_law_2220 ?_
  refine z_iadd F dL_law_2221 ?_
  refine z_sld (xs := xs) F hX hbl hbA (by omega) (by omega) (by omega) dL_law_2222 ?_
  rw [← ea1]
  refine z_aload F dL_law_2223 1 rfl ?_
  obtain ⟨f0, ho⟩ := H.od
  refine z_callSW (nA := 3) (As := [vR (gc 0), vI a1, vR ad]) (st := []) F (mL_total l G N0 h hl9 gc ρ hc ad f0 a1 T.2.2.1 T.2.2.2.1 H.c ho H.cd ra1) (hcw _ cw_total) ⟨⟨q1338, q1339, q0⟩, by decide, by decide, by decide +kernel⟩ rfl rfl ⟨le_f (Nat.le_of_ble_eq_true rfl), le_l (Nat.le_of_ble_eq_true rfl)⟩ rfl ⟨le_c (by (try simp only []); omega), le_s (by (try simp only []); omega)⟩ dL_law_2225 ?_
  intro r1 H1 p1
  obtain ⟨z1, hc1, w1, W1⟩ : ∃ (z1 : Int) (hc1 : Hp), r1 = some (vI z1) ∧ HM H1 hm hc1 ao ad := by
    rcases p1 with ⟨_, q1, ρp, h1p, S1, I1, D1, e1⟩ | ⟨_, q1, ρp, h1p, S1, I1, D1, e1⟩
    · exact ⟨_, h1p, q1, by rw [e1]; exact (H.stepC D1).outD _⟩
    · exact ⟨_, h1p, q1, by rw [e1]; exact H.stepC D1⟩
  subst w1
  show Z _ _ _ _ _ _ _ _ _ _ _ _ _ _ _ _ _ _ _ _ [vI z1]
  refine z_istore (lv' := [(6, vI z1), (5, vI i), (4, vR ad), (3, vR ao), (2, vR (gm 0)), (1, vR (gc 0)), (0, vR b)]) F dL_law_2228 (by decide) rfl ?_
  refine z_aload_n F dL_law_2230 rfl 4 rfl ?_
  refine z_aload_n F dL_law_2231 rfl 6 rfl ?_
  refine z_iload F dL_law_2232 1 rfl ?_
  refine z_iconst F dL_law_2234 ?_
  refine z_iadd F dL_law_2235 ?_
  refine z_sld (xs := xs) F hX hbl hbA (by omega) (by omega) (by omega) dL_law_2236 ?_
  rw [← ea1]
  refine z_callV (As := [vI a1]) (st := []) F ((mX9_total l G N0 hm gm σ a1 T.1 T.2.1 T.mv ra1).frame W1.m) cvL_274 (W1.m _ _ (mI T.1 0 rfl)) (fun r9 h9 => by cases h9; rfl) rfl rfl ⟨le_f (Nat.le_of_ble_eq_true rfl), le_l (Nat.le_of_ble_eq_true rfl)⟩ rfl ⟨le_c (by (try simp only []); omega), le_s (by (try simp only []); omega)⟩ dL_law_2237 ?_
  intro r2 h2 p2
  obtain ⟨v, q2, σ1, ρ1, hm1, hc2, H', T', q1, q3, q4⟩ := turn_total H T p1 p2
  cases q1
  subst q2
  show Z _ _ _ _ _ _ _ _ _ _ _ _ _ _ _ _ _ _ _ _ [vF v]
  exact tail_F F hk0 hn0 (by (try simp only []); omega) (by (try simp only []); omega) H' T' q3 q4 dL_law_2240 dL_law_2242 dL_law_2243 dL_law_2246 dL_law_2248 dL_law_2253 dL_law_2255 dL_law_2258 dL_law_2260 dL_law_2261 dL_law_2262 dL_law_2264 dL_law_2265 dL_law_2266 dL_law_2291 (by decide) K
set_option maxHeartbeats 4000000 in
theorem case_totalBits {p : Program} {l : Launch} {e : Env} {s : State} {m : MethodId} {args : Array Value} {below : List Frame} {meth : Method} {c : Code} {G : GG} {N0 : Nat} {A : Nat → Prop} {Q : State → Prop} (F : Fx p s m args meth c RL cL_law 9 G N0 A) {b ao ad L : Nat} {xs : Nat → Int32} {gm : Nat → Nat} {gc : Int → Nat} {i : Int} {k n : Nat} {h hm hc : Hp} {σ ρ : Sg} (hl9 : l.stackTraces = false) (hcw : ∀ w ∈ tables_1, w.before args s = true) (hX : va_X b L xs s s.heap) (hbl : b < s.heap.size) (hbA : ¬ A b) (hL : L ≤ 2560) (hi : 0 ≤ i ∧ i + 5 ≤ L) (hk0 : k + 130 ≤ 603072) (hn0 : n + 12100 ≤ 7198826) (H : HM h hm hc ao ad) (T : RT G gm gc σ ρ hm hc) (K : LK p l e s m args below meth c G N0 A Q b ao ad gm gc i k n) : Z p l e room_1 s m args below meth c 9 G N0 A Q h k n 2294 [(5, vI i), (4, vR ad), (3, vR ao), (2, vR (gm 0)), (1, vR (gc 0)), (0, vR b)] [] := by
  obtain ⟨a1, ea1⟩ : ∃ z, z = (xs (i + 1).toNat).toInt := ⟨_, rfl⟩
  have ra1 : -2147483648 ≤ a1 ∧ a1 < 2147483648 := by rw [ea1]; exact iI_rng _
  refine z_aload_n F dL_law_2294 rfl 4 rfl ?_
  refine z_aload_n F dL_law_2295 rfl 5 rfl ?_
  refine z_iload F dL_law_2296 0 rfl ?_
  refine z_iconst F dL_law_2298 ?_
  refine z_iadd F dL_law_2299 ?_
  refine z_sld (xs := xs) F hX hbl hbA (by omega) (by omega) (by omega) dL_law_2300 ?_
  rw [← ea1]
  refine z_aload_n F dL_law_2301 rfl 2 rfl ?_
  obtain ⟨f0, ho⟩ := H.o
  refine z_callSW (nA := 3) (As := [vR (gc 0), vI a1, vR ao]) (st := []) F (mL_totalBits l G N0 h hl9 gc ρ hc ao f0 a1 T.2.2.1 T.2.2.2.1 H.c ho H.co ra1) (hcw _ cw_totalBits) ⟨⟨q1345, q1346, q0⟩, by decide, by decide, by decide +kernel⟩ rfl rfl ⟨le_f (Nat.le_of_ble_eq_true rfl), le_l (Nat.le_of_ble_eq_true rfl)⟩ rfl ⟨le_c (by (try simp only []); omega), le_s (by (try simp only []); omega)⟩ dL_law_2302 ?_
  intro r1 H1 p1
  obtain ⟨z1, hc1, w1, W1⟩ : ∃ (z1 : Int) (hc1 : Hp), r1 = some (vI z1) ∧ HM H1 hm hc1 ao ad := by
    rcases p1 with ⟨_, q1, ρp, h1p, S1, I1, D1, e1⟩ | ⟨_, q1, ρp, h1p, S1, I1, D1, e1⟩
    · exact ⟨_, h1p, q1, by rw [e1]; exact (H.stepC D1).outL _⟩
    · exact ⟨_, h1p, q1, by rw [e1]; exact H.stepC D1⟩
  subst w1
  show Z _ _ _ _ _ _ _ _ _ _ _ _ _ _ _ _ _ _ _ _ [vI z1]
  refine z_istore (lv' := [(6, vI z1), (5, vI i), (4, vR ad), (3, vR ao), (2, vR (gm 0)), (1, vR (gc 0)), (0, vR b)]) F dL_law_2305 (by decide) rfl ?_
  refine z_aload_n F dL_law_2307 rfl 4 rfl ?_
  refine z_aload_n F dL_law_2308 rfl 6 rfl ?_
  refine z_iload F dL_law_2309 1 rfl ?_
  refine z_iconst F dL_law_2311 ?_
  refine z_iadd F dL_law_2312 ?_
  refine z_sld (xs := xs) F hX hbl hbA (by omega) (by omega) (by omega) dL_law_2313 ?_
  rw [← ea1]
  refine z_callV (As := [vI a1]) (st := []) F ((mX9_totalBits l G N0 hm gm σ a1 T.1 T.2.1 T.mv T.tot8 ra1).frame W1.m) cvL_277 (W1.m _ _ (mI T.1 0 rfl)) (fun r9 h9 => by cases h9; rfl) rfl rfl ⟨le_f (Nat.le_of_ble_eq_true rfl), le_l (Nat.le_of_ble_eq_true rfl)⟩ rfl ⟨le_c (by (try simp only []); omega), le_s (by (try simp only []); omega)⟩ dL_law_2314 ?_
  intro r2 h2 p2
  obtain ⟨σ1, ρ1, hm1, hc2, v, H', T', q1, q3, q2, q4⟩ := turn_totalBits H T p1 p2
  cases q1
  subst q2
  show Z _ _ _ _ _ _ _ _ _ _ _ _ _ _ _ _ _ _ _ _ [vI v]
  exact tail_I F hk0 hn0 (by (try simp only []); omega) (by (try simp only []); omega) H' T' q3 q4 dL_law_2317 dL_law_2319 dL_law_2320 dL_law_2323 dL_law_2325 dL_law_2330 dL_law_2332 dL_law_2335 dL_law_2336 dL_law_2337 dL_law_2338 dL_law_2340 dL_law_2341 dL_law_2342 dL_law_2347 (by decide) K
set_option maxHeartbeats 4000000 in
theorem case_totalCents {p : Program} {l : Launch} {e : Env} {s : State} {m : MethodId} {args : Array Value} {below : List Frame} {meth : Method} {c : Code} {G : GG} {N0 : Nat} {A : Nat → Prop} {Q : State → Prop} (F : Fx p s m args meth c RL cL_law 9 G N0 A) {b ao ad L : Nat} {xs : Nat → Int32} {gm : Nat → Nat} {gc : Int → Nat} {i : Int} {k n : Nat} {h hm hc : Hp} {σ ρ : Sg} (hl9 : l.stackTraces = false) (hcw : ∀ w ∈ tables_1, w.before args s = true) (hX : va_X b L xs s s.heap) (hbl : b < s.heap.size) (hbA : ¬ A b) (hL : L ≤ 2560) (hi : 0 ≤ i ∧ i + 5 ≤ L) (hk0 : k + 130 ≤ 603072) (hn0 : n + 12100 ≤ 7198826) (H : HM h hm hc ao ad) (T : RT G gm gc σ ρ hm hc) (K : LK p l e s m args below meth c G N0 A Q b ao ad gm gc i k n) : Z p l e room_1 s m args below meth c 9 G N0 A Q h k n 2350 [(5, vI i), (4, vR ad), (3, vR ao), (2, vR (gm 0)), (1, vR (gc 0)), (0, vR b)] [] := by
  obtain ⟨a1, ea1⟩ : ∃ z, z = (xs (i + 1).toNat).toInt := ⟨_, rfl⟩
  have ra1 : -2147483648 ≤ a1 ∧ a1 < 2147483648 := by rw [ea1]; exact iI_rng _
  refine z_aload_n F dL_law_2350 rfl 4 rfl ?_
  refine z_aload_n F dL_law_2351 rfl 5 rfl ?_
  refine z_iload F dL_law_2352 0 rfl ?_
  refine z_iconst F dL_law_2354 ?_
  refine z_iadd F dL_law_2355 ?_
  refine z_sld (xs := xs) F hX hbl hbA (by omega) (by omega) (by omega) dL_law_2356 ?_
  rw [← ea1]
  refine z_aload_n F dL_law_2357 rfl 2 rfl ?_
  obtain ⟨f0, ho⟩ := H.o
  refine z_callSW (nA := 3) (As := [vR (gc 0), vI a1, vR ao]) (st := []) F (mL_totalCents l G N0 h hl9 gc ρ hc ao f0 a1 T.2.2.1 T.2.2.2.1 H.c ho H.co ra1) (hcw _ cw_totalCents) ⟨⟨q1357, q1358, q0⟩, by decide, by decide, by decide +kernel⟩ rfl rfl ⟨le_f (Nat.le_of_ble_eq_true rfl), le_l (Nat.le_of_ble_eq_true rfl)⟩ rfl ⟨le_c (by (try simp only []); omega), le_s (by (try simp only []); omega)⟩ dL_law_2358 ?_
  intro r1 H1 p1
  obtain ⟨z1, hc1, w1, W1⟩ : ∃ (z1 : Int) (hc1 : Hp), r1 = some (vI z1) ∧ HM H1 hm hc1 ao ad := by
    rcases p1 with ⟨_, q1, ρp, h1p, S1, I1, D1, e1⟩ | ⟨_, q1, ρp, h1p, S1, I1, D1, e1⟩
    · exact ⟨_, h1p, q1, by rw [e1]; exact (H.stepC D1).outL _⟩
    · exact ⟨_, h1p, q1, by rw [e1]; exact H.stepC D1⟩
  subst w1
  show Z _ _ _ _ _ _ _ _ _ _ _ _ _ _ _ _ _ _ _ _ [vI z1]
  refine z_istore (lv' := [(6, vI z1), (5, vI i), (4, vR ad), (3, vR ao), (2, vR (gm 0)), (1, vR (gc 0)), (0, vR b)]) F dL_law_2361 (by decide) rfl ?_
  refine z_aload_n F dL_law_2363 rfl 4 rfl ?_
  refine z_aload_n F dL_law_2364 rfl 6 rfl ?_
  refine z_iload F dL_law_2365 1 rfl ?_
  refine z_iconst F dL_law_2367 ?_
  refine z_iadd F dL_law_2368 ?_
  refine z_sld (xs := xs) F hX hbl hbA (by omega) (by omega) (by omega) dL_law_2369 ?_
  rw [← ea1]
  refine z_callV (As := [vI a1]) (st := []) F ((mX9_totalCents l G N0 hm gm σ a1 T.1 T.2.1 T.mv ra1).frame W1.m) cvL_280 (W1.m _ _ (mI T.1 0 rfl)) (fun r9 h9 => by cases h9; rfl) rfl rfl ⟨le_f (Nat.le_of_ble_eq_true rfl), le_l (Nat.le_of_ble_eq_true rfl)⟩ rfl ⟨le_c (by (try simp only []); omega), le_s (by (try simp only []); omega)⟩ dL_law_2370 ?_
  intro r2 h2 p2
  obtain ⟨σ1, ρ1, hm1, hc2, v, H', T', q1, q3, q2, q4⟩ := turn_totalCents H T p1 p2
  cases q1
  subst q2
  show Z _ _ _ _ _ _ _ _ _ _ _ _ _ _ _ _ _ _ _ _ [vI v]
  exact tail_I F hk0 hn0 (by (try simp only []); omega) (by (try simp only []); omega) H' T' q3 q4 dL_law_2373 dL_law_2375 dL_law_2376 dL_law_2379 dL_law_2381 dL_law_2386 dL_law_2388 dL_law_2391 dL_law_2392 dL_law_2393 dL_law_2394 dL_law_2396 dL_law_2397 dL_law_2398 dL_law_2403 (by decide) K
set_option maxHeartbeats 4000000 in
theorem case_correct {p : Program} {l : Launch} {e : Env} {s : State} {m : MethodId} {args : Array Value} {below : List Frame} {meth : Method} {c : Code} {G : GG} {N0 : Nat} {A : Nat → Prop} {Q : State → Prop} (F : Fx p s m args meth c RL cL_law 9 G N0 A) {b ao ad L : Nat} {xs : Nat → Int32} {gm : Nat → Nat} {gc : Int → Nat} {i : Int} {k n : Nat} {h hm hc : Hp} {σ ρ : Sg} (hl9 : l.stackTraces = false) (hcw : ∀ w ∈ tables_1, w.before args s = true) (hX : va_X b L xs s s.heap) (hbl : b < s.heap.size) (hbA : ¬ A b) (hL : L ≤ 2560) (hi : 0 ≤ i ∧ i + 5 ≤ L) (hk0 : k + 130 ≤ 603072) (hn0 : n + 12100 ≤ 7198826) (H : HM h hm hc ao ad) (T : RT G gm gc σ ρ hm hc) (K : LK p l e s m args below meth c G N0 A Q b ao ad gm gc i k n) : Z p l e room_1 s m args below meth c 9 G N0 A Q h k n 2406 [(5, vI i), (4, vR ad), (3, vR ao), (2, vR (gm 0)), (1, vR (gc 0)), (0, vR b)] [] := by
  obtain ⟨a1, ea1⟩ : ∃ z, z = (xs (i + 1).toNat).toInt := ⟨_, rfl⟩
  have ra1 : -2147483648 ≤ a1 ∧ a1 < 2147483648 := by rw [ea1]; exact iI_rng _
  obtain ⟨a2, ea2⟩ : ∃ z, z = (xs (i + 2).toNat).toInt := ⟨_, rfl⟩
  have ra2 : -2147483648 ≤ a2 ∧ a2 < 2147483648 := by rw [ea2]; exact iI_rng _
  refine z_aload_n F dL_law_2406 rfl 4 rfl ?_
  refine z_aload_n F dL_law_2407 rfl 5 rfl ?_
  refine z_iload F dL_law_2408 0 rfl ?_
  refine z_iconst F dL_law_2410 ?_
  refine z_iadd F dL_law_2411 ?_
  refine z_sld (xs := xs) F hX hbl hbA (by omega) (by omega) (by omega) dL_law_2412 ?_
  rw [← ea1]
  refine z_aload_n F dL_law_2413 rfl 5 rfl ?_
  refine z_iload F dL_law_2414 0 rfl ?_
  refine z_iconst F dL_law_2416 ?_
  refine z_iadd F dL_law_2417 ?_
  refine z_sld (xs := xs) F hX hbl hbA (by omega) (by omega) (by omega) dL_law_2418 ?_
  rw [← ea2]
  refine z_aload_n F dL_law_2419 rfl 2 rfl ?_
  obtain ⟨f0, ho⟩ := H.o
  refine z_callSW (nA := 4) (As := [vR (gc 0), vI a1, vI a2, vR ao]) (st := []) F (mL_correct l G N0 h hl9 gc ρ hc ao f0 a1 a2 T.2.2.1 T.2.2.2.1 H.c ho H.co ra1 ra2) (hcw _ cw_correct) ⟨⟨q1364, q1365, q0⟩, by decide, by decide, by decide +kernel⟩ rfl rfl ⟨le_f (Nat.le_of_ble_eq_true rfl), le_l (Nat.le_of_ble_eq_true rfl)⟩ rfl ⟨le_c (by (try simp only []); omega), le_s (by (try simp only []); omega)⟩ dL_law_2420 ?_
  intro r1 H1 p1
  obtain ⟨z1, hc1, w1, W1⟩ : ∃ (z1 : Int) (hc1 : Hp), r1 = some (vI z1) ∧ HM H1 hm hc1 ao ad := by
    rcases p1 with ⟨_, _, _, q1, ρp, h1p, S1, I1, D1, e1⟩ | ⟨_, q1, ρp, h1p, S1, I1, D1, e1⟩ | ⟨_, q1, ρp, h1p, S1, I1, D1, e1⟩ | ⟨_, q1, ρp, h1p, S1, I1, D1, e1⟩
    · exact ⟨_, h1p, q1, by rw [e1]; exact (H.stepC D1).outL _⟩
    · exact ⟨_, h1p, q1, by rw [e1]; exact H.stepC D1⟩
    · exact ⟨_, h1p, q1, by rw [e1]; exact H.stepC D1⟩
    · exact ⟨_, h1p, q1, by rw [e1]; exact H.stepC D1⟩
  subst w1
  show Z _ _ _ _ _ _ _ _ _ _ _ _ _ _ _ _ _ _ _ _ [vI z1]
  refine z_istore (lv' := [(6, vI z1), (5, vI i), (4, vR ad), (3, vR ao), (2, vR (gm 0)), (1, vR (gc 0)), (0, vR b)]) F dL_law_2423 (by decide) rfl ?_
  refine z_aload_n F dL_law_2425 rfl 4 rfl ?_
  refine z_aload_n F dL_law_2426 rfl 6 rfl ?_
  refine z_iload F dL_law_2427 1 rfl ?_
  refine z_iconst F dL_law_2429 ?_
  refine z_iadd F dL_law_2430 ?_
  refine z_sld (xs := xs) F hX hbl hbA (by omega) (by omega) (by omega) dL_law_2431 ?_
  rw [← ea1]
  refine z_aload_n F dL_law_2432 rfl 6 rfl ?_
  refine z_iload F dL_law_2433 1 rfl ?_
  refine z_iconst F dL_law_2435 ?_
  refine z_iadd F dL_law_2436 ?_
  refine z_sld (xs := xs) F hX hbl hbA (by omega) (by omega) (by omega) dL_law_2437 ?_
  rw [← ea2]
  refine z_callV (As := [vI a1, vI a2]) (st := []) F ((mX9_correct l G N0 hm gm σ a1 a2 T.1 T.2.1 T.mv ra1 ra2).frame W1.m) cvL_283 (W1.m _ _ (mI T.1 0 rfl)) (fun r9 h9 => by cases h9; rfl) rfl rfl ⟨le_f (Nat.le_of_ble_eq_true rfl), le_l (Nat.le_of_ble_eq_true rfl)⟩ rfl ⟨le_c (by (try simp only []); omega), le_s (by (try simp only []); omega)⟩ dL_law_2438 ?_
  intro r2 h2 p2
  obtain ⟨σ1, ρ1, hm1, hc2, v, H', T', q1, q3, q2, q4⟩ := turn_correct H T p1 p2
  cases q1
  subst q2
  show Z _ _ _ _ _ _ _ _ _ _ _ _ _ _ _ _ _ _ _ _ [vI v]
  exact tail_I F hk0 hn0 (by (try simp only []); omega) (by (try simp only []); omega) H' T' q3 q4 dL_law_2441 dL_law_2443 dL_law_2444 dL_law_2447 dL_law_2449 dL_law_2454 dL_law_2456 dL_law_2459 dL_law_2460 dL_law_2461 dL_law_2462 dL_law_2464 dL_law_2465 dL_law_2466 dL_law_2471 (by decide) K
set_option maxHeartbeats 4000000 in
theorem case_usedMinutes {p : Program} {l : Launch} {e : Env} {s : State} {m : MethodId} {args : Array Value} {below : List Frame} {meth : Method} {c : Code} {G : GG} {N0 : Nat} {A : Nat → Prop} {Q : State → Prop} (F : Fx p s m args meth c RL cL_law 9 G N0 A) {b ao ad L : Nat} {xs : Nat → Int32} {gm : Nat → Nat} {gc : Int → Nat} {i : Int} {k n : Nat} {h hm hc : Hp} {σ ρ : Sg} (hl9 : l.stackTraces = false) (hcw : ∀ w ∈ tables_1, w.before args s = true) (hX : va_X b L xs s s.heap) (hbl : b < s.heap.size) (hbA : ¬ A b) (hL : L ≤ 2560) (hi : 0 ≤ i ∧ i + 5 ≤ L) (hk0 : k + 130 ≤ 603072) (hn0 : n + 12100 ≤ 7198826) (H : HM h hm hc ao ad) (T : RT G gm gc σ ρ hm hc) (K : LK p l e s m args below meth c G N0 A Q b ao ad gm gc i k n) : Z p l e room_1 s m args below meth c 9 G N0 A Q h k n 2474 [(5, vI i), (4, vR ad), (3, vR ao), (2, vR (gm 0)), (1, vR (gc 0)), (0, vR b)] [] := by
  obtain ⟨a1, ea1⟩ : ∃ z, z = (xs (i + 1).toNat).toInt := ⟨_, rfl⟩
  have ra1 : -2147483648 ≤ a1 ∧ a1 < 2147483648 := by rw [ea1]; exact iI_rng _
  refine z_aload_n F dL_law_2474 rfl 4 rfl ?_
  refine z_aload_n F dL_law_2475 rfl 5 rfl ?_
  refine z_iload F dL_law_2476 0 rfl ?_
  refine z_iconst F dL_law_2478 ?_
  refine z_iadd F dL_law_2479 ?_
  refine z_sld (xs := xs) F hX hbl hbA (by omega) (by omega) (by omega) dL_law_2480 ?_
  rw [← ea1]
  refine z_aload_n F dL_law_2481 rfl 2 rfl ?_
  obtain ⟨f0, ho⟩ := H.o
  refine z_callSW (nA := 3) (As := [vR (gc 0), vI a1, vR ao]) (st := []) F (mL_usedMinutes l G N0 h hl9 gc ρ hc ao f0 a1 T.2.2.1 T.2.2.2.1 H.c ho H.co ra1) (hcw _ cw_usedMinutes) ⟨⟨q1396, q1397, q0⟩, by decide, by decide, by decide +kernel⟩ rfl rfl ⟨le_f (Nat.le_of_ble_eq_true rfl), le_l (Nat.le_of_ble_eq_true rfl)⟩ rfl ⟨le_c (by (try simp only []); omega), le_s (by (try simp only []); omega)⟩ dL_law_2482 ?_
  intro r1 H1 p1
  obtain ⟨z1, hc1, w1, W1⟩ : ∃ (z1 : Int) (hc1 : Hp), r1 = some (vI z1) ∧ HM H1 hm hc1 ao ad := by
    rcases p1 with ⟨_, q1, ρp, h1p, S1, I1, D1, e1⟩ | ⟨_, q1, ρp, h1p, S1, I1, D1, e1⟩
    · exact ⟨_, h1p, q1, by rw [e1]; exact (H.stepC D1).outL _⟩
    · exact ⟨_, h1p, q1, by rw [e1]; exact H.stepC D1⟩
  subst w1
  show Z _ _ _ _ _ _ _ _ _ _ _ _ _ _ _ _ _ _ _ _ [vI z1]
  refine z_istore (lv' := [(6, vI z1), (5, vI i), (4, vR ad), (3, vR ao), (2, vR (gm 0)), (1, vR (gc 0)), (0, vR b)]) F dL_law_2485 (by decide) rfl ?_
  refine z_aload_n F dL_law_2487 rfl 4 rfl ?_
  refine z_aload_n F dL_law_2488 rfl 6 rfl ?_
  refine z_iload F dL_law_2489 1 rfl ?_
  refine z_iconst F dL_law_2491 ?_
  refine z_iadd F dL_law_2492 ?_
  refine z_sld (xs := xs) F hX hbl hbA (by omega) (by omega) (by omega) dL_law_2493 ?_
  rw [← ea1]
  refine z_callV (As := [vI a1]) (st := []) F ((mX9_usedMinutes l G N0 hm gm σ a1 T.1 T.2.1 T.mv ra1).frame W1.m) cvL_286 (W1.m _ _ (mI T.1 0 rfl)) (fun r9 h9 => by cases h9; rfl) rfl rfl ⟨le_f (Nat.le_of_ble_eq_true rfl), le_l (Nat.le_of_ble_eq_true rfl)⟩ rfl ⟨le_c (by (try simp only []); omega), le_s (by (try simp only []); omega)⟩ dL_law_2494 ?_
  intro r2 h2 p2
  obtain ⟨σ1, ρ1, hm1, hc2, v, H', T', q1, q3, q2, q4⟩ := turn_usedMinutes H T p1 p2
  cases q1
  subst q2
  show Z _ _ _ _ _ _ _ _ _ _ _ _ _ _ _ _ _ _ _ _ [vI v]
  exact tail_I F hk0 hn0 (by (try simp only []); omega) (by (try simp only []); omega) H' T' q3 q4 dL_law_2497 dL_law_2499 dL_law_2500 dL_law_2503 dL_law_2505 dL_law_2510 dL_law_2512 dL_law_2515 dL_law_2516 dL_law_2517 dL_law_2518 dL_law_2520 dL_law_2521 dL_law_2522 dL_law_2527 (by decide) K
set_option maxHeartbeats 4000000 in
theorem case_budgetShare {p : Program} {l : Launch} {e : Env} {s : State} {m : MethodId} {args : Array Value} {below : List Frame} {meth : Method} {c : Code} {G : GG} {N0 : Nat} {A : Nat → Prop} {Q : State → Prop} (F : Fx p s m args meth c RL cL_law 9 G N0 A) {b ao ad L : Nat} {xs : Nat → Int32} {gm : Nat → Nat} {gc : Int → Nat} {i : Int} {k n : Nat} {h hm hc : Hp} {σ ρ : Sg} (hl9 : l.stackTraces = false) (hcw : ∀ w ∈ tables_1, w.before args s = true) (hX : va_X b L xs s s.heap) (hbl : b < s.heap.size) (hbA : ¬ A b) (hL : L ≤ 2560) (hi : 0 ≤ i ∧ i + 5 ≤ L) (hk0 : k + 130 ≤ 603072) (hn0 : n + 12100 ≤ 7198826) (H : HM h hm hc ao ad) (T : RT G gm gc σ ρ hm hc) (K : LK p l e s m args below meth c G N0 A Q b ao ad gm gc i k n) : Z p l e room_1 s m args below meth c 9 G N0 A Q h k n 2530 [(5, vI i), (4, vR ad), (3, vR ao), (2, vR (gm 0)), (1, vR (gc 0)), (0, vR b)] [] := by
  obtain ⟨a1, ea1⟩ : ∃ z, z = (xs (i + 1).toNat).toInt := ⟨_, rfl⟩
  have ra1 : -2147483648 ≤ a1 ∧ a1 < 2147483648 := by rw [ea1]; exact iI_rng _
  refine z_aload_n F dL_law_2530 rfl 4 rfl ?_
  refine z_aload_n F dL_law_2531 rfl 5 rfl ?_
  refine z_iload F dL_law_2532 0 rfl ?_
  refine z_iconst F dL_law_2534 ?_
  refine z_iadd F dL_law_2535 ?_
  refine z_sld (xs := xs) F hX hbl hbA (by omega) (by omega) (by omega) dL_law_2536 ?_
  rw [← ea1]
  refine z_aload F dL_law_2537 1 rfl ?_
  obtain ⟨f0, ho⟩ := H.od
  refine z_callSW (nA := 3) (As := [vR (gc 0), vI a1, vR ad]) (st := []) F (mL_budgetShare l G N0 h hl9 gc ρ hc ad f0 a1 T.2.2.1 T.2.2.2.1 H.c ho H.cd ra1) (hcw _ cw_budgetShare) ⟨⟨q1407, q1408, q0⟩, by decide, by decide, by decide +kernel⟩ rfl rfl ⟨le_f (Nat.le_of_ble_eq_true rfl), le_l (Nat.le_of_ble_eq_true rfl)⟩ rfl ⟨le_c (by (try simp only []); omega), le_s (by (try simp only []); omega)⟩ dL_law_2539 ?_
  intro r1 H1 p1
  obtain ⟨z1, hc1, w1, W1⟩ : ∃ (z1 : Int) (hc1 : Hp), r1 = some (vI z1) ∧ HM H1 hm hc1 ao ad := by
    rcases p1 with ⟨_, _, q1, ρp, h1p, S1, I1, D1, e1⟩ | ⟨_, q1, ρp, h1p, S1, I1, D1, e1⟩ | ⟨_, q1, ρp, h1p, S1, I1, D1, e1⟩
    · exact ⟨_, h1p, q1, by rw [e1]; exact (H.stepC D1).outD _⟩
    · exact ⟨_, h1p, q1, by rw [e1]; exact H.stepC D1⟩
    · exact ⟨_, h1p, q1, by rw [e1]; exact H.stepC D1⟩
  subst w1
  show Z _ _ _ _ _ _ _ _ _ _ _ _ _ _ _ _ _ _ _ _ [vI z1]
  refine z_istore (lv' := [(6, vI z1), (5, vI i), (4, vR ad), (3, vR ao), (2, vR (gm 0)), (1, vR (gc 0)), (0, vR b)]) F dL_law_2542 (by decide) rfl ?_
  refine z_aload_n F dL_law_2544 rfl 4 rfl ?_
  refine z_aload_n F dL_law_2545 rfl 6 rfl ?_
  refine z_iload F dL_law_2546 1 rfl ?_
  refine z_iconst F dL_law_2548 ?_
  refine z_iadd F dL_law_2549 ?_
  refine z_sld (xs := xs) F hX hbl hbA (by omega) (by omega) (by omega) dL_law_2550 ?_
  rw [← ea1]
  refine z_callV (As := [vI a1]) (st := []) F ((mX9_budgetShare l G N0 hm gm σ a1 T.1 T.2.1 T.mv ra1).frame W1.m) cvL_289 (W1.m _ _ (mI T.1 0 rfl)) (fun r9 h9 => by cases h9; rfl) rfl rfl ⟨le_f (Nat.le_of_ble_eq_true rfl), le_l (Nat.le_of_ble_eq_true rfl)⟩ rfl ⟨le_c (by (try simp only []); omega), le_s (by (try simp only []); omega)⟩ dL_law_2551 ?_
  intro r2 h2 p2
  obtain ⟨v, q2, σ1, ρ1, hm1, hc2, H', T', q1, q3, q4⟩ := turn_budgetShare H T p1 p2
  cases q1
  subst q2
  show Z _ _ _ _ _ _ _ _ _ _ _ _ _ _ _ _ _ _ _ _ [vF v]
  exact tail_F F hk0 hn0 (by (try simp only []); omega) (by (try simp only []); omega) H' T' q3 q4 dL_law_2554 dL_law_2556 dL_law_2557 dL_law_2560 dL_law_2562 dL_law_2567 dL_law_2569 dL_law_2572 dL_law_2574 dL_law_2575 dL_law_2576 dL_law_2578 dL_law_2579 dL_law_2580 dL_law_2605 (by decide) K
set_option maxHeartbeats 4000000 in
theorem case_warning {p : Program} {l : Launch} {e : Env} {s : State} {m : MethodId} {args : Array Value} {below : List Frame} {meth : Method} {c : Code} {G : GG} {N0 : Nat} {A : Nat → Prop} {Q : State → Prop} (F : Fx p s m args meth c RL cL_law 9 G N0 A) {b ao ad L : Nat} {xs : Nat → Int32} {gm : Nat → Nat} {gc : Int → Nat} {i : Int} {k n : Nat} {h hm hc : Hp} {σ ρ : Sg} (hl9 : l.stackTraces = false) (hcw : ∀ w ∈ tables_1, w.before args s = true) (hX : va_X b L xs s s.heap) (hbl : b < s.heap.size) (hbA : ¬ A b) (hL : L ≤ 2560) (hi : 0 ≤ i ∧ i + 5 ≤ L) (hk0 : k + 130 ≤ 603072) (hn0 : n + 12100 ≤ 7198826) (H : HM h hm hc ao ad) (T : RT G gm gc σ ρ hm hc) (K : LK p l e s m args below meth c G N0 A Q b ao ad gm gc i k n) : Z p l e room_1 s m args below meth c 9 G N0 A Q h k n 2608 [(5, vI i), (4, vR ad), (3, vR ao), (2, vR (gm 0)), (1, vR (gc 0)), (0, vR b)] [] := by
  obtain ⟨a1, ea1⟩ : ∃ z, z = (xs (i + 1).toNat).toInt := ⟨_, rfl⟩
  have ra1 : -2147483648 ≤ a1 ∧ a1 < 2147483648 := by rw [ea1]; exact iI_rng _
  refine z_aload_n F dL_law_2608 rfl 4 rfl ?_
  refine z_aload_n F dL_law_2609 rfl 5 rfl ?_
  refine z_iload F dL_law_2610 0 rfl ?_
  refine z_iconst F dL_law_2612 ?_
  refine z_iadd F dL_law_2613 ?_
  refine z_sld (xs := xs) F hX hbl hbA (by omega) (by omega) (by omega) dL_law_2614 ?_
  rw [← ea1]
  refine z_aload_n F dL_law_2615 rfl 2 rfl ?_
  obtain ⟨f0, ho⟩ := H.o
  refine z_callSW (nA := 3) (As := [vR (gc 0), vI a1, vR ao]) (st := []) F (mL_warning l G N0 h hl9 gc ρ hc ao f0 a1 T.2.2.1 T.2.2.2.1 H.c ho H.co ra1) (hcw _ cw_warning) ⟨⟨q1432, q1433, q0⟩, by decide, by decide, by decide +kernel⟩ rfl rfl ⟨le_f (Nat.le_of_ble_eq_true rfl), le_l (Nat.le_of_ble_eq_true rfl)⟩ rfl ⟨le_c (by (try simp only []); omega), le_s (by (try simp only []); omega)⟩ dL_law_2616 ?_
  intro r1 H1 p1
  obtain ⟨z1, hc1, w1, W1⟩ : ∃ (z1 : Int) (hc1 : Hp), r1 = some (vI z1) ∧ HM H1 hm hc1 ao ad := by
    rcases p1 with ⟨_, q1, ρp, h1p, S1, I1, D1, e1⟩ | ⟨_, q1, ρp, h1p, S1, I1, D1, e1⟩
    · exact ⟨_, h1p, q1, by rw [e1]; exact (H.stepC D1).outL _⟩
    · exact ⟨_, h1p, q1, by rw [e1]; exact H.stepC D1⟩
  subst w1
  show Z _ _ _ _ _ _ _ _ _ _ _ _ _ _ _ _ _ _ _ _ [vI z1]
  refine z_istore (lv' := [(6, vI z1), (5, vI i), (4, vR ad), (3, vR ao), (2, vR (gm 0)), (1, vR (gc 0)), (0, vR b)]) F dL_law_2619 (by decide) rfl ?_
  refine z_aload_n F dL_law_2621 rfl 4 rfl ?_
  refine z_aload_n F dL_law_2622 rfl 6 rfl ?_
  refine z_iload F dL_law_2623 1 rfl ?_
  refine z_iconst F dL_law_2625 ?_
  refine z_iadd F dL_law_2626 ?_
  refine z_sld (xs := xs) F hX hbl hbA (by omega) (by omega) (by omega) dL_law_2627 ?_
  rw [← ea1]
  refine z_callV (As := [vI a1]) (st := []) F ((mX9_warning l G N0 hm gm σ a1 T.1 T.2.1 T.mv ra1).frame W1.m) cvL_292 (W1.m _ _ (mI T.1 0 rfl)) (fun r9 h9 => by cases h9; rfl) rfl rfl ⟨le_f (Nat.le_of_ble_eq_true rfl), le_l (Nat.le_of_ble_eq_true rfl)⟩ rfl ⟨le_c (by (try simp only []); omega), le_s (by (try simp only []); omega)⟩ dL_law_2628 ?_
  intro r2 h2 p2
  obtain ⟨σ1, ρ1, hm1, hc2, v, H', T', q1, q3, q2, q4⟩ := turn_warning H T p1 p2
  cases q1
  subst q2
  show Z _ _ _ _ _ _ _ _ _ _ _ _ _ _ _ _ _ _ _ _ [vI v]
  exact tail_I F hk0 hn0 (by (try simp only []); omega) (by (try simp only []); omega) H' T' q3 q4 dL_law_2631 dL_law_2633 dL_law_2634 dL_law_2637 dL_law_2639 dL_law_2644 dL_law_2646 dL_law_2649 dL_law_2650 dL_law_2651 dL_law_2652 dL_law_2654 dL_law_2655 dL_law_2656 dL_law_2661 (by decide) K
set_option maxHeartbeats 4000000 in
theorem case_meanMinutes {p : Program} {l : Launch} {e : Env} {s : State} {m : MethodId} {args : Array Value} {below : List Frame} {meth : Method} {c : Code} {G : GG} {N0 : Nat} {A : Nat → Prop} {Q : State → Prop} (F : Fx p s m args meth c RL cL_law 9 G N0 A) {b ao ad L : Nat} {xs : Nat → Int32} {gm : Nat → Nat} {gc : Int → Nat} {i : Int} {k n : Nat} {h hm hc : Hp} {σ ρ : Sg} (hl9 : l.stackTraces = false) (hcw : ∀ w ∈ tables_1, w.before args s = true) (hX : va_X b L xs s s.heap) (hbl : b < s.heap.size) (hbA : ¬ A b) (hL : L ≤ 2560) (hi : 0 ≤ i ∧ i + 5 ≤ L) (hk0 : k + 130 ≤ 603072) (hn0 : n + 12100 ≤ 7198826) (H : HM h hm hc ao ad) (T : RT G gm gc σ ρ hm hc) (K : LK p l e s m args below meth c G N0 A Q b ao ad gm gc i k n) : Z p l e room_1 s m args below meth c 9 G N0 A Q h k n 2664 [(5, vI i), (4, vR ad), (3, vR ao), (2, vR (gm 0)), (1, vR (gc 0)), (0, vR b)] [] := by
  refine z_aload_n F dL_law_2664 rfl 4 rfl ?_
  refine z_aload F dL_law_2665 1 rfl ?_
  obtain ⟨f0, ho⟩ := H.od
  refine z_callSW (nA := 2) (As := [vR (gc 0), vR ad]) (st := []) F (mL_meanMinutes l G N0 h hl9 gc ρ hc ad f0 T.2.2.1 T.2.2.2.1 H.c ho H.cd) (hcw _ cw_meanMinutes) ⟨⟨q1440, q1441, q0⟩, by decide, by decide, by decide +kernel⟩ rfl rfl ⟨le_f (Nat.le_of_ble_eq_true rfl), le_l (Nat.le_of_ble_eq_true rfl)⟩ rfl ⟨le_c (by (try simp only []); omega), le_s (by (try simp only []); omega)⟩ dL_law_2667 ?_
  intro r1 H1 p1
  obtain ⟨z1, hc1, w1, W1⟩ : ∃ (z1 : Int) (hc1 : Hp), r1 = some (vI z1) ∧ HM H1 hm hc1 ao ad := by
    rcases p1 with ⟨_, q1, ρp, h1p, S1, I1, D1, e1⟩ | ⟨_, q1, ρp, h1p, S1, I1, D1, e1⟩
    · exact ⟨_, h1p, q1, by rw [e1]; exact (H.stepC D1).outD _⟩
    · exact ⟨_, h1p, q1, by rw [e1]; exact H.stepC D1⟩
  subst w1
  show Z _ _ _ _ _ _ _ _ _ _ _ _ _ _ _ _ _ _ _ _ [vI z1]
  refine z_istore (lv' := [(6, vI z1), (5, vI i), (4, vR ad), (3, vR ao), (2, vR (gm 0)), (1, vR (gc 0)), (0, vR b)]) F dL_law_2670 (by decide) rfl ?_
  refine z_aload_n F dL_law_2672 rfl 4 rfl ?_
  refine z_callV (As := []) (st := []) F ((mX9_meanMinutes l G N0 hm gm σ T.1 T.2.1 T.mv).frame W1.m) cvL_296 (W1.m _ _ (mI T.1 0 rfl)) (fun r9 h9 => by cases h9; rfl) rfl rfl ⟨le_f (Nat.le_of_ble_eq_true rfl), le_l (Nat.le_of_ble_eq_true rfl)⟩ rfl ⟨le_c (by (try simp only []); omega), le_s (by (try simp only []); omega)⟩ dL_law_2673 ?_
  intro r2 h2 p2
  obtain ⟨v, q2, σ1, ρ1, hm1, hc2, H', T', q1, q3, q4⟩ := turn_meanMinutes H T p1 p2
  cases q1
  subst q2
  show Z _ _ _ _ _ _ _ _ _ _ _ _ _ _ _ _ _ _ _ _ [vD v]
  exact tail_D F hk0 hn0 (by (try simp only []); omega) (by (try simp only []); omega) H' T' q3 q4 dL_law_2676 dL_law_2678 dL_law_2679 dL_law_2682 dL_law_2684 dL_law_2689 dL_law_2691 dL_law_2694 dL_law_2696 dL_law_2697 dL_law_2698 dL_law_2700 dL_law_2701 dL_law_2726 (by decide) K
set_option maxHeartbeats 4000000 in
theorem case_meanBits {p : Program} {l : Launch} {e : Env} {s : State} {m : MethodId} {args : Array Value} {below : List Frame} {meth : Method} {c : Code} {G : GG} {N0 : Nat} {A : Nat → Prop} {Q : State → Prop} (F : Fx p s m args meth c RL cL_law 9 G N0 A) {b ao ad L : Nat} {xs : Nat → Int32} {gm : Nat → Nat} {gc : Int → Nat} {i : Int} {k n : Nat} {h hm hc : Hp} {σ ρ : Sg} (hl9 : l.stackTraces = false) (hcw : ∀ w ∈ tables_1, w.before args s = true) (hX : va_X b L xs s s.heap) (hbl : b < s.heap.size) (hbA : ¬ A b) (hL : L ≤ 2560) (hi : 0 ≤ i ∧ i + 5 ≤ L) (hk0 : k + 130 ≤ 603072) (hn0 : n + 12100 ≤ 7198826) (H : HM h hm hc ao ad) (T : RT G gm gc σ ρ hm hc) (K : LK p l e s m args below meth c G N0 A Q b ao ad gm gc i k n) : Z p l e room_1 s m args below meth c 9 G N0 A Q h k n 2729 [(5, vI i), (4, vR ad), (3, vR ao), (2, vR (gm 0)), (1, vR (gc 0)), (0, vR b)] [] := by
  refine z_aload_n F dL_law_2729 rfl 4 rfl ?_
  refine z_aload_n F dL_law_2730 rfl 2 rfl ?_
  obtain ⟨f0, ho⟩ := H.o
  refine z_callSW (nA := 2) (As := [vR (gc 0), vR ao]) (st := []) F (mL_meanBits l G N0 h hl9 gc ρ hc ao f0 T.2.2.1 T.2.2.2.1 H.c ho H.co) (hcw _ cw_meanBits) ⟨⟨q1454, q1455, q0⟩, by decide, by decide, by decide +kernel⟩ rfl rfl ⟨le_f (Nat.le_of_ble_eq_true rfl), le_l (Nat.le_of_ble_eq_true rfl)⟩ rfl ⟨le_c (by (try simp only []); omega), le_s (by (try simp only []); omega)⟩ dL_law_2731 ?_
  intro r1 H1 p1
  obtain ⟨z1, hc1, w1, W1⟩ : ∃ (z1 : Int) (hc1 : Hp), r1 = some (vI z1) ∧ HM H1 hm hc1 ao ad := by
    rcases p1 with ⟨_, q1, ρp, h1p, S1, I1, D1, e1⟩ | ⟨_, q1, ρp, h1p, S1, I1, D1, e1⟩
    · exact ⟨_, h1p, q1, by rw [e1]; exact (H.stepC D1).outL _⟩
    · exact ⟨_, h1p, q1, by rw [e1]; exact H.stepC D1⟩
  subst w1
  show Z _ _ _ _ _ _ _ _ _ _ _ _ _ _ _ _ _ _ _ _ [vI z1]
  refine z_istore (lv' := [(6, vI z1), (5, vI i), (4, vR ad), (3, vR ao), (2, vR (gm 0)), (1, vR (gc 0)), (0, vR b)]) F dL_law_2734 (by decide) rfl ?_
  refine z_aload_n F dL_law_2736 rfl 4 rfl ?_
  refine z_callV (As := []) (st := []) F ((mX9_meanBits l G N0 hm gm σ T.1 T.2.1 T.mv).frame W1.m) cvL_300 (W1.m _ _ (mI T.1 0 rfl)) (fun r9 h9 => by cases h9; rfl) rfl rfl ⟨le_f (Nat.le_of_ble_eq_true rfl), le_l (Nat.le_of_ble_eq_true rfl)⟩ rfl ⟨le_c (by (try simp only []); omega), le_s (by (try simp only []); omega)⟩ dL_law_2737 ?_
  intro r2 h2 p2
  obtain ⟨v, q2, σ1, ρ1, hm1, hc2, H', T', q1, q3, q4⟩ := turn_meanBits H T p1 p2
  cases q1
  subst q2
  show Z _ _ _ _ _ _ _ _ _ _ _ _ _ _ _ _ _ _ _ _ [vL v]
  exact tail_L F hk0 hn0 (by (try simp only []); omega) (by (try simp only []); omega) H' T' q3 q4 dL_law_2740 dL_law_2742 dL_law_2743 dL_law_2746 dL_law_2748 dL_law_2753 dL_law_2755 dL_law_2758 dL_law_2759 dL_law_2760 dL_law_2761 dL_law_2763 dL_law_2764 dL_law_2769 (by decide) K
set_option maxHeartbeats 4000000 in
theorem case_isConsistent {p : Program} {l : Launch} {e : Env} {s : State} {m : MethodId} {args : Array Value} {below : List Frame} {meth : Method} {c : Code} {G : GG} {N0 : Nat} {A : Nat → Prop} {Q : State → Prop} (F : Fx p s m args meth c RL cL_law 9 G N0 A) {b ao ad L : Nat} {xs : Nat → Int32} {gm : Nat → Nat} {gc : Int → Nat} {i : Int} {k n : Nat} {h hm hc : Hp} {σ ρ : Sg} (hl9 : l.stackTraces = false) (hcw : ∀ w ∈ tables_1, w.before args s = true) (hX : va_X b L xs s s.heap) (hbl : b < s.heap.size) (hbA : ¬ A b) (hL : L ≤ 2560) (hi : 0 ≤ i ∧ i + 5 ≤ L) (hk0 : k + 130 ≤ 603072) (hn0 : n + 12100 ≤ 7198826) (H : HM h hm hc ao ad) (T : RT G gm gc σ ρ hm hc) (K : LK p l e s m args below meth c G N0 A Q b ao ad gm gc i k n) : Z p l e room_1 s m args below meth c 9 G N0 A Q h k n 2772 [(5, vI i), (4, vR ad), (3, vR ao), (2, vR (gm 0)), (1, vR (gc 0)), (0, vR b)] [] := by
  refine z_aload_n F dL_law_2772 rfl 4 rfl ?_
  refine z_callV (As := []) (st := []) F ((mX8_isConsistent l G N0 hc hl9 gc ρ T.2.2.1 T.2.2.2.1).frame H.c) cvL_301 (H.c _ _ (ci_0 T.2.2.1)) (fun r9 h9 => by cases h9; rfl) rfl rfl ⟨le_f (Nat.le_of_ble_eq_true rfl), le_l (Nat.le_of_ble_eq_true rfl)⟩ rfl ⟨le_c (by (try simp only []); omega), le_s (by (try simp only []); omega)⟩ dL_law_2773 ?_
  rintro _ h9 ⟨hc1, ⟨ρ1, rfl, S1, I1⟩, D1, rfl⟩
  have H := H.stepC D1
  have T := T.same T.1 T.2.1 I1 S1 (fun _ _ _ _ => rfl)
  show Z _ _ _ _ _ _ _ _ _ _ _ _ _ _ _ _ _ _ _ _ [vI 1]
  refine z_aload_n F dL_law_2776 rfl 3 rfl ?_
  refine z_callV (As := []) (st := [vI 1]) F ((mX9_isConsistent l G N0 hm gm σ T.1 T.2.1 T.mv).frame H.m) cvL_305 (H.m _ _ (mI T.1 0 rfl)) (fun r9 h9 => by cases h9; rfl) rfl rfl ⟨le_f (Nat.le_of_ble_eq_true rfl), le_l (Nat.le_of_ble_eq_true rfl)⟩ rfl ⟨le_c (by (try simp only []); omega), le_s (by (try simp only []); omega)⟩ dL_law_2777 ?_
  rintro _ h9 ⟨hm1, ⟨rfl, s9, d9, mi, rs, rd⟩, D2, rfl⟩
  show Z _ _ _ _ _ _ _ _ _ _ _ _ _ _ _ _ _ _ _ _ [vI 1, vI 1]
  refine z_icmp_eq (tgt := 2785) F dL_law_2780 (by decide) (by decide) (by decide) (fun _ => ?_) (fun c9 => absurd rfl c9)
  exact K _ _ _ (sw (sw (su σ 30 0 0) 14 s9) 15 d9) ρ1 hm1 hc1 (by (try simp only []); omega) (by (try simp only []); omega) (H.stepM D2) (T.same mi (rg_sw (rg_sw (rg_su T.2.1 (by decide)) rs) rd) T.2.2.1 (SA.refl ρ1) (fun k n1 n2 n3 => by rw [sw_n n2, sw_n n1]; funext y; exact su_n n3))
