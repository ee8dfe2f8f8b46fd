section ZLF
variable {p : Program} {l : Launch} {e : Env} {R : Room} {s : State} {m : MethodId} {args : Array Value} {below : List Frame} {meth : Method} {c : Code} {own : String} {cc : ByteArray} {nL : Nat} {G : GG} {N0 : Nat} {A : Nat → Prop} {Q : State → Prop} {h : Hp} {k n pc : Nat} {lv : List (Nat × AV)} {st : List AV}
/-- 'ldc_w' of a float -/
theorem z_ldcwf (F : Fx p s m args meth c own cc nL G N0 A) {idx : Nat} {x : UInt32} (hc : Cond.constantFloat own idx x ∈ LW) (d : decode cc pc = .ok (.ldc_w idx, 3)) (K : Z p l e R s m args below meth c nL G N0 A Q h k n (pc + 3) lv (vF x :: st)) : Z p l e R s m args below meth c nL G N0 A Q h k n pc lv st := by
  obtain ⟨hx, hb, hml, hown, hts, hlocks, hKD, hSF, hA0, hAN⟩ := F
  intro H locs ls hP hA hS hl
  intro T hT X
  obtain ⟨t, a, b⟩ := K H locs ls hP hA hS hl T hT X
  refine ⟨t, ?_, b⟩
  obtain ⟨k9, cf, hk, hcf, hcp⟩ := Cond.constantFloat_spec hown (hts _ hc)
  obtain ⟨k', hk', he⟩ := X.warmed.alike.2.2 _ _ hk
  have d' : decode c.code (F0 m pc ls (st.map cv)).pc = .ok (.ldc_w idx, 3) := by rw [hb]; exact d
  jvm_step X.here [hx, d', ldc_w.wp_float (s := T) (f := F0 m pc ls (st.map cv)) X.here.top hk' (by rw [he]; exact hcf) hcp]
  exact a
end ZLF
theorem cnt_is {ρ : Sg} (hV : MC ρ) {f : Int → Int} {e : Int} (hf : ∀ j, 0 ≤ j → j < 120 → f j = ceF ρ (ρ 10 e) (ρ 11 e - ρ 10 e).toNat j) (h0 : 0 ≤ e) (h1 : e < ρ 8 0) : (if ρ 12 e = 102 then ρ 13 e else sumI f (5 * e) 5) = secS ρ e := by
  obtain ⟨v0, v1, v2, v8, v16, v24, v39, vC, vE, vJ, vK, vB, vO⟩ := id hV
  have E := vE e h0 h1
  unfold secS
  rw [sumI_g (f' := ceF ρ (ρ 10 e) (ρ 11 e - ρ 10 e).toNat) 5 (fun m m0 m1 => hf m (by omega) (by omega)), ceF_5 (by omega) (by omega) h0 h1, counted_is hV h0 h1]
theorem dsec_is {ρ : Sg} (hV : MC ρ) {f : Int → Int} {d b c : Int} (d0 : 0 ≤ d ∧ d ≤ 4) (hb : b = if 600 * d + 600 < ρ 0 0 then 600 * d + 600 else ρ 0 0) (hf : ∀ j, 0 ≤ j → j < 120 → f j = ceF ρ (d * 600) (b - d * 600).toNat j) : dyO (ρ 9) (ρ 12) f c d 1 (ρ 8 0).toNat = dyO (ρ 9) (ρ 12) (dyF ρ) c d 1 (ρ 8 0).toNat := by
  obtain ⟨v0, v1, v2, v8, v16, v24, v39, vC, vE, vJ, vK, vB, vO⟩ := id hV
  refine dyO_c _ (fun x x0 x1 => ?_)
  rw [hf _ (by omega) (by omega), ceF_at (by omega) d0.1 (by omega), dyF_at ρ d0.1 (by omega), Int.mul_comm d 600, day_is hV d0.1 hb]
theorem opS_b {ρ : Sg} (hV : MC ρ) {c : Int} (hc : 0 ≤ c ∧ c < ρ 2 0) : -120000000 ≤ opS ρ c ∧ opS ρ c ≤ 120000000 := by
  obtain ⟨v0, v1, v2, v8, v16, v24, v39, vC, vE, vJ, vK, vB, vO⟩ := id hV
  have C := vC c hc.1 hc.2
  exact opO_in (by omega) C.1 (fun x q1 q2 => secS_b hV q1 (by omega)) (fun x d q1 q2 q3 q4 => by
    have := dyF_at ρ (x := x) q3 q4
    rw [this]
    exact dayS_b hV q1 (by omega))
theorem ivM_b {ρ : Sg} (hV : MC ρ) {c : Int} : ∀ n : Nat, (n : Int) ≤ ρ 16 0 → -4000000 * (n : Int) ≤ ivM ρ c n ∧ ivM ρ c n ≤ 4000000 * n
  | 0, _ => by simp [ivM]
  | n + 1, h => by
    have h1 := ivM_b hV (c := c) n (by omega)
    obtain ⟨v0, v1, v2, v8, v16, v24, v39, vC, vE, vJ, vK, vB, vO⟩ := id hV
    have h3 := vJ n (by omega) (by omega)
    have h4 := lnS_in (σ := ρ) (i := n) (N := (ρ 17 n).toNat) (fun q q1 q2 => (h3.2.2.2.2.2 q q1 (by omega)).1) (ρ 17 n).toNat (Nat.le_refl _)
    rw [ivM]
    split <;> omega
theorem usS_b {ρ : Sg} (hV : MC ρ) {c : Int} (hc : 0 ≤ c ∧ c < ρ 2 0) : -160000000 ≤ usS ρ c ∧ usS ρ c ≤ 160000000 := by
  have h16 := hV.2.2.2.2.1
  have a := opS_b hV hc
  have b := ivM_b hV (c := c) (ρ 16 0).toNat (by omega)
  show _ ≤ opS ρ c + _ ∧ opS ρ c + _ ≤ _
  omega
theorem keptS_b {ρ : Sg} (hV : MC ρ) : 0 ≤ keptS ρ ∧ keptS ρ ≤ 24 := by
  have h8 := hV.2.2.2.1
  have := cst_in ρ 120 (ρ 8 0).toNat
  show 0 ≤ ρ 8 0 - _ ∧ ρ 8 0 - _ ≤ 24
  omega
theorem scS_s2 {ρ : Sg} (hV : MC ρ) {f : Int → Int} (hf : ∀ j, 0 ≤ j → j < 120 → f j = ceF ρ 0 (ρ 0 0 - 0).toNat j) : scS (sOf (sw ρ 14 f) 14) (ρ 8 0).toNat = scS (secS ρ) (ρ 8 0).toNat := by
  refine scS_c _ (fun x x0 x1 => ?_)
  have := (cells_all hV hf).1 x x0 (by omega)
  exact this
set_option maxRecDepth 100000 in
set_option maxHeartbeats 4000000 in
theorem mX8_counted (l : Launch) (G : GG) (N0 : Nat) (h : Hp) (hl9 : l.stackTraces = false) (g : Int → Nat) (ρ : Sg) (e9 : Int) (hI : CI G g ρ h) (hV : MC ρ) (r_e9 : -2147483648 ≤ e9 ∧ e9 < 2147483648) : CtX l G N0 yX8_counted (Cond.code yX8_counted cX8_counted 3 (some FieldType.int) :: LW) ({ frames := 7, cells := 4, slots := 24, locals := 260 }) [vR (g 0), vI e9] h (fun r h' => ¬ (¬ (0 ≤ e9 ∧ e9 < ρ 8 0)) ∧ ∃ ρ', r = some (vI (secS ρ e9)) ∧ SA (ρ) ρ' ∧ CI G g ρ' h') (fun E h' => ∃ ρ', SA ρ ρ' ∧ CI G g ρ' h' ∧ ((E = "java/lang/IndexOutOfBoundsException" ∧ (¬ (0 ≤ e9 ∧ e9 < ρ 8 0))))) := by
  refine ctX_of rfl rfl ?_
  intro p e s m args below meth c F hr htab
  have F : Fx p s m args meth c RX8 cX8_counted 3 G N0 (cA h s.heap.size) := F
  obtain ⟨v0, v1, v2, v8, v16, v24, v39, vC, vE, vJ, vK, vB, vO⟩ := id hV
  have E9 := vE e9
  show Z _ _ _ _ _ _ _ _ _ _ _ _ _ _ _ _ _ _ _ [(0, vR (g 0)), (1, vI e9)] []
  refine z_aload_n F dX8_counted_0 rfl 0 rfl ?_
  refine z_iload_n F dX8_counted_1 rfl 1 rfl ?_
  refine z_xcallV (As := [vI e9]) (st := []) F htab (mX8_entryAt l G N0 h hl9 g ρ e9 hI hV (by omega)) cvX8_138 (ci_0 hI) (fun r9 h9 => by cases h9; rfl) rfl rfl ⟨Nat.le_of_ble_eq_true rfl, Nat.le_of_ble_eq_true rfl⟩ rfl ⟨Nat.le_of_ble_eq_true rfl, Nat.le_of_ble_eq_true rfl⟩ dX8_counted_2 (fun E h9 hx => by obtain ⟨e1, rfl⟩ := hx; refine ⟨ρ, SA.refl _, hI, ?_⟩; obtain ⟨rfl, e2⟩ := e1; first | exact ⟨rfl, by omega⟩) (Nat.le_of_ble_eq_true rfl) (Nat.le_of_ble_eq_true rfl) ?_
  rintro _ h9 ⟨f2_0, rfl, hh9⟩
  rw [hh9]
  clear hh9 h9
  show Z _ _ _ _ _ _ _ _ _ _ _ _ _ _ _ _ _ _ _ _ [vR (aE ρ e9)]
  refine z_astore_n (lv' := [(2, vR (aE ρ e9)), (0, vR (g 0)), (1, vI e9)]) F dX8_counted_5 rfl (by decide) rfl ?_
  refine z_aload_n F dX8_counted_6 rfl 1 rfl ?_
  refine z_get (v := vR (g 2)) F (ci_0 hI) fX8_21 rfl dX8_counted_7 ?_
  refine z_aload_n F dX8_counted_10 rfl 0 rfl ?_
  refine z_get (v := vI (ρ 10 e9)) F (ci_e hI (show 0 ≤ e9 ∧ e9 < ρ 8 0 ∧ e9 < 100 from by omega)) fX8_152 rfl dX8_counted_11 ?_
  refine z_aload_n F dX8_counted_14 rfl 0 rfl ?_
  refine z_get (v := vI (ρ 11 e9)) F (ci_e hI (show 0 ≤ e9 ∧ e9 < ρ 8 0 ∧ e9 < 100 from by omega)) fX8_149 rfl dX8_counted_15 ?_
  refine z_callV (As := [vI (ρ 10 e9), vI (ρ 11 e9)]) (st := []) F (mX6_countByIntervals0 l G N0 h g ρ (ρ 10 e9) (ρ 11 e9) hI hV (by omega)) cvX8_173 (ci_2 hI) (fun r9 h9 => by cases h9; rfl) rfl rfl ⟨Nat.le_of_ble_eq_true rfl, Nat.le_of_ble_eq_true rfl⟩ rfl ⟨Nat.le_of_ble_eq_true rfl, Nat.le_of_ble_eq_true rfl⟩ dX8_counted_18 ?_
  rintro _ h5 ⟨rfl, p5, f5, I5, hf5⟩
  show Z _ _ _ _ _ _ _ _ _ _ _ _ _ _ _ _ _ _ _ _ []
  refine z_aload_n F dX8_counted_21 rfl 1 rfl ?_
  refine z_get (v := vR (g 2)) F (ci_0 (ρ := (sw (sw ρ 34 p5) 14 f5)) I5) fX8_21 rfl dX8_counted_22 ?_
  refine z_aload_n F dX8_counted_25 rfl 0 rfl ?_
  refine z_callV (As := [vR (aE ρ e9)]) (st := []) F (mX6_secondsOf0 l G N0 h5 g (sw (sw ρ 34 p5) 14 f5) e9 I5 (show 0 ≤ e9 ∧ e9 < ρ 8 0 from by omega) (show ρ 8 0 ≤ 24 from by omega) (show 0 ≤ ρ 12 e9 ∧ ρ 12 e9 ≤ 200 from by omega)) cvX8_177 (ci_2 (ρ := (sw (sw ρ 34 p5) 14 f5)) I5) (fun r9 h9 => by cases h9; rfl) rfl rfl ⟨Nat.le_of_ble_eq_true rfl, Nat.le_of_ble_eq_true rfl⟩ rfl ⟨Nat.le_of_ble_eq_true rfl, Nat.le_of_ble_eq_true rfl⟩ dX8_counted_26 ?_
  rintro _ h9 ⟨rfl, hh9⟩
  rw [hh9]
  clear hh9 h9
  show Z _ _ _ _ _ _ _ _ _ _ _ _ _ _ _ _ _ _ _ _ [vI (sOf (sw (sw ρ 34 p5) 14 f5) 14 e9)]
  exact z_iretX (nf_i _) F hr (Nat.le_of_ble_eq_true rfl) (Nat.le_of_ble_eq_true rfl) dX8_counted_29 (⟨by omega, (sw (sw ρ 34 p5) 14 f5), rI (by exact cnt_is hV hf5 (by omega) (by omega)), (((SA.refl ρ).sw rfl _).sw rfl _), I5⟩)
set_option maxRecDepth 100000 in
set_option maxHeartbeats 4000000 in
theorem mX8_countedByMinutes (l : Launch) (G : GG) (N0 : Nat) (h : Hp) (hl9 : l.stackTraces = false) (g : Int → Nat) (ρ : Sg) (e9 : Int) (hI : CI G g ρ h) (hV : MC ρ) (r_e9 : -2147483648 ≤ e9 ∧ e9 < 2147483648) : CtX l G N0 yX8_countedByMinutes (Cond.code yX8_countedByMinutes cX8_countedByMinutes 3 (some FieldType.int) :: LW) ({ frames := 7, cells := 4, slots := 24, locals := 260 }) [vR (g 0), vI e9] h (fun r h' => ¬ (¬ (0 ≤ e9 ∧ e9 < ρ 8 0)) ∧ ∃ ρ', r = some (vI (secS ρ e9)) ∧ SA (ρ) ρ' ∧ CI G g ρ' h') (fun E h' => ∃ ρ', SA ρ ρ' ∧ CI G g ρ' h' ∧ ((E = "java/lang/IndexOutOfBoundsException" ∧ (¬ (0 ≤ e9 ∧ e9 < ρ 8 0))))) := by
  refine ctX_of rfl rfl ?_
  intro p e s m args below meth c F hr htab
  have F : Fx p s m args meth c RX8 cX8_countedByMinutes 3 G N0 (cA h s.heap.size) := F
  obtain ⟨v0, v1, v2, v8, v16, v24, v39, vC, vE, vJ, vK, vB, vO⟩ := id hV
  have E9 := vE e9
  show Z _ _ _ _ _ _ _ _ _ _ _ _ _ _ _ _ _ _ _ [(0, vR (g 0)), (1, vI e9)] []
  refine z_aload_n F dX8_countedByMinutes_0 rfl 0 rfl ?_
  refine z_iload_n F dX8_countedByMinutes_1 rfl 1 rfl ?_
  refine z_xcallV (As := [vI e9]) (st := []) F htab (mX8_entryAt l G N0 h hl9 g ρ e9 hI hV (by omega)) cvX8_138 (ci_0 hI) (fun r9 h9 => by cases h9; rfl) rfl rfl ⟨Nat.le_of_ble_eq_true rfl, Nat.le_of_ble_eq_true rfl⟩ rfl ⟨Nat.le_of_ble_eq_true rfl, Nat.le_of_ble_eq_true rfl⟩ dX8_countedByMinutes_2 (fun E h9 hx => by obtain ⟨e1, rfl⟩ := hx; refine ⟨ρ, SA.refl _, hI, ?_⟩; obtain ⟨rfl, e2⟩ := e1; first | exact ⟨rfl, by omega⟩) (Nat.le_of_ble_eq_true rfl) (Nat.le_of_ble_eq_true rfl) ?_
  rintro _ h9 ⟨f2_0, rfl, hh9⟩
  rw [hh9]
  clear hh9 h9
  show Z _ _ _ _ _ _ _ _ _ _ _ _ _ _ _ _ _ _ _ _ [vR (aE ρ e9)]
  refine z_astore_n (lv' := [(2, vR (aE ρ e9)), (0, vR (g 0)), (1, vI e9)]) F dX8_countedByMinutes_5 rfl (by decide) rfl ?_
  refine z_aload_n F dX8_countedByMinutes_6 rfl 1 rfl ?_
  refine z_get (v := vR (g 3)) F (ci_0 hI) fX8_25 rfl dX8_countedByMinutes_7 ?_
  refine z_aload_n F dX8_countedByMinutes_10 rfl 0 rfl ?_
  refine z_get (v := vI (ρ 10 e9)) F (ci_e hI (show 0 ≤ e9 ∧ e9 < ρ 8 0 ∧ e9 < 100 from by omega)) fX8_152 rfl dX8_countedByMinutes_11 ?_
  refine z_aload_n F dX8_countedByMinutes_14 rfl 0 rfl ?_
  refine z_get (v := vI (ρ 11 e9)) F (ci_e hI (show 0 ≤ e9 ∧ e9 < ρ 8 0 ∧ e9 < 100 from by omega)) fX8_149 rfl dX8_countedByMinutes_15 ?_
  refine z_callV (As := [vI (ρ 10 e9), vI (ρ 11 e9)]) (st := []) F (mX6_countByMinutes1 l G N0 h g ρ (ρ 10 e9) (ρ 11 e9) hI hV (by omega)) cvX8_181 (ci_3 hI) (fun r9 h9 => by cases h9; rfl) rfl rfl ⟨Nat.le_of_ble_eq_true rfl, Nat.le_of_ble_eq_true rfl⟩ rfl ⟨Nat.le_of_ble_eq_true rfl, Nat.le_of_ble_eq_true rfl⟩ dX8_countedByMinutes_18 ?_
  rintro _ h5 ⟨rfl, p5, f5, I5, hf5⟩
  show Z _ _ _ _ _ _ _ _ _ _ _ _ _ _ _ _ _ _ _ _ []
  refine z_aload_n F dX8_countedByMinutes_21 rfl 1 rfl ?_
  refine z_get (v := vR (g 3)) F (ci_0 (ρ := (sw (sw ρ 34 p5) 15 f5)) I5) fX8_25 rfl dX8_countedByMinutes_22 ?_
  refine z_aload_n F dX8_countedByMinutes_25 rfl 0 rfl ?_
  refine z_callV (As := [vR (aE ρ e9)]) (st := []) F (mX6_secondsOf1 l G N0 h5 g (sw (sw ρ 34 p5) 15 f5) e9 I5 (show 0 ≤ e9 ∧ e9 < ρ 8 0 from by omega) (show ρ 8 0 ≤ 24 from by omega) (show 0 ≤ ρ 12 e9 ∧ ρ 12 e9 ≤ 200 from by omega)) cvX8_177 (ci_3 (ρ := (sw (sw ρ 34 p5) 15 f5)) I5) (fun r9 h9 => by cases h9; rfl) rfl rfl ⟨Nat.le_of_ble_eq_true rfl, Nat.le_of_ble_eq_true rfl⟩ rfl ⟨Nat.le_of_ble_eq_true rfl, Nat.le_of_ble_eq_true rfl⟩ dX8_countedByMinutes_26 ?_
  rintro _ h9 ⟨rfl, hh9⟩
  rw [hh9]
  clear hh9 h9
  show Z _ _ _ _ _ _ _ _ _ _ _ _ _ _ _ _ _ _ _ _ [vI (sOf (sw (sw ρ 34 p5) 15 f5) 15 e9)]
  exact z_iretX (nf_i _) F hr (Nat.le_of_ble_eq_true rfl) (Nat.le_of_ble_eq_true rfl) dX8_countedByMinutes_29 (⟨by omega, (sw (sw ρ 34 p5) 15 f5), rI (by exact cnt_is hV hf5 (by omega) (by omega)), (((SA.refl ρ).sw rfl _).sw rfl _), I5⟩)
set_option maxRecDepth 100000 in
set_option maxHeartbeats 4000000 in
theorem mX8_dayStart (l : Launch) (G : GG) (N0 : Nat) (h : Hp) (g : Int → Nat) (ρ : Sg) (d9 : Int) (hI : CI G g ρ h) (hV : MC ρ) (hd : 0 ≤ d9 ∧ d9 ≤ 4) : Ct l G N0 yX8_dayStart (Cond.code yX8_dayStart cX8_dayStart 2 (some FieldType.int) :: LW) ({ frames := 0, cells := 0, slots := 0, locals := 0 }) [vR (g 0), vI d9] h (fun r h' => r = some (vI (d9 * 600)) ∧ h' = h) := by
  refine ct_of rfl rfl ?_
  intro p e s m args below meth c F hr hnm
  have F : Fx p s m args meth c RX8 cX8_dayStart 2 G N0 (cA h s.heap.size) := F
  obtain ⟨v0, v1, v2, v8, v16, v24, v39, vC, vE, vJ, vK, vB, vO⟩ := id hV
  show Z _ _ _ _ _ _ _ _ _ _ _ _ _ _ _ _ _ _ _ [(0, vR (g 0)), (1, vI d9)] []
  refine z_iload_n F dX8_dayStart_0 rfl 1 rfl ?_
  refine z_sipush F dX8_dayStart_1 (by decide) ?_
  refine z_imul F dX8_dayStart_4 ?_
  exact z_iret (nf_i _) F hr (Nat.le_of_ble_eq_true rfl) (Nat.le_of_ble_eq_true rfl) dX8_dayStart_5 (⟨rfl, rfl⟩)
set_option maxRecDepth 100000 in
set_option maxHeartbeats 4000000 in
theorem mX8_dayEnd (l : Launch) (G : GG) (N0 : Nat) (h : Hp) (g : Int → Nat) (ρ : Sg) (d9 : Int) (hI : CI G g ρ h) (hV : MC ρ) (hd : 0 ≤ d9 ∧ d9 ≤ 4) : Ct l G N0 yX8_dayEnd (Cond.code yX8_dayEnd cX8_dayEnd 2 (some FieldType.int) :: LW) ({ frames := 2, cells := 0, slots := 0, locals := 100 }) [vR (g 0), vI d9] h (fun r h' => r = some (vI (if 600 * d9 + 600 < ρ 0 0 then 600 * d9 + 600 else ρ 0 0)) ∧ h' = h) := by
  refine ct_of rfl rfl ?_
  intro p e s m args below meth c F hr hnm
  have F : Fx p s m args meth c RX8 cX8_dayEnd 2 G N0 (cA h s.heap.size) := F
  obtain ⟨v0, v1, v2, v8, v16, v24, v39, vC, vE, vJ, vK, vB, vO⟩ := id hV
  show Z _ _ _ _ _ _ _ _ _ _ _ _ _ _ _ _ _ _ _ [(0, vR (g 0)), (1, vI d9)] []
  refine z_aload_n F dX8_dayEnd_0 rfl 0 rfl ?_
  refine z_iload_n F dX8_dayEnd_1 rfl 1 rfl ?_
  refine z_callV (As := [vI d9]) (st := []) F (mX8_dayStart l G N0 h g ρ d9 hI hV (by omega)) cvX8_232 (ci_0 hI) (fun r9 h9 => by cases h9; rfl) rfl rfl ⟨Nat.le_of_ble_eq_true rfl, Nat.le_of_ble_eq_true rfl⟩ rfl ⟨Nat.le_of_ble_eq_true rfl, Nat.le_of_ble_eq_true rfl⟩ dX8_dayEnd_2 ?_
  rintro _ h9 ⟨rfl, hh9⟩
  rw [hh9]
  clear hh9 h9
  show Z _ _ _ _ _ _ _ _ _ _ _ _ _ _ _ _ _ _ _ _ [vI (d9 * 600)]
  refine z_sipush F dX8_dayEnd_5 (by decide) ?_
  refine z_iadd F dX8_dayEnd_8 ?_
  refine z_aload_n F dX8_dayEnd_9 rfl 0 rfl ?_
  refine z_get (v := vR (g 1)) F (ci_0 hI) fX8_10 rfl dX8_dayEnd_10 ?_
  refine z_get (v := vI (ρ 0 0)) F (ci_1 hI) fX8_57 rfl dX8_dayEnd_13 ?_
  refine z_mmin F mmX8_401 ⟨Nat.le_of_ble_eq_true rfl, Nat.le_of_ble_eq_true rfl, (Nat.le_of_ble_eq_true rfl), (Nat.le_of_ble_eq_true rfl)⟩ (by omega) (by omega) dX8_dayEnd_16 ?_
  generalize ex1 : (if ρ 0 0 < (d9 * 600) + 600 then ρ 0 0 else (d9 * 600) + 600) = x1
  have rx1 := ex1
  exact z_iret (nf_i _) F hr (Nat.le_of_ble_eq_true rfl) (Nat.le_of_ble_eq_true rfl) dX8_dayEnd_19 (⟨rI (by omega), rfl⟩)
set_option maxRecDepth 100000 in
set_option maxHeartbeats 4000000 in
theorem mX8_daySeconds (l : Launch) (G : GG) (N0 : Nat) (h : Hp) (hl9 : l.stackTraces = false) (g : Int → Nat) (ρ : Sg) (c9 d9 : Int) (hI : CI G g ρ h) (hV : MC ρ) (r_c9 : -2147483648 ≤ c9 ∧ c9 < 2147483648) (r_d9 : -2147483648 ≤ d9 ∧ d9 < 2147483648) : CtX l G N0 yX8_daySeconds (Cond.code yX8_daySeconds cX8_daySeconds 4 (some FieldType.int) :: LW) ({ frames := 7, cells := 4, slots := 24, locals := 260 }) [vR (g 0), vI c9, vI d9] h (fun r h' => ¬ (¬ (0 ≤ c9 ∧ c9 < ρ 2 0)) ∧ ¬ (¬ (0 ≤ d9 ∧ d9 ≤ 4)) ∧ ∃ ρ', r = some (vI (dyO (ρ 9) (ρ 12) (dyF ρ) c9 d9 1 (ρ 8 0).toNat)) ∧ SA (ρ) ρ' ∧ CI G g ρ' h') (fun E h' => ∃ ρ', SA ρ ρ' ∧ CI G g ρ' h' ∧ ((E = "java/lang/IndexOutOfBoundsException" ∧ (¬ (0 ≤ c9 ∧ c9 < ρ 2 0))) ∨ (E = "java/lang/IllegalArgumentException" ∧ ¬ (¬ (0 ≤ c9 ∧ c9 < ρ 2 0)) ∧ (¬ (0 ≤ d9 ∧ d9 ≤ 4))))) := by
  refine ctX_of rfl rfl ?_
  intro p e s m args below meth c F hr htab
  have F : Fx p s m args meth c RX8 cX8_daySeconds 4 G N0 (cA h s.heap.size) := F
  obtain ⟨v0, v1, v2, v8, v16, v24, v39, vC, vE, vJ, vK, vB, vO⟩ := id hV
  show Z _ _ _ _ _ _ _ _ _ _ _ _ _ _ _ _ _ _ _ [(0, vR (g 0)), (1, vI c9), (2, vI d9)] []
  refine z_aload_n F dX8_daySeconds_0 rfl 0 rfl ?_
  refine z_iload_n F dX8_daySeconds_1 rfl 1 rfl ?_
  refine z_xcallV (As := [vI c9]) (st := []) F htab (mX8_clientAt l G N0 h hl9 g ρ c9 hI hV (by omega)) cvX8_105 (ci_0 hI) (fun r9 h9 => by cases h9; rfl) rfl rfl ⟨Nat.le_of_ble_eq_true rfl, Nat.le_of_ble_eq_true rfl⟩ rfl ⟨Nat.le_of_ble_eq_true rfl, Nat.le_of_ble_eq_true rfl⟩ dX8_daySeconds_2 (fun E h9 hx => by obtain ⟨e1, rfl⟩ := hx; refine ⟨ρ, SA.refl _, hI, ?_⟩; obtain ⟨rfl, e2⟩ := e1; first | exact Or.inl ⟨rfl, by omega⟩ | exact Or.inr (⟨rfl, by omega, by omega⟩)) (Nat.le_of_ble_eq_true rfl) (Nat.le_of_ble_eq_true rfl) ?_
  rintro _ h9 ⟨f2_0, rfl, hh9⟩
  rw [hh9]
  clear hh9 h9
  show Z _ _ _ _ _ _ _ _ _ _ _ _ _ _ _ _ _ _ _ _ [vR (aC ρ c9)]
  refine z_astore_n (lv' := [(3, vR (aC ρ c9)), (0, vR (g 0)), (1, vI c9), (2, vI d9)]) F dX8_daySeconds_5 rfl (by decide) rfl ?_
  refine z_aload_n F dX8_daySeconds_6 rfl 1 rfl ?_
  refine z_iload_n F dX8_daySeconds_7 rfl 3 rfl ?_
  refine z_xcallV (As := [vI d9]) (st := []) F htab (mX8_requireDay l G N0 h hl9 g ρ d9 hI hV (by omega)) cvX8_229 (ci_0 hI) (fun r9 h9 => by cases h9; rfl) rfl rfl ⟨Nat.le_of_ble_eq_true rfl, Nat.le_of_ble_eq_true rfl⟩ rfl ⟨Nat.le_of_ble_eq_true rfl, Nat.le_of_ble_eq_true rfl⟩ dX8_daySeconds_8 (fun E h9 hx => by obtain ⟨e1, rfl⟩ := hx; refine ⟨ρ, SA.refl _, hI, ?_⟩; obtain ⟨rfl, e2⟩ := e1; first | exact Or.inl ⟨rfl, by omega⟩ | exact Or.inr (⟨rfl, by omega, by omega⟩)) (Nat.le_of_ble_eq_true rfl) (Nat.le_of_ble_eq_true rfl) ?_
  rintro _ h9 ⟨f8_0, rfl, hh9⟩
  rw [hh9]
  clear hh9 h9
  show Z _ _ _ _ _ _ _ _ _ _ _ _ _ _ _ _ _ _ _ _ []
  refine z_aload_n F dX8_daySeconds_11 rfl 1 rfl ?_
  refine z_get (v := vR (g 2)) F (ci_0 hI) fX8_21 rfl dX8_daySeconds_12 ?_
  refine z_aload_n F dX8_daySeconds_15 rfl 1 rfl ?_
  refine z_iload_n F dX8_daySeconds_16 rfl 3 rfl ?_
  refine z_callV (As := [vI d9]) (st := [vR (g 2)]) F (mX8_dayStart l G N0 h g ρ d9 hI hV (by omega)) cvX8_232 (ci_0 hI) (fun r9 h9 => by cases h9; rfl) rfl rfl ⟨Nat.le_of_ble_eq_true rfl, Nat.le_of_ble_eq_true rfl⟩ rfl ⟨Nat.le_of_ble_eq_true rfl, Nat.le_of_ble_eq_true rfl⟩ dX8_daySeconds_17 ?_
  rintro _ h9 ⟨rfl, hh9⟩
  rw [hh9]
  clear hh9 h9
  show Z _ _ _ _ _ _ _ _ _ _ _ _ _ _ _ _ _ _ _ _ [vI (d9 * 600), vR (g 2)]
  refine z_aload_n F dX8_daySeconds_20 rfl 1 rfl ?_
  refine z_iload_n F dX8_daySeconds_21 rfl 3 rfl ?_
  refine z_callV (As := [vI d9]) (st := [vI (d9 * 600), vR (g 2)]) F (mX8_dayEnd l G N0 h g ρ d9 hI hV (by omega)) cvX8_235 (ci_0 hI) (fun r9 h9 => by cases h9; rfl) rfl rfl ⟨Nat.le_of_ble_eq_true rfl, Nat.le_of_ble_eq_true rfl⟩ rfl ⟨Nat.le_of_ble_eq_true rfl, Nat.le_of_ble_eq_true rfl⟩ dX8_daySeconds_22 ?_
  rintro _ h9 ⟨rfl, hh9⟩
  rw [hh9]
  clear hh9 h9
  obtain ⟨x1, ex1⟩ : ∃ z, z = (if 600 * d9 + 600 < ρ 0 0 then 600 * d9 + 600 else ρ 0 0) := ⟨_, rfl⟩
  rw [← ex1]
  show Z _ _ _ _ _ _ _ _ _ _ _ _ _ _ _ _ _ _ _ _ [vI x1, vI (d9 * 600), vR (g 2)]
  refine z_callV (As := [vI (d9 * 600), vI x1]) (st := []) F (mX6_countByIntervals0 l G N0 h g ρ (d9 * 600) x1 hI hV (by omega)) cvX8_173 (ci_2 hI) (fun r9 h9 => by cases h9; rfl) rfl rfl ⟨Nat.le_of_ble_eq_true rfl, Nat.le_of_ble_eq_true rfl⟩ rfl ⟨Nat.le_of_ble_eq_true rfl, Nat.le_of_ble_eq_true rfl⟩ dX8_daySeconds_25 ?_
  rintro _ h5 ⟨rfl, p5, f5, I5, hf5⟩
  show Z _ _ _ _ _ _ _ _ _ _ _ _ _ _ _ _ _ _ _ _ []
  refine z_aload_n F dX8_daySeconds_28 rfl 1 rfl ?_
  refine z_get (v := vR (g 2)) F (ci_0 (ρ := (sw (sw ρ 34 p5) 14 f5)) I5) fX8_21 rfl dX8_daySeconds_29 ?_
  refine z_aload_n F dX8_daySeconds_32 rfl 0 rfl ?_
  refine z_iload_n F dX8_daySeconds_33 rfl 3 rfl ?_
  refine z_callV (As := [vR (aC ρ c9), vI d9]) (st := []) F (mX6_openSecondsInDay0 l G N0 h5 g (sw (sw ρ 34 p5) 14 f5) c9 d9 I5 (MC.sa (((SA.refl ρ).sw rfl _).sw rfl _) hV) (show 0 ≤ c9 ∧ c9 < ρ 2 0 from by omega) (by omega)) cvX8_238 (ci_2 (ρ := (sw (sw ρ 34 p5) 14 f5)) I5) (fun r9 h9 => by cases h9; rfl) rfl rfl ⟨Nat.le_of_ble_eq_true rfl, Nat.le_of_ble_eq_true rfl⟩ rfl ⟨Nat.le_of_ble_eq_true rfl, Nat.le_of_ble_eq_true rfl⟩ dX8_daySeconds_34 ?_
  rintro _ h9 ⟨rfl, hh9⟩
  rw [hh9]
  clear hh9 h9
  show Z _ _ _ _ _ _ _ _ _ _ _ _ _ _ _ _ _ _ _ _ [vI (dyO (ρ 9) (ρ 12) f5 c9 d9 1 (ρ 8 0).toNat)]
  exact z_iretX (nf_i _) F hr (Nat.le_of_ble_eq_true rfl) (Nat.le_of_ble_eq_true rfl) dX8_daySeconds_37 (⟨by omega, by omega, (sw (sw ρ 34 p5) 14 f5), rI (by exact dsec_is hV (by omega) (by assumption) hf5), (((SA.refl ρ).sw rfl _).sw rfl _), I5⟩)
set_option maxRecDepth 100000 in
set_option maxHeartbeats 4000000 in
theorem mX8_daySecondsByMinutes (l : Launch) (G : GG) (N0 : Nat) (h : Hp) (hl9 : l.stackTraces = false) (g : Int → Nat) (ρ : Sg) (c9 d9 : Int) (hI : CI G g ρ h) (hV : MC ρ) (r_c9 : -2147483648 ≤ c9 ∧ c9 < 2147483648) (r_d9 : -2147483648 ≤ d9 ∧ d9 < 2147483648) : CtX l G N0 yX8_daySecondsByMinutes (Cond.code yX8_daySecondsByMinutes cX8_daySecondsByMinutes 4 (some FieldType.int) :: LW) ({ frames := 7, cells := 4, slots := 24, locals := 260 }) [vR (g 0), vI c9, vI d9] h (fun r h' => ¬ (¬ (0 ≤ c9 ∧ c9 < ρ 2 0)) ∧ ¬ (¬ (0 ≤ d9 ∧ d9 ≤ 4)) ∧ ∃ ρ', r = some (vI (dyO (ρ 9) (ρ 12) (dyF ρ) c9 d9 1 (ρ 8 0).toNat)) ∧ SA (ρ) ρ' ∧ CI G g ρ' h') (fun E h' => ∃ ρ', SA ρ ρ' ∧ CI G g ρ' h' ∧ ((E = "java/lang/IndexOutOfBoundsException" ∧ (¬ (0 ≤ c9 ∧ c9 < ρ 2 0))) ∨ (E = "java/lang/IllegalArgumentException" ∧ ¬ (¬ (0 ≤ c9 ∧ c9 < ρ 2 0)) ∧ (¬ (0 ≤ d9 ∧ d9 ≤ 4))))) := by
  refine ctX_of rfl rfl ?_
  intro p e s m args below meth c F hr htab
  have F : Fx p s m args meth c RX8 cX8_daySecondsByMinutes 4 G N0 (cA h s.heap.size) := F
  obtain ⟨v0, v1, v2, v8, v16, v24, v39, vC, vE, vJ, vK, vB, vO⟩ := id hV
  show Z _ _ _ _ _ _ _ _ _ _ _ _ _ _ _ _ _ _ _ [(0, vR (g 0)), (1, vI c9), (2, vI d9)] []
  refine z_aload_n F dX8_daySecondsByMinutes_0 rfl 0 rfl ?_
  refine z_iload_n F dX8_daySecondsByMinutes_1 rfl 1 rfl ?_
  refine z_xcallV (As := [vI c9]) (st := []) F htab (mX8_clientAt l G N0 h hl9 g ρ c9 hI hV (by omega)) cvX8_105 (ci_0 hI) (fun r9 h9 => by cases h9; rfl) rfl rfl ⟨Nat.le_of_ble_eq_true rfl, Nat.le_of_ble_eq_true rfl⟩ rfl ⟨Nat.le_of_ble_eq_true rfl, Nat.le_of_ble_eq_true rfl⟩ dX8_daySecondsByMinutes_2 (fun E h9 hx => by obtain ⟨e1, rfl⟩ := hx; refine ⟨ρ, SA.refl _, hI, ?_⟩; obtain ⟨rfl, e2⟩ := e1; first | exact Or.inl ⟨rfl, by omega⟩ | exact Or.inr (⟨rfl, by omega, by omega⟩)) (Nat.le_of_ble_eq_true rfl) (Nat.le_of_ble_eq_true rfl) ?_
  rintro _ h9 ⟨f2_0, rfl, hh9⟩
  rw [hh9]
  clear hh9 h9
  show Z _ _ _ _ _ _ _ _ _ _ _ _ _ _ _ _ _ _ _ _ [vR (aC ρ c9)]
  refine z_astore_n (lv' := [(3, vR (aC ρ c9)), (0, vR (g 0)), (1, vI c9), (2, vI d9)]) F dX8_daySecondsByMinutes_5 rfl (by decide) rfl ?_
  refine z_aload_n F dX8_daySecondsByMinutes_6 rfl 1 rfl ?_
  refine z_iload_n F dX8_daySecondsByMinutes_7 rfl 3 rfl ?_
  refine z_xcallV (As := [vI d9]) (st := []) F htab (mX8_requireDay l G N0 h hl9 g ρ d9 hI hV (by omega)) cvX8_229 (ci_0 hI) (fun r9 h9 => by cases h9; rfl) rfl rfl ⟨Nat.le_of_ble_eq_true rfl, Nat.le_of_ble_eq_true rfl⟩ rfl ⟨Nat.le_of_ble_eq_true rfl, Nat.le_of_ble_eq_true rfl⟩ dX8_daySecondsByMinutes_8 (fun E h9 hx => by obtain ⟨e1, rfl⟩ := hx; refine ⟨ρ, SA.refl _, hI, ?_⟩; obtain ⟨rfl, e2⟩ := e1; first | exact Or.inl ⟨rfl, by omega⟩ | exact Or.inr (⟨rfl, by omega, by omega⟩)) (Nat.le_of_ble_eq_true rfl) (Nat.le_of_ble_eq_true rfl) ?_
  rintro _ h9 ⟨f8_0, rfl, hh9⟩
  rw [hh9]
  clear hh9 h9
  show Z _ _ _ _ _ _ _ _ _ _ _ _ _ _ _ _ _ _ _ _ []
  refine z_aload_n F dX8_daySecondsByMinutes_11 rfl 1 rfl ?_
  refine z_get (v := vR (g 3)) F (ci_0 hI) fX8_25 rfl dX8_daySecondsByMinutes_12 ?_
  refine z_aload_n F dX8_daySecondsByMinutes_15 rfl 1 rfl ?_
  refine z_iload_n F dX8_daySecondsByMinutes_16 rfl 3 rfl ?_
  refine z_callV (As := [vI d9]) (st := [vR (g 3)]) F (mX8_dayStart l G N0 h g ρ d9 hI hV (by omega)) cvX8_232 (ci_0 hI) (fun r9 h9 => by cases h9; rfl) rfl rfl ⟨Nat.le_of_ble_eq_true rfl, Nat.le_of_ble_eq_true rfl⟩ rfl ⟨Nat.le_of_ble_eq_true rfl, Nat.le_of_ble_eq_true rfl⟩ dX8_daySecondsByMinutes_17 ?_
  rintro _ h9 ⟨rfl, hh9⟩
  rw [hh9]
  clear hh9 h9
  show Z _ _ _ _ _ _ _ _ _ _ _ _ _ _ _ _ _ _ _ _ [vI (d9 * 600), vR (g 3)]
  refine z_aload_n F dX8_daySecondsByMinutes_20 rfl 1 rfl ?_
  refine z_iload_n F dX8_daySecondsByMinutes_21 rfl 3 rfl ?_
  refine z_callV (As := [vI d9]) (st := [vI (d9 * 600), vR (g 3)]) F (mX8_dayEnd l G N0 h g ρ d9 hI hV (by omega)) cvX8_235 (ci_0 hI) (fun r9 h9 => by cases h9; rfl) rfl rfl ⟨Nat.le_of_ble_eq_true rfl, Nat.le_of_ble_eq_true rfl⟩ rfl ⟨Nat.le_of_ble_eq_true rfl, Nat.le_of_ble_eq_true rfl⟩ dX8_daySecondsByMinutes_22 ?_
  rintro _ h9 ⟨rfl, hh9⟩
  rw [hh9]
  clear hh9 h9
  obtain ⟨x1, ex1⟩ : ∃ z, z = (if 600 * d9 + 600 < ρ 0 0 then 600 * d9 + 600 else ρ 0 0) := ⟨_, rfl⟩
  rw [← ex1]
  show Z _ _ _ _ _ _ _ _ _ _ _ _ _ _ _ _ _ _ _ _ [vI x1, vI (d9 * 600), vR (g 3)]
  refine z_callV (As := [vI (d9 * 600), vI x1]) (st := []) F (mX6_countByMinutes1 l G N0 h g ρ (d9 * 600) x1 hI hV (by omega)) cvX8_181 (ci_3 hI) (fun r9 h9 => by cases h9; rfl) rfl rfl ⟨Nat.le_of_ble_eq_true rfl, Nat.le_of_ble_eq_true rfl⟩ rfl ⟨Nat.le_of_ble_eq_true rfl, Nat.le_of_ble_eq_true rfl⟩ dX8_daySecondsByMinutes_25 ?_
  rintro _ h5 ⟨rfl, p5, f5, I5, hf5⟩
  show Z _ _ _ _ _ _ _ _ _ _ _ _ _ _ _ _ _ _ _ _ []
  refine z_aload_n F dX8_daySecondsByMinutes_28 rfl 1 rfl ?_
  refine z_get (v := vR (g 3)) F (ci_0 (ρ := (sw (sw ρ 34 p5) 15 f5)) I5) fX8_25 rfl dX8_daySecondsByMinutes_29 ?_
  refine z_aload_n F dX8_daySecondsByMinutes_32 rfl 0 rfl ?_
  refine z_iload_n F dX8_daySecondsByMinutes_33 rfl 3 rfl ?_
  refine z_callV (As := [vR (aC ρ c9), vI d9]) (st := []) F (mX6_openSecondsInDay1 l G N0 h5 g (sw (sw ρ 34 p5) 15 f5) c9 d9 I5 (MC.sa (((SA.refl ρ).sw rfl _).sw rfl _) hV) (show 0 ≤ c9 ∧ c9 < ρ 2 0 from by omega) (by omega)) cvX8_238 (ci_3 (ρ := (sw (sw ρ 34 p5) 15 f5)) I5) (fun r9 h9 => by cases h9; rfl) rfl rfl ⟨Nat.le_of_ble_eq_true rfl, Nat.le_of_ble_eq_true rfl⟩ rfl ⟨Nat.le_of_ble_eq_true rfl, Nat.le_of_ble_eq_true rfl⟩ dX8_daySecondsByMinutes_34 ?_
  rintro _ h9 ⟨rfl, hh9⟩
  rw [hh9]
  clear hh9 h9
  show Z _ _ _ _ _ _ _ _ _ _ _ _ _ _ _ _ _ _ _ _ [vI (dyO (ρ 9) (ρ 12) f5 c9 d9 1 (ρ 8 0).toNat)]
  exact z_iretX (nf_i _) F hr (Nat.le_of_ble_eq_true rfl) (Nat.le_of_ble_eq_true rfl) dX8_daySecondsByMinutes_37 (⟨by omega, by omega, (sw (sw ρ 34 p5) 15 f5), rI (by exact dsec_is hV (by omega) (by assumption) hf5), (((SA.refl ρ).sw rfl _).sw rfl _), I5⟩)
set_option maxRecDepth 100000 in
set_option maxHeartbeats 4000000 in
theorem mX8_openMinutes (l : Launch) (G : GG) (N0 : Nat) (h : Hp) (hl9 : l.stackTraces = false) (g : Int → Nat) (ρ : Sg) (c9 : Int) (hI : CI G g ρ h) (hV : MC ρ) (r_c9 : -2147483648 ≤ c9 ∧ c9 < 2147483648) : CtX l G N0 yX8_openMinutes (Cond.code yX8_openMinutes cX8_openMinutes 3 (some FieldType.int) :: LW) ({ frames := 9, cells := 27, slots := 2430, locals := 500 }) [vR (g 0), vI c9] h (fun r h' => ¬ (¬ (0 ≤ c9 ∧ c9 < ρ 2 0)) ∧ ∃ ρ', r = some (vI (opS ρ c9)) ∧ SA (ρ) ρ' ∧ CI G g ρ' h') (fun E h' => ∃ ρ', SA ρ ρ' ∧ CI G g ρ' h' ∧ ((E = "java/lang/IndexOutOfBoundsException" ∧ (¬ (0 ≤ c9 ∧ c9 < ρ 2 0))))) := by
  refine ctX_of rfl rfl ?_
  intro p e s m args below meth c F hr htab
  have F : Fx p s m args meth c RX8 cX8_openMinutes 3 G N0 (cA h s.heap.size) := F
  obtain ⟨v0, v1, v2, v8, v16, v24, v39, vC, vE, vJ, vK, vB, vO⟩ := id hV
  show Z _ _ _ _ _ _ _ _ _ _ _ _ _ _ _ _ _ _ _ [(0, vR (g 0)), (1, vI c9)] []
  refine z_aload_n F dX8_openMinutes_0 rfl 0 rfl ?_
  refine z_iload_n F dX8_openMinutes_1 rfl 1 rfl ?_
  refine z_xcallV (As := [vI c9]) (st := []) F htab (mX8_clientAt l G N0 h hl9 g ρ c9 hI hV (by omega)) cvX8_105 (ci_0 hI) (fun r9 h9 => by cases h9; rfl) rfl rfl ⟨Nat.le_of_ble_eq_true rfl, Nat.le_of_ble_eq_true rfl⟩ rfl ⟨Nat.le_of_ble_eq_true rfl, Nat.le_of_ble_eq_true rfl⟩ dX8_openMinutes_2 (fun E h9 hx => by obtain ⟨e1, rfl⟩ := hx; refine ⟨ρ, SA.refl _, hI, ?_⟩; obtain ⟨rfl, e2⟩ := e1; first | exact ⟨rfl, by omega⟩) (Nat.le_of_ble_eq_true rfl) (Nat.le_of_ble_eq_true rfl) ?_
  rintro _ h9 ⟨f2_0, rfl, hh9⟩
  rw [hh9]
  clear hh9 h9
  show Z _ _ _ _ _ _ _ _ _ _ _ _ _ _ _ _ _ _ _ _ [vR (aC ρ c9)]
  refine z_astore_n (lv' := [(2, vR (aC ρ c9)), (0, vR (g 0)), (1, vI c9)]) F dX8_openMinutes_5 rfl (by decide) rfl ?_
  refine z_aload_n F dX8_openMinutes_6 rfl 1 rfl ?_
  refine z_get (v := vR (g 6)) F (ci_0 hI) fX8_33 rfl dX8_openMinutes_7 ?_
  refine z_aload_n F dX8_openMinutes_10 rfl 0 rfl ?_
  refine z_iconst F dX8_openMinutes_11 ?_
  refine z_callV (As := [vR (aC ρ c9), vI 1]) (st := []) F (mX5_pick l G N0 h g ρ c9 1 hI hV (by omega) (by omega)) cvX8_218 (ci_6 hI) (fun r9 h9 => by cases h9; rfl) rfl rfl ⟨Nat.le_of_ble_eq_true rfl, Nat.le_of_ble_eq_true rfl⟩ rfl ⟨Nat.le_of_ble_eq_true rfl, Nat.le_of_ble_eq_true rfl⟩ dX8_openMinutes_12 ?_
  rintro _ h7 ⟨rfl, a7, I7, O7⟩
  have V7 : MC (mx ρ a7) := MC.sa (mx_sq ρ a7).sa hV
  show Z _ _ _ _ _ _ _ _ _ _ _ _ _ _ _ _ _ _ _ _ []
  refine z_aload_n F dX8_openMinutes_15 rfl 1 rfl ?_
  refine z_get (v := vR (g 6)) F (ci_0 (ρ := (mx ρ a7)) I7) fX8_33 rfl dX8_openMinutes_16 ?_
  refine z_aload_n F dX8_openMinutes_19 rfl 0 rfl ?_
  refine z_callV (As := [vR (aC ρ c9)]) (st := []) F (mX5_minutesFor l G N0 h7 g (mx ρ a7) c9 1 I7 (MC.sa (mx_sq ρ a7).sa hV) O7 (show 0 ≤ c9 ∧ c9 < ρ 2 0 from by omega) rfl) cvX8_242 (ci_6 (ρ := (mx ρ a7)) I7) (fun r9 h9 => by cases h9; rfl) rfl rfl ⟨Nat.le_of_ble_eq_true rfl, Nat.le_of_ble_eq_true rfl⟩ rfl ⟨Nat.le_of_ble_eq_true rfl, Nat.le_of_ble_eq_true rfl⟩ dX8_openMinutes_20 ?_
  rintro _ h9 ⟨rfl, hh9⟩
  rw [hh9]
  clear hh9 h9
  show Z _ _ _ _ _ _ _ _ _ _ _ _ _ _ _ _ _ _ _ _ [vI (opS (mx ρ a7) c9)]
  exact z_iretX (nf_i _) F hr (Nat.le_of_ble_eq_true rfl) (Nat.le_of_ble_eq_true rfl) dX8_openMinutes_23 (⟨by omega, (mx ρ a7), rI (by exact opS_r (SA.c (mx_sq ρ a7).sa) c9), (mx_sq ρ a7).sa, I7⟩)
set_option maxRecDepth 100000 in
set_option maxHeartbeats 4000000 in
theorem mX8_openMinutesByLines (l : Launch) (G : GG) (N0 : Nat) (h : Hp) (hl9 : l.stackTraces = false) (g : Int → Nat) (ρ : Sg) (c9 : Int) (hI : CI G g ρ h) (hV : MC ρ) (r_c9 : -2147483648 ≤ c9 ∧ c9 < 2147483648) : CtX l G N0 yX8_openMinutesByLines (Cond.code yX8_openMinutesByLines cX8_openMinutesByLines 3 (some FieldType.int) :: LW) ({ frames := 9, cells := 27, slots := 2430, locals := 500 }) [vR (g 0), vI c9] h (fun r h' => ¬ (¬ (0 ≤ c9 ∧ c9 < ρ 2 0)) ∧ ∃ ρ', r = some (vI (opS ρ c9)) ∧ SA (ρ) ρ' ∧ CI G g ρ' h') (fun E h' => ∃ ρ', SA ρ ρ' ∧ CI G g ρ' h' ∧ ((E = "java/lang/IndexOutOfBoundsException" ∧ (¬ (0 ≤ c9 ∧ c9 < ρ 2 0))))) := by
  refine ctX_of rfl rfl ?_
  intro p e s m args below meth c F hr htab
  have F : Fx p s m args meth c RX8 cX8_openMinutesByLines 3 G N0 (cA h s.heap.size) := F
  obtain ⟨v0, v1, v2, v8, v16, v24, v39, vC, vE, vJ, vK, vB, vO⟩ := id hV
  show Z _ _ _ _ _ _ _ _ _ _ _ _ _ _ _ _ _ _ _ [(0, vR (g 0)), (1, vI c9)] []
  refine z_aload_n F dX8_openMinutesByLines_0 rfl 0 rfl ?_
  refine z_iload_n F dX8_openMinutesByLines_1 rfl 1 rfl ?_
  refine z_xcallV (As := [vI c9]) (st := []) F htab (mX8_clientAt l G N0 h hl9 g ρ c9 hI hV (by omega)) cvX8_105 (ci_0 hI) (fun r9 h9 => by cases h9; rfl) rfl rfl ⟨Nat.le_of_ble_eq_true rfl, Nat.le_of_ble_eq_true rfl⟩ rfl ⟨Nat.le_of_ble_eq_true rfl, Nat.le_of_ble_eq_true rfl⟩ dX8_openMinutesByLines_2 (fun E h9 hx => by obtain ⟨e1, rfl⟩ := hx; refine ⟨ρ, SA.refl _, hI, ?_⟩; obtain ⟨rfl, e2⟩ := e1; first | exact ⟨rfl, by omega⟩) (Nat.le_of_ble_eq_true rfl) (Nat.le_of_ble_eq_true rfl) ?_
  rintro _ h9 ⟨f2_0, rfl, hh9⟩
  rw [hh9]
  clear hh9 h9
  show Z _ _ _ _ _ _ _ _ _ _ _ _ _ _ _ _ _ _ _ _ [vR (aC ρ c9)]
  refine z_astore_n (lv' := [(2, vR (aC ρ c9)), (0, vR (g 0)), (1, vI c9)]) F dX8_openMinutesByLines_5 rfl (by decide) rfl ?_
  refine z_aload_n F dX8_openMinutesByLines_6 rfl 1 rfl ?_
  refine z_get (v := vR (g 6)) F (ci_0 hI) fX8_33 rfl dX8_openMinutesByLines_7 ?_
  refine z_aload_n F dX8_openMinutesByLines_10 rfl 0 rfl ?_
  refine z_iconst F dX8_openMinutesByLines_11 ?_
  refine z_callV (As := [vR (aC ρ c9), vI 1]) (st := []) F (mX5_pick l G N0 h g ρ c9 1 hI hV (by omega) (by omega)) cvX8_218 (ci_6 hI) (fun r9 h9 => by cases h9; rfl) rfl rfl ⟨Nat.le_of_ble_eq_true rfl, Nat.le_of_ble_eq_true rfl⟩ rfl ⟨Nat.le_of_ble_eq_true rfl, Nat.le_of_ble_eq_true rfl⟩ dX8_openMinutesByLines_12 ?_
  rintro _ h7 ⟨rfl, a7, I7, O7⟩
  have V7 : MC (mx ρ a7) := MC.sa (mx_sq ρ a7).sa hV
  show Z _ _ _ _ _ _ _ _ _ _ _ _ _ _ _ _ _ _ _ _ []
  refine z_aload_n F dX8_openMinutesByLines_15 rfl 1 rfl ?_
  refine z_get (v := vR (g 6)) F (ci_0 (ρ := (mx ρ a7)) I7) fX8_33 rfl dX8_openMinutesByLines_16 ?_
  refine z_aload_n F dX8_openMinutesByLines_19 rfl 0 rfl ?_
  refine z_callV (As := [vR (aC ρ c9)]) (st := []) F (mX5_minutesByLines l G N0 h7 g (mx ρ a7) c9 1 I7 (MC.sa (mx_sq ρ a7).sa hV) O7 (show 0 ≤ c9 ∧ c9 < ρ 2 0 from by omega) rfl) cvX8_246 (ci_6 (ρ := (mx ρ a7)) I7) (fun r9 h9 => by cases h9; rfl) rfl rfl ⟨Nat.le_of_ble_eq_true rfl, Nat.le_of_ble_eq_true rfl⟩ rfl ⟨Nat.le_of_ble_eq_true rfl, Nat.le_of_ble_eq_true rfl⟩ dX8_openMinutesByLines_20 ?_
  rintro _ h9 ⟨rfl, hh9⟩
  rw [hh9]
  clear hh9 h9
  show Z _ _ _ _ _ _ _ _ _ _ _ _ _ _ _ _ _ _ _ _ [vI (opS (mx ρ a7) c9)]
  exact z_iretX (nf_i _) F hr (Nat.le_of_ble_eq_true rfl) (Nat.le_of_ble_eq_true rfl) dX8_openMinutesByLines_23 (⟨by omega, (mx ρ a7), rI (by exact opS_r (SA.c (mx_sq ρ a7).sa) c9), (mx_sq ρ a7).sa, I7⟩)
set_option maxRecDepth 100000 in
set_option maxHeartbeats 4000000 in
theorem mX8_invoicedMinutes (l : Launch) (G : GG) (N0 : Nat) (h : Hp) (g : Int → Nat) (ρ : Sg) (c9 : Int) (hI : CI G g ρ h) (hV : MC ρ) (hc : 0 ≤ c9 ∧ c9 < ρ 2 0) : Ct l G N0 yX8_invoicedMinutes (Cond.code yX8_invoicedMinutes cX8_invoicedMinutes 5 (some FieldType.int) :: LW) ({ frames := 3, cells := 0, slots := 0, locals := 140 }) [vR (g 0), vR (aC ρ c9)] h (fun r h' => r = some (vI (ivM ρ c9 (ρ 16 0).toNat)) ∧ h' = h) := by
  refine ct_of rfl rfl ?_
  intro p e s m args below meth c F hr hnm
  have F : Fx p s m args meth c RX8 cX8_invoicedMinutes 5 G N0 (cA h s.heap.size) := F
  obtain ⟨v0, v1, v2, v8, v16, v24, v39, vC, vE, vJ, vK, vB, vO⟩ := id hV
  obtain ⟨Q, hQ⟩ : ∃ z, z = MQ below (cQc G N0 h s.heap.size (fun r h' => r = some (vI (ivM ρ c9 (ρ 16 0).toNat)) ∧ h' = h)) args s 0 0 (cA h s.heap.size) := ⟨_, rfl⟩
  rw [← hQ]
  show Z _ _ _ _ _ _ _ _ _ _ _ _ _ _ _ _ _ _ _ [(0, vR (g 0)), (1, vR (aC ρ c9))] []
  refine z_iconst F dX8_invoicedMinutes_0 ?_
  refine z_istore_n (lv' := [(2, vI 0), (0, vR (g 0)), (1, vR (aC ρ c9))]) F dX8_invoicedMinutes_1 rfl (by decide) rfl ?_
  refine z_iconst F dX8_invoicedMinutes_2 ?_
  refine z_istore_n (lv' := [(3, vI 0), (2, vI 0), (0, vR (g 0)), (1, vR (aC ρ c9))]) F dX8_invoicedMinutes_3 rfl (by decide) rfl ?_
  have L4 : ∀ (fuel : Nat) (s9 : Int) (i9 : Int), (0 ≤ i9 ∧ i9 ≤ ρ 16 0) → (s9 = ivM ρ c9 i9.toNat) → ρ 16 0 - i9 < (fuel : Int) → Z p l e ({ frames := 3, cells := 0, slots := 0, locals := 140 }) s m args below meth c 5 G N0 (cA h s.heap.size) Q h 0 0 4 [(3, vI i9), (2, vI s9), (0, vR (g 0)), (1, vR (aC ρ c9))] [] := by
    intro fuel
    induction fuel with
    | zero => intro s9 i9  ha hs hm; exact absurd hm (by omega)
    | succ fuel ih4 =>
      intro s9 i9  ha hs hm
      refine z_iload_n F dX8_invoicedMinutes_4 rfl 0 rfl ?_
      refine z_aload_n F dX8_invoicedMinutes_5 rfl 2 rfl ?_
      refine z_get (v := vR (g 9)) F (ci_0 hI) fX8_44 rfl dX8_invoicedMinutes_6 ?_
      refine z_callV (As := []) (st := [vI i9]) F (mJx4a65c_size_8abf5 l G N0 h (g 9) ((ρ 40 1).toNat) 0 (ρ 32 1) (ρ 16 0) (fun _ => none) (ci_9 hI)) cvX8_90 (ci_9 hI) (fun r9 h9 => by cases h9; rfl) rfl rfl ⟨Nat.le_of_ble_eq_true rfl, Nat.le_of_ble_eq_true rfl⟩ rfl ⟨Nat.le_of_ble_eq_true rfl, Nat.le_of_ble_eq_true rfl⟩ dX8_invoicedMinutes_9 ?_
      rintro _ h9 ⟨rfl, hh9⟩
      rw [hh9]
      clear hh9 h9
      show Z _ _ _ _ _ _ _ _ _ _ _ _ _ _ _ _ _ _ _ _ [vI (ρ 16 0), vI i9]
      refine z_icmp_ge (tgt := 51) F dX8_invoicedMinutes_12 (by decide) (by omega) (by omega) (fun c12 => ?_) (fun c12 => ?_)
      · refine z_iload_n F dX8_invoicedMinutes_51 rfl 1 rfl ?_
        rw [hQ]
        exact z_iret (nf_i _) F hr (Nat.le_of_ble_eq_true rfl) (Nat.le_of_ble_eq_true rfl) dX8_invoicedMinutes_52 (⟨rI (by rw [hs, show i9 = ρ 16 0 by omega]), rfl⟩)
      · have J9 := vJ i9 ha.1 (by omega)
        refine z_aload_n F dX8_invoicedMinutes_15 rfl 2 rfl ?_
        refine z_get (v := vR (g 9)) F (ci_0 hI) fX8_44 rfl dX8_invoicedMinutes_16 ?_
        refine z_iload_n F dX8_invoicedMinutes_19 rfl 0 rfl ?_
        refine z_callV (As := [vI i9]) (st := []) F (cGet1 l G N0 h g ρ i9 hI (show 0 ≤ i9 ∧ i9 < ρ 16 0 from by omega)) cvX8_373 (ci_9 hI) (fun r9 h9 => by cases h9; rfl) rfl rfl ⟨Nat.le_of_ble_eq_true rfl, Nat.le_of_ble_eq_true rfl⟩ rfl ⟨Nat.le_of_ble_eq_true rfl, Nat.le_of_ble_eq_true rfl⟩ dX8_invoicedMinutes_20 ?_
        rintro _ h9 ⟨rfl, hh9⟩
        rw [hh9]
        clear hh9 h9
        show Z _ _ _ _ _ _ _ _ _ _ _ _ _ _ _ _ _ _ _ _ [vR (aI ρ i9)]
        refine z_cast F (ci_i hI (show 0 ≤ i9 ∧ i9 < ρ 39 0 ∧ i9 < 100 from by omega)) q700 (fun r9 h9 => by cases h9; rfl) dX8_invoicedMinutes_23 ?_
        refine z_astore (lv' := [(4, vR (aI ρ i9)), (3, vI i9), (2, vI s9), (0, vR (g 0)), (1, vR (aC ρ c9))]) F dX8_invoicedMinutes_26 (by decide) rfl ?_
        refine z_aload F dX8_invoicedMinutes_28 0 rfl ?_
        refine z_get (v := vR (aC ρ (ρ 18 i9))) F (ci_i hI (show 0 ≤ i9 ∧ i9 < ρ 39 0 ∧ i9 < 100 from by omega)) fX8_414 rfl dX8_invoicedMinutes_30 ?_
        refine z_aload_n F dX8_invoicedMinutes_33 rfl 4 rfl ?_
        refine z_acmp_ne (rx := some (aC ρ (ρ 18 i9))) (ry := some (aC ρ c9)) (tgt := 45) F dX8_invoicedMinutes_34 (by decide) (fun c34 => ?_) (fun c34 => ?_)
        · have d34 : ρ 18 i9 ≠ c9 := fun z => c34 (by rw [z])
          refine z_iinc (lv' := [(3, vI (i9 + 1)), (4, vR (aI ρ i9)), (2, vI s9), (0, vR (g 0)), (1, vR (aC ρ c9))]) F dX8_invoicedMinutes_45 1 rfl (by decide) rfl ?_
          refine z_goto (tgt := 4) F dX8_invoicedMinutes_48 (by decide) ?_
          refine z_pick (lv' := [(3, vI (i9 + 1)), (2, vI s9), (0, vR (g 0)), (1, vR (aC ρ c9))]) [0, 2, 3, 4] rfl ?_
          exact ih4 s9 (i9 + 1)  (by omega) (by rw [ivM_s ρ c9 ha.1]; first | (rw [if_pos (by omega), ← J9.2.2.1]; omega) | (rw [if_neg (by omega)]; omega)) (by omega)
        · have d34 : ρ 18 i9 = c9 := (ci_cc hI (show 0 ≤ ρ 18 i9 ∧ ρ 18 i9 < ρ 2 0 ∧ ρ 18 i9 < 100 from by omega) (show 0 ≤ c9 ∧ c9 < ρ 2 0 ∧ c9 < 100 from by omega)).mp (Option.some.inj c34)
          refine z_iload_n F dX8_invoicedMinutes_37 rfl 2 rfl ?_
          refine z_aload F dX8_invoicedMinutes_38 0 rfl ?_
          refine z_get (v := vI (ρ 31 i9)) F (ci_i hI (show 0 ≤ i9 ∧ i9 < ρ 39 0 ∧ i9 < 100 from by omega)) fX8_430 rfl dX8_invoicedMinutes_40 ?_
          refine z_iadd F dX8_invoicedMinutes_43 ?_
          refine z_istore_n (lv' := [(2, vI (s9 + (ρ 31 i9))), (4, vR (aI ρ i9)), (3, vI i9), (0, vR (g 0)), (1, vR (aC ρ c9))]) F dX8_invoicedMinutes_44 rfl (by decide) rfl ?_
          refine z_iinc (lv' := [(3, vI (i9 + 1)), (2, vI (s9 + (ρ 31 i9))), (4, vR (aI ρ i9)), (0, vR (g 0)), (1, vR (aC ρ c9))]) F dX8_invoicedMinutes_45 2 rfl (by decide) rfl ?_
          refine z_goto (tgt := 4) F dX8_invoicedMinutes_48 (by decide) ?_
          refine z_pick (lv' := [(3, vI (i9 + 1)), (2, vI (s9 + (ρ 31 i9))), (0, vR (g 0)), (1, vR (aC ρ c9))]) [0, 1, 3, 4] rfl ?_
          exact ih4 (s9 + (ρ 31 i9)) (i9 + 1)  (by omega) (by rw [ivM_s ρ c9 ha.1]; first | (rw [if_pos (by omega), ← J9.2.2.1]; omega) | (rw [if_neg (by omega)]; omega)) (by omega)
  exact L4 ((ρ 16 0 - 0 : Int).toNat + 1) 0 0  (by omega) (rfl) (by omega)
set_option maxRecDepth 100000 in
set_option maxHeartbeats 4000000 in
theorem mX8_usedMinutes (l : Launch) (G : GG) (N0 : Nat) (h : Hp) (hl9 : l.stackTraces = false) (g : Int → Nat) (ρ : Sg) (c9 : Int) (hI : CI G g ρ h) (hV : MC ρ) (r_c9 : -2147483648 ≤ c9 ∧ c9 < 2147483648) : CtX l G N0 yX8_usedMinutes (Cond.code yX8_usedMinutes cX8_usedMinutes 3 (some FieldType.int) :: LW) ({ frames := 9, cells := 27, slots := 2430, locals := 500 }) [vR (g 0), vI c9] h (fun r h' => ¬ (¬ (0 ≤ c9 ∧ c9 < ρ 2 0)) ∧ ∃ ρ', r = some (vI (usS ρ c9)) ∧ SA (ρ) ρ' ∧ CI G g ρ' h') (fun E h' => ∃ ρ', SA ρ ρ' ∧ CI G g ρ' h' ∧ ((E = "java/lang/IndexOutOfBoundsException" ∧ (¬ (0 ≤ c9 ∧ c9 < ρ 2 0))))) := by
  refine ctX_of rfl rfl ?_
  intro p e s m args below meth c F hr htab
  have F : Fx p s m args meth c RX8 cX8_usedMinutes 3 G N0 (cA h s.heap.size) := F
  obtain ⟨v0, v1, v2, v8, v16, v24, v39, vC, vE, vJ, vK, vB, vO⟩ := id hV
  show Z _ _ _ _ _ _ _ _ _ _ _ _ _ _ _ _ _ _ _ [(0, vR (g 0)), (1, vI c9)] []
  refine z_aload_n F dX8_usedMinutes_0 rfl 0 rfl ?_
  refine z_iload_n F dX8_usedMinutes_1 rfl 1 rfl ?_
  refine z_xcallV (As := [vI c9]) (st := []) F htab (mX8_clientAt l G N0 h hl9 g ρ c9 hI hV (by omega)) cvX8_105 (ci_0 hI) (fun r9 h9 => by cases h9; rfl) rfl rfl ⟨Nat.le_of_ble_eq_true rfl, Nat.le_of_ble_eq_true rfl⟩ rfl ⟨Nat.le_of_ble_eq_true rfl, Nat.le_of_ble_eq_true rfl⟩ dX8_usedMinutes_2 (fun E h9 hx => by obtain ⟨e1, rfl⟩ := hx; refine ⟨ρ, SA.refl _, hI, ?_⟩; obtain ⟨rfl, e2⟩ := e1; first | exact ⟨rfl, by omega⟩) (Nat.le_of_ble_eq_true rfl) (Nat.le_of_ble_eq_true rfl) ?_
  rintro _ h9 ⟨f2_0, rfl, hh9⟩
  rw [hh9]
  clear hh9 h9
  show Z _ _ _ _ _ _ _ _ _ _ _ _ _ _ _ _ _ _ _ _ [vR (aC ρ c9)]
  refine z_astore_n (lv' := [(2, vR (aC ρ c9)), (0, vR (g 0)), (1, vI c9)]) F dX8_usedMinutes_5 rfl (by decide) rfl ?_
  refine z_aload_n F dX8_usedMinutes_6 rfl 1 rfl ?_
  refine z_get (v := vR (g 6)) F (ci_0 hI) fX8_33 rfl dX8_usedMinutes_7 ?_
  refine z_aload_n F dX8_usedMinutes_10 rfl 0 rfl ?_
  refine z_iconst F dX8_usedMinutes_11 ?_
  refine z_callV (As := [vR (aC ρ c9), vI 1]) (st := []) F (mX5_pick l G N0 h g ρ c9 1 hI hV (by omega) (by omega)) cvX8_218 (ci_6 hI) (fun r9 h9 => by cases h9; rfl) rfl rfl ⟨Nat.le_of_ble_eq_true rfl, Nat.le_of_ble_eq_true rfl⟩ rfl ⟨Nat.le_of_ble_eq_true rfl, Nat.le_of_ble_eq_true rfl⟩ dX8_usedMinutes_12 ?_
  rintro _ h7 ⟨rfl, a7, I7, O7⟩
  have V7 : MC (mx ρ a7) := MC.sa (mx_sq ρ a7).sa hV
  show Z _ _ _ _ _ _ _ _ _ _ _ _ _ _ _ _ _ _ _ _ []
  refine z_aload_n F dX8_usedMinutes_15 rfl 1 rfl ?_
  refine z_aload_n F dX8_usedMinutes_16 rfl 0 rfl ?_
  refine z_callV (As := [vR (aC ρ c9)]) (st := []) F (mX8_invoicedMinutes l G N0 h7 g (mx ρ a7) c9 I7 (MC.sa (mx_sq ρ a7).sa hV) (show 0 ≤ c9 ∧ c9 < ρ 2 0 from by omega)) cvX8_329 (ci_0 (ρ := (mx ρ a7)) I7) (fun r9 h9 => by cases h9; rfl) rfl rfl ⟨Nat.le_of_ble_eq_true rfl, Nat.le_of_ble_eq_true rfl⟩ rfl ⟨Nat.le_of_ble_eq_true rfl, Nat.le_of_ble_eq_true rfl⟩ dX8_usedMinutes_17 ?_
  rintro _ h9 ⟨rfl, hh9⟩
  rw [hh9]
  clear hh9 h9
  show Z _ _ _ _ _ _ _ _ _ _ _ _ _ _ _ _ _ _ _ _ [vI (ivM (mx ρ a7) c9 (ρ 16 0).toNat)]
  refine z_aload_n F dX8_usedMinutes_20 rfl 1 rfl ?_
  refine z_get (v := vR (g 6)) F (ci_0 (ρ := (mx ρ a7)) I7) fX8_33 rfl dX8_usedMinutes_21 ?_
  refine z_aload_n F dX8_usedMinutes_24 rfl 0 rfl ?_
  refine z_callV (As := [vR (aC ρ c9)]) (st := [vI (ivM (mx ρ a7) c9 (ρ 16 0).toNat)]) F (mX5_minutesFor l G N0 h7 g (mx ρ a7) c9 1 I7 (MC.sa (mx_sq ρ a7).sa hV) O7 (show 0 ≤ c9 ∧ c9 < ρ 2 0 from by omega) rfl) cvX8_242 (ci_6 (ρ := (mx ρ a7)) I7) (fun r9 h9 => by cases h9; rfl) rfl rfl ⟨Nat.le_of_ble_eq_true rfl, Nat.le_of_ble_eq_true rfl⟩ rfl ⟨Nat.le_of_ble_eq_true rfl, Nat.le_of_ble_eq_true rfl⟩ dX8_usedMinutes_25 ?_
  rintro _ h9 ⟨rfl, hh9⟩
  rw [hh9]
  clear hh9 h9
  show Z _ _ _ _ _ _ _ _ _ _ _ _ _ _ _ _ _ _ _ _ [vI (opS (mx ρ a7) c9), vI (ivM (mx ρ a7) c9 (ρ 16 0).toNat)]
  refine z_iadd F dX8_usedMinutes_28 ?_
  exact z_iretX (nf_i _) F hr (Nat.le_of_ble_eq_true rfl) (Nat.le_of_ble_eq_true rfl) dX8_usedMinutes_29 (⟨by omega, (mx ρ a7), rI (by rw [ivM_r (SA.c (mx_sq ρ a7).sa), opS_r (SA.c (mx_sq ρ a7).sa)]; exact Int.add_comm _ _), (mx_sq ρ a7).sa, I7⟩)
set_option maxRecDepth 100000 in
set_option maxHeartbeats 4000000 in
theorem mX8_budgetShare (l : Launch) (G : GG) (N0 : Nat) (h : Hp) (hl9 : l.stackTraces = false) (g : Int → Nat) (ρ : Sg) (c9 : Int) (hI : CI G g ρ h) (hV : MC ρ) (r_c9 : -2147483648 ≤ c9 ∧ c9 < 2147483648) : CtX l G N0 yX8_budgetShare (Cond.code yX8_budgetShare cX8_budgetShare 3 (some FieldType.float) :: LW) ({ frames := 10, cells := 29, slots := 2450, locals := 540 }) [vR (g 0), vI c9] h (fun r h' => ¬ (¬ (0 ≤ c9 ∧ c9 < ρ 2 0)) ∧ ¬ (ρ 7 c9 = 0) ∧ ∃ ρ', r = some (vF (shF ρ c9)) ∧ SA (ρ) ρ' ∧ CI G g ρ' h') (fun E h' => ∃ ρ', SA ρ ρ' ∧ CI G g ρ' h' ∧ ((E = "java/lang/IndexOutOfBoundsException" ∧ (¬ (0 ≤ c9 ∧ c9 < ρ 2 0))) ∨ (E = "java/lang/ArithmeticException" ∧ ¬ (¬ (0 ≤ c9 ∧ c9 < ρ 2 0)) ∧ (ρ 7 c9 = 0)))) := by
  refine ctX_of rfl rfl ?_
  intro p e s m args below meth c F hr htab
  have F : Fx p s m args meth c RX8 cX8_budgetShare 3 G N0 (cA h s.heap.size) := F
  obtain ⟨v0, v1, v2, v8, v16, v24, v39, vC, vE, vJ, vK, vB, vO⟩ := id hV
  have C9 := vC c9
  have hus := fun q1 q2 => usS_b hV (c := c9) ⟨q1, q2⟩
  show Z _ _ _ _ _ _ _ _ _ _ _ _ _ _ _ _ _ _ _ [(0, vR (g 0)), (1, vI c9)] []
  refine z_aload_n F dX8_budgetShare_0 rfl 0 rfl ?_
  refine z_iload_n F dX8_budgetShare_1 rfl 1 rfl ?_
  refine z_xcallV (As := [vI c9]) (st := []) F htab (mX8_clientAt l G N0 h hl9 g ρ c9 hI hV (by omega)) cvX8_105 (ci_0 hI) (fun r9 h9 => by cases h9; rfl) rfl rfl ⟨Nat.le_of_ble_eq_true rfl, Nat.le_of_ble_eq_true rfl⟩ rfl ⟨Nat.le_of_ble_eq_true rfl, Nat.le_of_ble_eq_true rfl⟩ dX8_budgetShare_2 (fun E h9 hx => by obtain ⟨e1, rfl⟩ := hx; refine ⟨ρ, SA.refl _, hI, ?_⟩; obtain ⟨rfl, e2⟩ := e1; first | exact Or.inl ⟨rfl, by omega⟩ | exact Or.inr (⟨rfl, by omega, by omega⟩)) (Nat.le_of_ble_eq_true rfl) (Nat.le_of_ble_eq_true rfl) ?_
  rintro _ h9 ⟨f2_0, rfl, hh9⟩
  rw [hh9]
  clear hh9 h9
  show Z _ _ _ _ _ _ _ _ _ _ _ _ _ _ _ _ _ _ _ _ [vR (aC ρ c9)]
  refine z_get (v := vI (ρ 7 c9)) F (ci_c hI (show 0 ≤ c9 ∧ c9 < ρ 2 0 ∧ c9 < 100 from by omega)) fX8_123 rfl dX8_budgetShare_5 ?_
  refine z_istore_n (lv' := [(2, vI (ρ 7 c9)), (0, vR (g 0)), (1, vI c9)]) F dX8_budgetShare_8 rfl (by decide) rfl ?_
  refine z_iload_n F dX8_budgetShare_9 rfl 0 rfl ?_
  refine z_if_ne (tgt := 24) F dX8_budgetShare_10 (by decide) (by omega) (fun c10 => ?_) (fun c10 => ?_)
  · refine z_aload_n F dX8_budgetShare_24 rfl 1 rfl ?_
    refine z_iload_n F dX8_budgetShare_25 rfl 2 rfl ?_
    refine z_xcallV (As := [vI c9]) (st := []) F htab (mX8_usedMinutes l G N0 h hl9 g ρ c9 hI hV (by omega)) cvX8_337 (ci_0 hI) (fun r9 h9 => by cases h9; rfl) rfl rfl ⟨Nat.le_of_ble_eq_true rfl, Nat.le_of_ble_eq_true rfl⟩ rfl ⟨Nat.le_of_ble_eq_true rfl, Nat.le_of_ble_eq_true rfl⟩ dX8_budgetShare_26 (fun E h9 hx => by obtain ⟨r9, s9, i9, e1⟩ := hx; refine ⟨r9, s9, i9, ?_⟩; obtain ⟨rfl, e2⟩ := e1; first | exact Or.inl ⟨rfl, by omega⟩ | exact Or.inr (⟨rfl, by omega, by omega⟩)) (Nat.le_of_ble_eq_true rfl) (Nat.le_of_ble_eq_true rfl) ?_
    rintro _ h6 ⟨n6, r6, rfl, s6, I6⟩
    show Z _ _ _ _ _ _ _ _ _ _ _ _ _ _ _ _ _ _ _ _ [vI (usS ρ c9)]
    refine z_i2f F dX8_budgetShare_29 ?_
    refine z_iload_n F dX8_budgetShare_30 rfl 0 rfl ?_
    refine z_i2f F dX8_budgetShare_31 ?_
    have hus2 := hus (by omega) (by omega)
    refine z_fdiv F dX8_budgetShare_32 ((mg_quo (by omega) (by omega) (by omega)).n (by decide)) ?_
    exact z_fretX F hr (Nat.le_of_ble_eq_true rfl) (Nat.le_of_ble_eq_true rfl) dX8_budgetShare_33 (⟨by omega, by omega, r6, rfl, s6, I6⟩)
  · exact z_throwCW (names := ["java/lang/RuntimeException", "java/lang/Exception"]) F htab hl9 ⟨by decide +kernel, fitN⟩ q1428 q37 hatR (List.mem_of_getElem? (i := 29) rfl) dX8_budgetShare_13 dX8_budgetShare_16 dX8_budgetShare_17 dX8_budgetShare_20 dX8_budgetShare_23 ⟨Nat.le_of_ble_eq_true rfl, Nat.le_of_ble_eq_true rfl, Nat.le_of_ble_eq_true rfl, Nat.le_of_ble_eq_true rfl⟩ (Nat.le_of_ble_eq_true rfl) (Nat.le_of_ble_eq_true rfl) (⟨ρ, SA.refl _, hI, by first | exact Or.inl ⟨rfl, by omega⟩ | exact Or.inr (⟨rfl, by omega, by omega⟩)⟩)
set_option maxRecDepth 100000 in
set_option maxHeartbeats 4000000 in
theorem mX8_warning (l : Launch) (G : GG) (N0 : Nat) (h : Hp) (hl9 : l.stackTraces = false) (g : Int → Nat) (ρ : Sg) (c9 : Int) (hI : CI G g ρ h) (hV : MC ρ) (r_c9 : -2147483648 ≤ c9 ∧ c9 < 2147483648) : CtX l G N0 yX8_warning (Cond.code yX8_warning cX8_warning 4 (some FieldType.char) :: LW) ({ frames := 10, cells := 29, slots := 2450, locals := 540 }) [vR (g 0), vI c9] h (fun r h' => ¬ (¬ (0 ≤ c9 ∧ c9 < ρ 2 0)) ∧ ∃ ρ', r = some (vI (if ρ 7 c9 = 0 then 110 else if (Op.cmpValue (FP.fcmp (shF ρ c9) 1061997773) .g).toInt < 0 then 110 else if ρ 7 c9 < usS ρ c9 then 111 else 119)) ∧ SA (ρ) ρ' ∧ CI G g ρ' h') (fun E h' => ∃ ρ', SA ρ ρ' ∧ CI G g ρ' h' ∧ ((E = "java/lang/IndexOutOfBoundsException" ∧ (¬ (0 ≤ c9 ∧ c9 < ρ 2 0))))) := by
  refine ctX_of rfl rfl ?_
  intro p e s m args below meth c F hr htab
  have F : Fx p s m args meth c RX8 cX8_warning 4 G N0 (cA h s.heap.size) := F
  obtain ⟨v0, v1, v2, v8, v16, v24, v39, vC, vE, vJ, vK, vB, vO⟩ := id hV
  have C9 := vC c9
  have hus := fun q1 q2 => usS_b hV (c := c9) ⟨q1, q2⟩
  show Z _ _ _ _ _ _ _ _ _ _ _ _ _ _ _ _ _ _ _ [(0, vR (g 0)), (1, vI c9)] []
  refine z_aload_n F dX8_warning_0 rfl 0 rfl ?_
  refine z_iload_n F dX8_warning_1 rfl 1 rfl ?_
  refine z_xcallV (As := [vI c9]) (st := []) F htab (mX8_clientAt l G N0 h hl9 g ρ c9 hI hV (by omega)) cvX8_105 (ci_0 hI) (fun r9 h9 => by cases h9; rfl) rfl rfl ⟨Nat.le_of_ble_eq_true rfl, Nat.le_of_ble_eq_true rfl⟩ rfl ⟨Nat.le_of_ble_eq_true rfl, Nat.le_of_ble_eq_true rfl⟩ dX8_warning_2 (fun E h9 hx => by obtain ⟨e1, rfl⟩ := hx; refine ⟨ρ, SA.refl _, hI, ?_⟩; obtain ⟨rfl, e2⟩ := e1; first | exact ⟨rfl, by omega⟩) (Nat.le_of_ble_eq_true rfl) (Nat.le_of_ble_eq_true rfl) ?_
  rintro _ h9 ⟨f2_0, rfl, hh9⟩
  rw [hh9]
  clear hh9 h9
  show Z _ _ _ _ _ _ _ _ _ _ _ _ _ _ _ _ _ _ _ _ [vR (aC ρ c9)]
  refine z_get (v := vI (ρ 7 c9)) F (ci_c hI (show 0 ≤ c9 ∧ c9 < ρ 2 0 ∧ c9 < 100 from by omega)) fX8_123 rfl dX8_warning_5 ?_
  refine z_istore_n (lv' := [(2, vI (ρ 7 c9)), (0, vR (g 0)), (1, vI c9)]) F dX8_warning_8 rfl (by decide) rfl ?_
  refine z_iload_n F dX8_warning_9 rfl 0 rfl ?_
  refine z_if_ne (tgt := 16) F dX8_warning_10 (by decide) (by omega) (fun c10 => ?_) (fun c10 => ?_)
  · refine z_aload_n F dX8_warning_16 rfl 1 rfl ?_
    refine z_iload_n F dX8_warning_17 rfl 2 rfl ?_
    refine z_xcallV (As := [vI c9]) (st := []) F htab (mX8_usedMinutes l G N0 h hl9 g ρ c9 hI hV (by omega)) cvX8_337 (ci_0 hI) (fun r9 h9 => by cases h9; rfl) rfl rfl ⟨Nat.le_of_ble_eq_true rfl, Nat.le_of_ble_eq_true rfl⟩ rfl ⟨Nat.le_of_ble_eq_true rfl, Nat.le_of_ble_eq_true rfl⟩ dX8_warning_18 (fun E h9 hx => by obtain ⟨r9, s9, i9, e1⟩ := hx; refine ⟨r9, s9, i9, ?_⟩; obtain ⟨rfl, e2⟩ := e1; first | exact ⟨rfl, by omega⟩) (Nat.le_of_ble_eq_true rfl) (Nat.le_of_ble_eq_true rfl) ?_
    rintro _ h6 ⟨n6, r6, rfl, s6, I6⟩
    show Z _ _ _ _ _ _ _ _ _ _ _ _ _ _ _ _ _ _ _ _ [vI (usS ρ c9)]
    refine z_istore_n (lv' := [(3, vI (usS ρ c9)), (2, vI (ρ 7 c9)), (0, vR (g 0)), (1, vI c9)]) F dX8_warning_21 rfl (by decide) rfl ?_
    refine z_iload_n F dX8_warning_22 rfl 0 rfl ?_
    refine z_i2f F dX8_warning_23 ?_
    refine z_iload_n F dX8_warning_24 rfl 1 rfl ?_
    refine z_i2f F dX8_warning_25 ?_
    have hus2 := hus (by omega) (by omega)
    refine z_fdiv F dX8_warning_26 ((mg_quo (by omega) (by omega) (by omega)).n (by decide)) ?_
    refine z_ldcwf F q1439 dX8_warning_27 ?_
    refine z_fcmp (op := .g) F dX8_warning_30 ?_
    refine z_if_ge (tgt := 37) F dX8_warning_31 (by decide) (iI_rng _) (fun c31 => ?_) (fun c31 => ?_)
    · refine z_iload_n F dX8_warning_37 rfl 0 rfl ?_
      refine z_iload_n F dX8_warning_38 rfl 1 rfl ?_
      refine z_icmp_le (tgt := 47) F dX8_warning_39 (by decide) (by omega) (by omega) (fun c39 => ?_) (fun c39 => ?_)
      · refine z_bipush F dX8_warning_47 (by decide) ?_
        exact z_iretX (nf_c (by omega)) F hr (Nat.le_of_ble_eq_true rfl) (Nat.le_of_ble_eq_true rfl) dX8_warning_49 (⟨by omega, r6, rI (by first | (unfold shF; omega) | omega), s6, I6⟩)
      · refine z_bipush F dX8_warning_42 (by decide) ?_
        refine z_goto (tgt := 49) F dX8_warning_44 (by decide) ?_
        exact z_iretX (nf_c (by omega)) F hr (Nat.le_of_ble_eq_true rfl) (Nat.le_of_ble_eq_true rfl) dX8_warning_49 (⟨by omega, r6, rI (by first | (unfold shF; omega) | omega), s6, I6⟩)
    · refine z_bipush F dX8_warning_34 (by decide) ?_
      exact z_iretX (nf_c (by omega)) F hr (Nat.le_of_ble_eq_true rfl) (Nat.le_of_ble_eq_true rfl) dX8_warning_36 (⟨by omega, r6, rI (by first | (unfold shF; omega) | omega), s6, I6⟩)
  · refine z_bipush F dX8_warning_13 (by decide) ?_
    exact z_iretX (nf_c (by omega)) F hr (Nat.le_of_ble_eq_true rfl) (Nat.le_of_ble_eq_true rfl) dX8_warning_15 (⟨by omega, ρ, rI (by first | (unfold shF; omega) | omega), SA.refl _, hI⟩)
set_option maxRecDepth 100000 in
set_option maxHeartbeats 4000000 in
theorem mX7_keptEntries2 (l : Launch) (G : GG) (N0 : Nat) (h : Hp) (g : Int → Nat) (ρ : Sg) (hI : CI G g ρ h) (v8 : 0 ≤ ρ 8 0 ∧ ρ 8 0 ≤ 24) (hst : ∀ e, 0 ≤ e → e < ρ 8 0 → 0 ≤ ρ 12 e ∧ ρ 12 e ≤ 200) : Ct l G N0 yX7_keptEntries (Cond.code yX7_keptEntries cX7_keptEntries 3 (some FieldType.int) :: LW) ({ frames := 3, cells := 0, slots := 0, locals := 140 }) [vR (g 1)] h (fun r h' => r = some (vI (keptS ρ)) ∧ h' = h) := by
  refine ct_of rfl rfl ?_
  intro p e s m args below meth c F hr hnm
  have F : Fx p s m args meth c RX7 cX7_keptEntries 3 G N0 (cA h s.heap.size) := F
  obtain ⟨Q, hQ⟩ : ∃ z, z = MQ below (cQc G N0 h s.heap.size (fun r h' => r = some (vI (keptS ρ)) ∧ h' = h)) args s 0 0 (cA h s.heap.size) := ⟨_, rfl⟩
  rw [← hQ]
  show Z _ _ _ _ _ _ _ _ _ _ _ _ _ _ _ _ _ _ _ [(0, vR (g 1))] []
  refine z_iconst F dX7_keptEntries_0 ?_
  refine z_istore_n (lv' := [(1, vI 0), (0, vR (g 1))]) F dX7_keptEntries_1 rfl (by decide) rfl ?_
  refine z_iconst F dX7_keptEntries_2 ?_
  refine z_istore_n (lv' := [(2, vI 0), (1, vI 0), (0, vR (g 1))]) F dX7_keptEntries_3 rfl (by decide) rfl ?_
  have L4 : ∀ (fuel : Nat) (n9 : Int) (i9 : Int), (0 ≤ i9 ∧ i9 ≤ ρ 8 0) → (n9 = i9 - cst ρ 120 i9.toNat) → (0 ≤ n9 ∧ n9 ≤ i9) → ρ 8 0 - i9 < (fuel : Int) → Z p l e ({ frames := 3, cells := 0, slots := 0, locals := 140 }) s m args below meth c 3 G N0 (cA h s.heap.size) Q h 0 0 4 [(2, vI i9), (1, vI n9), (0, vR (g 1))] [] := by
    intro fuel
    induction fuel with
    | zero => intro n9 i9  ha hn hn2 hm; exact absurd hm (by omega)
    | succ fuel ih4 =>
      intro n9 i9  ha hn hn2 hm
      have E_i9 := fun q9 => hst i9 ha.1 q9
      have hcs := cst_in ρ 120 i9.toNat
      refine z_iload_n F dX7_keptEntries_4 rfl 0 rfl ?_
      refine z_aload_n F dX7_keptEntries_5 rfl 2 rfl ?_
      refine z_get (v := vR (g 15)) F (ci_1 hI) fX7_12 rfl dX7_keptEntries_6 ?_
      refine z_callV (As := []) (st := [vI i9]) F (mJx4a65c_size_8abf5 l G N0 h (g 15) ((ρ 40 3).toNat) 0 (ρ 32 3) (ρ 8 0) (fun _ => none) (ci_15 hI)) cvX7_26 (ci_15 hI) (fun r9 h9 => by cases h9; rfl) rfl rfl ⟨Nat.le_of_ble_eq_true rfl, Nat.le_of_ble_eq_true rfl⟩ rfl ⟨Nat.le_of_ble_eq_true rfl, Nat.le_of_ble_eq_true rfl⟩ dX7_keptEntries_9 ?_
      rintro _ h9 ⟨rfl, hh9⟩
      rw [hh9]
      clear hh9 h9
      show Z _ _ _ _ _ _ _ _ _ _ _ _ _ _ _ _ _ _ _ _ [vI (ρ 8 0), vI i9]
      refine z_icmp_ge (tgt := 43) F dX7_keptEntries_12 (by decide) (by omega) (by omega) (fun c12 => ?_) (fun c12 => ?_)
      · refine z_iload_n F dX7_keptEntries_43 rfl 1 rfl ?_
        rw [hQ]
        exact z_iret (nf_i _) F hr (Nat.le_of_ble_eq_true rfl) (Nat.le_of_ble_eq_true rfl) dX7_keptEntries_44 (⟨rI (by rw [hn, show i9 = ρ 8 0 by omega]), rfl⟩)
      · refine z_aload_n F dX7_keptEntries_15 rfl 2 rfl ?_
        refine z_get (v := vR (g 15)) F (ci_1 hI) fX7_12 rfl dX7_keptEntries_16 ?_
        refine z_iload_n F dX7_keptEntries_19 rfl 0 rfl ?_
        refine z_callV (As := [vI i9]) (st := []) F (cGet3 l G N0 h g ρ i9 hI (show 0 ≤ i9 ∧ i9 < ρ 8 0 from by omega)) cvX7_30 (ci_15 hI) (fun r9 h9 => by cases h9; rfl) rfl rfl ⟨Nat.le_of_ble_eq_true rfl, Nat.le_of_ble_eq_true rfl⟩ rfl ⟨Nat.le_of_ble_eq_true rfl, Nat.le_of_ble_eq_true rfl⟩ dX7_keptEntries_20 ?_
        rintro _ h9 ⟨rfl, hh9⟩
        rw [hh9]
        clear hh9 h9
        show Z _ _ _ _ _ _ _ _ _ _ _ _ _ _ _ _ _ _ _ _ [vR (aE ρ i9)]
        refine z_cast F (ci_e hI (show 0 ≤ i9 ∧ i9 < ρ 8 0 ∧ i9 < 100 from by omega)) q244 (fun r9 h9 => by cases h9; rfl) dX7_keptEntries_23 ?_
        refine z_get (v := vI (ρ 12 i9)) F (ci_e hI (show 0 ≤ i9 ∧ i9 < ρ 8 0 ∧ i9 < 100 from by omega)) fX7_36 rfl dX7_keptEntries_26 ?_
        refine z_bipush F dX7_keptEntries_29 (by decide) ?_
        refine z_icmp_eq (tgt := 37) F dX7_keptEntries_31 (by decide) (by omega) (by decide) (fun c31 => ?_) (fun c31 => ?_)
        · refine z_iinc (lv' := [(2, vI (i9 + 1)), (1, vI n9), (0, vR (g 1))]) F dX7_keptEntries_37 0 rfl (by decide) rfl ?_
          refine z_goto (tgt := 4) F dX7_keptEntries_40 (by decide) ?_
          exact ih4 n9 (i9 + 1)  (by omega) (by rw [cst_s ρ 120 ha.1]; omega) (by omega) (by omega)
        · refine z_iinc (lv' := [(1, vI (n9 + 1)), (2, vI i9), (0, vR (g 1))]) F dX7_keptEntries_34 1 rfl (by decide) rfl ?_
          refine z_iinc (lv' := [(2, vI (i9 + 1)), (1, vI (n9 + 1)), (0, vR (g 1))]) F dX7_keptEntries_37 1 rfl (by decide) rfl ?_
          refine z_goto (tgt := 4) F dX7_keptEntries_40 (by decide) ?_
          exact ih4 (n9 + 1) (i9 + 1)  (by omega) (by rw [cst_s ρ 120 ha.1]; omega) (by omega) (by omega)
  exact L4 ((ρ 8 0 - 0 : Int).toNat + 1) 0 0  (by omega) (rfl) (by omega) (by omega)
set_option maxRecDepth 100000 in
set_option maxHeartbeats 4000000 in
theorem mX8_remove (l : Launch) (G : GG) (N0 : Nat) (h : Hp) (hl9 : l.stackTraces = false) (g : Int → Nat) (ρ : Sg) (e9 : Int) (hI : CI G g ρ h) (hV : MC ρ) (r_e9 : -2147483648 ≤ e9 ∧ e9 < 2147483648) : CtX l G N0 yX8_remove (Cond.code yX8_remove cX8_remove 3 (some FieldType.int) :: LW) ({ frames := 7, cells := 4, slots := 24, locals := 260 }) [vR (g 0), vI e9] h (fun r h' => ¬ (¬ (0 ≤ e9 ∧ e9 < ρ 8 0)) ∧ ¬ (¬ (ρ 12 e9 = 114 ∨ ρ 12 e9 = 101)) ∧ ∃ ρ', r = some (vI (keptS (su ρ 12 e9 120))) ∧ SA (su ρ 12 e9 120) ρ' ∧ CI G g ρ' h') (fun E h' => ∃ ρ', SA ρ ρ' ∧ CI G g ρ' h' ∧ ((E = "java/lang/IndexOutOfBoundsException" ∧ (¬ (0 ≤ e9 ∧ e9 < ρ 8 0))) ∨ (E = "java/lang/IllegalStateException" ∧ ¬ (¬ (0 ≤ e9 ∧ e9 < ρ 8 0)) ∧ (¬ (ρ 12 e9 = 114 ∨ ρ 12 e9 = 101))))) := by
  refine ctX_of rfl rfl ?_
  intro p e s m args below meth c F hr htab
  have F : Fx p s m args meth c RX8 cX8_remove 3 G N0 (cA h s.heap.size) := F
  obtain ⟨v0, v1, v2, v8, v16, v24, v39, vC, vE, vJ, vK, vB, vO⟩ := id hV
  have E9 := vE e9
  show Z _ _ _ _ _ _ _ _ _ _ _ _ _ _ _ _ _ _ _ [(0, vR (g 0)), (1, vI e9)] []
  refine z_aload_n F dX8_remove_0 rfl 0 rfl ?_
  refine z_iload_n F dX8_remove_1 rfl 1 rfl ?_
  refine z_xcallV (As := [vI e9]) (st := []) F htab (mX8_entryAt l G N0 h hl9 g ρ e9 hI hV (by omega)) cvX8_138 (ci_0 hI) (fun r9 h9 => by cases h9; rfl) rfl rfl ⟨Nat.le_of_ble_eq_true rfl, Nat.le_of_ble_eq_true rfl⟩ rfl ⟨Nat.le_of_ble_eq_true rfl, Nat.le_of_ble_eq_true rfl⟩ dX8_remove_2 (fun E h9 hx => by obtain ⟨e1, rfl⟩ := hx; refine ⟨ρ, SA.refl _, hI, ?_⟩; obtain ⟨rfl, e2⟩ := e1; first | exact Or.inl ⟨rfl, by omega⟩ | exact Or.inr (⟨rfl, by omega, by omega⟩)) (Nat.le_of_ble_eq_true rfl) (Nat.le_of_ble_eq_true rfl) ?_
  rintro _ h9 ⟨f2_0, rfl, hh9⟩
  rw [hh9]
  clear hh9 h9
  show Z _ _ _ _ _ _ _ _ _ _ _ _ _ _ _ _ _ _ _ _ [vR (aE ρ e9)]
  refine z_astore_n (lv' := [(2, vR (aE ρ e9)), (0, vR (g 0)), (1, vI e9)]) F dX8_remove_5 rfl (by decide) rfl ?_
  refine z_aload_n F dX8_remove_6 rfl 1 rfl ?_
  refine z_aload_n F dX8_remove_7 rfl 0 rfl ?_
  refine z_xcallV (As := [vR (aE ρ e9)]) (st := []) F htab (mX8_requireOpen l G N0 h hl9 g ρ e9 hI hV (by omega)) cvX8_157 (ci_0 hI) (fun r9 h9 => by cases h9; rfl) rfl rfl ⟨Nat.le_of_ble_eq_true rfl, Nat.le_of_ble_eq_true rfl⟩ rfl ⟨Nat.le_of_ble_eq_true rfl, Nat.le_of_ble_eq_true rfl⟩ dX8_remove_8 (fun E h9 hx => by obtain ⟨e1, rfl⟩ := hx; refine ⟨ρ, SA.refl _, hI, ?_⟩; obtain ⟨rfl, e2⟩ := e1; first | exact Or.inl ⟨rfl, by omega⟩ | exact Or.inr (⟨rfl, by omega, by omega⟩)) (Nat.le_of_ble_eq_true rfl) (Nat.le_of_ble_eq_true rfl) ?_
  rintro _ h9 ⟨f8_0, rfl, hh9⟩
  rw [hh9]
  clear hh9 h9
  show Z _ _ _ _ _ _ _ _ _ _ _ _ _ _ _ _ _ _ _ _ []
  refine z_aload_n F dX8_remove_11 rfl 0 rfl ?_
  refine z_bipush F dX8_remove_12 (by decide) ?_
  obtain ⟨h1, eh1, Ih1⟩ : ∃ z : Hp, hu h (aE ρ e9) (eO 7 [vI e9, vR (aC ρ (ρ 9 e9)), vI (ρ 10 e9), vI (ρ 11 e9), vI 120, vI (ρ 13 e9)]) = z ∧ CI G g (su ρ 12 e9 120) z := ⟨_, rfl, cP12 hI (show 0 ≤ e9 ∧ e9 < ρ 8 0 ∧ e9 < 100 from by omega) (by first | (simp [su, sw, fb_fi]; done) | (simp [su, sw, fb_fi]; rfl))⟩
  refine z_put (fs := [vI e9, vR (aC ρ (ρ 9 e9)), vI (ρ 10 e9), vI (ρ 11 e9), vI (ρ 12 e9), vI (ρ 13 e9)]) (fs' := [vI e9, vR (aC ρ (ρ 9 e9)), vI (ρ 10 e9), vI (ρ 11 e9), vI 120, vI (ρ 13 e9)]) (h' := h1) F (ci_e hI (show 0 ≤ e9 ∧ e9 < ρ 8 0 ∧ e9 < 100 from by omega)) fX8_142 ftX2_4 (nf_c (by omega)) (Nat.le_of_ble_eq_true rfl) rfl dX8_remove_14 eh1 ?_
  refine z_aload_n F dX8_remove_17 rfl 1 rfl ?_
  refine z_get (v := vR (g 1)) F (ci_0 (ρ := (su ρ 12 e9 120)) Ih1) fX8_10 rfl dX8_remove_18 ?_
  refine z_callV (As := []) (st := []) F (mX7_keptEntries2 l G N0 h1 g (su ρ 12 e9 120) Ih1 v8 (fun e e0 e1 => by have := vE e e0 e1; show 0 ≤ su ρ 12 e9 120 12 e ∧ su ρ 12 e9 120 12 e ≤ 200; by_cases q : e = e9; rw [q, su_e]; omega; rw [su_i q]; omega)) cvX8_167 (ci_1 (ρ := (su ρ 12 e9 120)) Ih1) (fun r9 h9 => by cases h9; rfl) rfl rfl ⟨Nat.le_of_ble_eq_true rfl, Nat.le_of_ble_eq_true rfl⟩ rfl ⟨Nat.le_of_ble_eq_true rfl, Nat.le_of_ble_eq_true rfl⟩ dX8_remove_21 ?_
  rintro _ h9 ⟨rfl, hh9⟩
  rw [hh9]
  clear hh9 h9
  show Z _ _ _ _ _ _ _ _ _ _ _ _ _ _ _ _ _ _ _ _ [vI (keptS (su ρ 12 e9 120))]
  exact z_iretX (nf_i _) F hr (Nat.le_of_ble_eq_true rfl) (Nat.le_of_ble_eq_true rfl) dX8_remove_24 (⟨by omega, by omega, (su ρ 12 e9 120), rI (by first | rfl | omega), SA.refl _, Ih1⟩)
set_option maxRecDepth 100000 in
set_option maxHeartbeats 4000000 in
theorem mX8_rounded (l : Launch) (G : GG) (N0 : Nat) (h : Hp) (hl9 : l.stackTraces = false) (g : Int → Nat) (ρ : Sg) (e9 : Int) (hI : CI G g ρ h) (hV : MC ρ) (r_e9 : -2147483648 ≤ e9 ∧ e9 < 2147483648) : CtX l G N0 yX8_rounded (Cond.code yX8_rounded cX8_rounded 3 (some FieldType.int) :: LW) ({ frames := 9, cells := 27, slots := 2430, locals := 500 }) [vR (g 0), vI e9] h (fun r h' => ¬ (¬ (0 ≤ e9 ∧ e9 < ρ 8 0)) ∧ ¬ (¬ (ρ 12 e9 = 114 ∨ ρ 12 e9 = 101)) ∧ ¬ (ρ 5 (ρ 9 e9) = 100) ∧ ∃ ρ', r = some (vI (rdO (ρ 9) (ρ 12) (ρ 10) (secS ρ) (ρ 5 (ρ 9 e9)) (ρ 3 (ρ 9 e9)) (ρ 4 (ρ 9 e9)) (ρ 9 e9) e9 1 (ρ 8 0).toNat)) ∧ SA (ρ) ρ' ∧ CI G g ρ' h') (fun E h' => ∃ ρ', SA ρ ρ' ∧ CI G g ρ' h' ∧ ((E = "java/lang/IndexOutOfBoundsException" ∧ (¬ (0 ≤ e9 ∧ e9 < ρ 8 0))) ∨ (E = "java/lang/IllegalStateException" ∧ ¬ (¬ (0 ≤ e9 ∧ e9 < ρ 8 0)) ∧ (¬ (ρ 12 e9 = 114 ∨ ρ 12 e9 = 101))) ∨ (E = "java/lang/UnsupportedOperationException" ∧ ¬ (¬ (0 ≤ e9 ∧ e9 < ρ 8 0)) ∧ ¬ (¬ (ρ 12 e9 = 114 ∨ ρ 12 e9 = 101)) ∧ (ρ 5 (ρ 9 e9) = 100)))) := by
  refine ctX_of rfl rfl ?_
  intro p e s m args below meth c F hr htab
  have F : Fx p s m args meth c RX8 cX8_rounded 3 G N0 (cA h s.heap.size) := F
  obtain ⟨v0, v1, v2, v8, v16, v24, v39, vC, vE, vJ, vK, vB, vO⟩ := id hV
  have E9 := vE e9
  have C9 := fun a b => vC (ρ 9 e9) a b
  show Z _ _ _ _ _ _ _ _ _ _ _ _ _ _ _ _ _ _ _ [(0, vR (g 0)), (1, vI e9)] []
  refine z_aload_n F dX8_rounded_0 rfl 0 rfl ?_
  refine z_iload_n F dX8_rounded_1 rfl 1 rfl ?_
  refine z_xcallV (As := [vI e9]) (st := []) F htab (mX8_entryAt l G N0 h hl9 g ρ e9 hI hV (by omega)) cvX8_138 (ci_0 hI) (fun r9 h9 => by cases h9; rfl) rfl rfl ⟨Nat.le_of_ble_eq_true rfl, Nat.le_of_ble_eq_true rfl⟩ rfl ⟨Nat.le_of_ble_eq_true rfl, Nat.le_of_ble_eq_true rfl⟩ dX8_rounded_2 (fun E h9 hx => by obtain ⟨e1, rfl⟩ := hx; refine ⟨ρ, SA.refl _, hI, ?_⟩; obtain ⟨rfl, e2⟩ := e1; first | exact Or.inl ⟨rfl, by omega⟩ | exact Or.inr (Or.inl ⟨rfl, by omega, by omega⟩) | exact Or.inr (Or.inr (⟨rfl, by omega, by omega, by omega⟩))) (Nat.le_of_ble_eq_true rfl) (Nat.le_of_ble_eq_true rfl) ?_
  rintro _ h9 ⟨f2_0, rfl, hh9⟩
  rw [hh9]
  clear hh9 h9
  show Z _ _ _ _ _ _ _ _ _ _ _ _ _ _ _ _ _ _ _ _ [vR (aE ρ e9)]
  refine z_astore_n (lv' := [(2, vR (aE ρ e9)), (0, vR (g 0)), (1, vI e9)]) F dX8_rounded_5 rfl (by decide) rfl ?_
  refine z_aload_n F dX8_rounded_6 rfl 1 rfl ?_
  refine z_aload_n F dX8_rounded_7 rfl 0 rfl ?_
  refine z_xcallV (As := [vR (aE ρ e9)]) (st := []) F htab (mX8_requireOpen l G N0 h hl9 g ρ e9 hI hV (by omega)) cvX8_157 (ci_0 hI) (fun r9 h9 => by cases h9; rfl) rfl rfl ⟨Nat.le_of_ble_eq_true rfl, Nat.le_of_ble_eq_true rfl⟩ rfl ⟨Nat.le_of_ble_eq_true rfl, Nat.le_of_ble_eq_true rfl⟩ dX8_rounded_8 (fun E h9 hx => by obtain ⟨e1, rfl⟩ := hx; refine ⟨ρ, SA.refl _, hI, ?_⟩; obtain ⟨rfl, e2⟩ := e1; first | exact Or.inl ⟨rfl, by omega⟩ | exact Or.inr (Or.inl ⟨rfl, by omega, by omega⟩) | exact Or.inr (Or.inr (⟨rfl, by omega, by omega, by omega⟩))) (Nat.le_of_ble_eq_true rfl) (Nat.le_of_ble_eq_true rfl) ?_
  rintro _ h9 ⟨f8_0, rfl, hh9⟩
  rw [hh9]
  clear hh9 h9
  show Z _ _ _ _ _ _ _ _ _ _ _ _ _ _ _ _ _ _ _ _ []
  refine z_aload_n F dX8_rounded_11 rfl 0 rfl ?_
  refine z_get (v := vR (aC ρ (ρ 9 e9))) F (ci_e hI (show 0 ≤ e9 ∧ e9 < ρ 8 0 ∧ e9 < 100 from by omega)) fX8_196 rfl dX8_rounded_12 ?_
  refine z_get (v := vI (ρ 5 (ρ 9 e9))) F (ci_c hI (show 0 ≤ ρ 9 e9 ∧ ρ 9 e9 < ρ 2 0 ∧ ρ 9 e9 < 100 from by omega)) fX8_115 rfl dX8_rounded_15 ?_
  refine z_bipush F dX8_rounded_18 (by decide) ?_
  refine z_icmp_ne (tgt := 33) F dX8_rounded_20 (by decide) (by omega) (by decide) (fun c20 => ?_) (fun c20 => ?_)
  · refine z_aload_n F dX8_rounded_33 rfl 1 rfl ?_
    refine z_get (v := vR (g 6)) F (ci_0 hI) fX8_33 rfl dX8_rounded_34 ?_
    refine z_aload_n F dX8_rounded_37 rfl 0 rfl ?_
    refine z_get (v := vR (aC ρ (ρ 9 e9))) F (ci_e hI (show 0 ≤ e9 ∧ e9 < ρ 8 0 ∧ e9 < 100 from by omega)) fX8_196 rfl dX8_rounded_38 ?_
    refine z_iconst F dX8_rounded_41 ?_
    refine z_callV (As := [vR (aC ρ (ρ 9 e9)), vI 1]) (st := []) F (mX5_pick l G N0 h g ρ (ρ 9 e9) 1 hI hV (by omega) (by omega)) cvX8_218 (ci_6 hI) (fun r9 h9 => by cases h9; rfl) rfl rfl ⟨Nat.le_of_ble_eq_true rfl, Nat.le_of_ble_eq_true rfl⟩ rfl ⟨Nat.le_of_ble_eq_true rfl, Nat.le_of_ble_eq_true rfl⟩ dX8_rounded_42 ?_
    rintro _ h7 ⟨rfl, a7, I7, O7⟩
    have V7 : MC (mx ρ a7) := MC.sa (mx_sq ρ a7).sa hV
    show Z _ _ _ _ _ _ _ _ _ _ _ _ _ _ _ _ _ _ _ _ []
    refine z_aload_n F dX8_rounded_45 rfl 1 rfl ?_
    refine z_get (v := vR (g 6)) F (ci_0 (ρ := (mx ρ a7)) I7) fX8_33 rfl dX8_rounded_46 ?_
    refine z_aload_n F dX8_rounded_49 rfl 1 rfl ?_
    refine z_get (v := vR (g 6)) F (ci_0 (ρ := (mx ρ a7)) I7) fX8_33 rfl dX8_rounded_50 ?_
    refine z_aload_n F dX8_rounded_53 rfl 0 rfl ?_
    refine z_callV (As := [vR (aE ρ e9)]) (st := [vR (g 6)]) F (mX5_placeOf l G N0 h7 g (mx ρ a7) (ρ 9 e9) 1 e9 I7 V7 O7 (show 0 ≤ ρ 9 e9 ∧ ρ 9 e9 < ρ 2 0 from by omega) (show 0 ≤ e9 ∧ e9 < ρ 8 0 from by omega) (show blI (ρ 9) (ρ 12) e9 (ρ 9 e9) 1 = 1 from by unfold blI; exact if_pos (by omega))) cvX8_222 (ci_6 (ρ := (mx ρ a7)) I7) (fun r9 h9 => by cases h9; rfl) rfl rfl ⟨Nat.le_of_ble_eq_true rfl, Nat.le_of_ble_eq_true rfl⟩ rfl ⟨Nat.le_of_ble_eq_true rfl, Nat.le_of_ble_eq_true rfl⟩ dX8_rounded_54 ?_
    rintro _ h9 ⟨⟨q7, rfl, q71, q72⟩, hh9⟩
    rw [hh9]
    clear hh9 h9
    have q71 : 0 ≤ q7 ∧ q7 < a7 36 0 := q71
    show Z _ _ _ _ _ _ _ _ _ _ _ _ _ _ _ _ _ _ _ _ [vI q7, vR (g 6)]
    refine z_callV (As := [vI q7]) (st := []) F (mX5_minutesAt l G N0 h7 g (mx ρ a7) (ρ 9 e9) 1 q7 I7 V7 O7 (show 0 ≤ ρ 9 e9 ∧ ρ 9 e9 < ρ 2 0 from by omega) q71) cvX8_225 (ci_6 (ρ := (mx ρ a7)) I7) (fun r9 h9 => by cases h9; rfl) rfl rfl ⟨Nat.le_of_ble_eq_true rfl, Nat.le_of_ble_eq_true rfl⟩ rfl ⟨Nat.le_of_ble_eq_true rfl, Nat.le_of_ble_eq_true rfl⟩ dX8_rounded_57 ?_
    rintro _ h9 ⟨rfl, hh9⟩
    rw [hh9]
    clear hh9 h9
    show Z _ _ _ _ _ _ _ _ _ _ _ _ _ _ _ _ _ _ _ _ [vI (mAt (mx ρ a7) (ρ 9 e9) q7)]
    exact z_iretX (nf_i _) F hr (Nat.le_of_ble_eq_true rfl) (Nat.le_of_ble_eq_true rfl) dX8_rounded_60 (⟨by omega, by omega, by omega, (mx ρ a7), rI (by rw [O7.mAts V7 q71.1 q71.2, q72, secS_r (SA.c (mx_sq ρ a7).sa)]; rfl), (mx_sq ρ a7).sa, I7⟩)
  · exact z_throwC (names := ["java/lang/RuntimeException", "java/lang/Exception"]) F htab hl9 ⟨by decide +kernel, fitN⟩ q1130 q32 hatU (List.mem_of_getElem? (i := 20) rfl) dX8_rounded_23 dX8_rounded_26 dX8_rounded_27 dX8_rounded_29 dX8_rounded_32 ⟨Nat.le_of_ble_eq_true rfl, Nat.le_of_ble_eq_true rfl, Nat.le_of_ble_eq_true rfl, Nat.le_of_ble_eq_true rfl⟩ (Nat.le_of_ble_eq_true rfl) (Nat.le_of_ble_eq_true rfl) (⟨ρ, SA.refl _, hI, by first | exact Or.inl ⟨rfl, by omega⟩ | exact Or.inr (Or.inl ⟨rfl, by omega, by omega⟩) | exact Or.inr (Or.inr (⟨rfl, by omega, by omega, by omega⟩))⟩)
set_option maxRecDepth 100000 in
set_option maxHeartbeats 4000000 in
theorem mX8_meanMinutes (l : Launch) (G : GG) (N0 : Nat) (h : Hp) (hl9 : l.stackTraces = false) (g : Int → Nat) (ρ : Sg) (hI : CI G g ρ h) (hV : MC ρ) : CtX l G N0 yX8_meanMinutes (Cond.code yX8_meanMinutes cX8_meanMinutes 2 (some FieldType.double) :: LW) ({ frames := 7, cells := 4, slots := 24, locals := 260 }) [vR (g 0)] h (fun r h' => ¬ (keptS ρ = 0) ∧ ∃ ρ', r = some (vD (meanS ρ)) ∧ SA (ρ) ρ' ∧ CI G g ρ' h') (fun E h' => ∃ ρ', SA ρ ρ' ∧ CI G g ρ' h' ∧ ((E = "java/lang/ArithmeticException" ∧ (keptS ρ = 0)))) := by
  refine ctX_of rfl rfl ?_
  intro p e s m args below meth c F hr htab
  have F : Fx p s m args meth c RX8 cX8_meanMinutes 2 G N0 (cA h s.heap.size) := F
  obtain ⟨v0, v1, v2, v8, v16, v24, v39, vC, vE, vJ, vK, vB, vO⟩ := id hV
  have hks := keptS_b hV
  show Z _ _ _ _ _ _ _ _ _ _ _ _ _ _ _ _ _ _ _ [(0, vR (g 0))] []
  refine z_aload_n F dX8_meanMinutes_0 rfl 0 rfl ?_
  refine z_get (v := vR (g 1)) F (ci_0 hI) fX8_10 rfl dX8_meanMinutes_1 ?_
  refine z_callV (As := []) (st := []) F (mX7_keptEntries l G N0 h g ρ hI hV) cvX8_167 (ci_1 hI) (fun r9 h9 => by cases h9; rfl) rfl rfl ⟨Nat.le_of_ble_eq_true rfl, Nat.le_of_ble_eq_true rfl⟩ rfl ⟨Nat.le_of_ble_eq_true rfl, Nat.le_of_ble_eq_true rfl⟩ dX8_meanMinutes_4 ?_
  rintro _ h9 ⟨rfl, hh9⟩
  rw [hh9]
  clear hh9 h9
  show Z _ _ _ _ _ _ _ _ _ _ _ _ _ _ _ _ _ _ _ _ [vI (keptS ρ)]
  refine z_istore_n (lv' := [(1, vI (keptS ρ)), (0, vR (g 0))]) F dX8_meanMinutes_7 rfl (by decide) rfl ?_
  refine z_iload_n F dX8_meanMinutes_8 rfl 0 rfl ?_
  refine z_if_ne (tgt := 23) F dX8_meanMinutes_9 (by decide) (by omega) (fun c9 => ?_) (fun c9 => ?_)
  · refine z_aload_n F dX8_meanMinutes_23 rfl 1 rfl ?_
    refine z_get (v := vR (g 2)) F (ci_0 hI) fX8_21 rfl dX8_meanMinutes_24 ?_
    refine z_iconst F dX8_meanMinutes_27 ?_
    refine z_aload_n F dX8_meanMinutes_28 rfl 1 rfl ?_
    refine z_get (v := vR (g 1)) F (ci_0 hI) fX8_10 rfl dX8_meanMinutes_29 ?_
    refine z_get (v := vI (ρ 0 0)) F (ci_1 hI) fX8_57 rfl dX8_meanMinutes_32 ?_
    refine z_callV (As := [vI 0, vI (ρ 0 0)]) (st := []) F (mX6_countByIntervals0 l G N0 h g ρ 0 (ρ 0 0) hI hV (by omega)) cvX8_173 (ci_2 hI) (fun r9 h9 => by cases h9; rfl) rfl rfl ⟨Nat.le_of_ble_eq_true rfl, Nat.le_of_ble_eq_true rfl⟩ rfl ⟨Nat.le_of_ble_eq_true rfl, Nat.le_of_ble_eq_true rfl⟩ dX8_meanMinutes_35 ?_
    rintro _ h5 ⟨rfl, p5, f5, I5, hf5⟩
    show Z _ _ _ _ _ _ _ _ _ _ _ _ _ _ _ _ _ _ _ _ []
    refine z_aload_n F dX8_meanMinutes_38 rfl 1 rfl ?_
    refine z_get (v := vR (g 2)) F (ci_0 (ρ := (sw (sw ρ 34 p5) 14 f5)) I5) fX8_21 rfl dX8_meanMinutes_39 ?_
    refine z_callV (As := []) (st := []) F (mX6_secondsOfAll l G N0 h5 g (sw (sw ρ 34 p5) 14 f5) I5 (MC.sa (((SA.refl ρ).sw rfl _).sw rfl _) hV)) cvX8_343 (ci_2 (ρ := (sw (sw ρ 34 p5) 14 f5)) I5) (fun r9 h9 => by cases h9; rfl) rfl rfl ⟨Nat.le_of_ble_eq_true rfl, Nat.le_of_ble_eq_true rfl⟩ rfl ⟨Nat.le_of_ble_eq_true rfl, Nat.le_of_ble_eq_true rfl⟩ dX8_meanMinutes_42 ?_
    rintro _ h9 ⟨rfl, hh9⟩
    rw [hh9]
    clear hh9 h9
    have hsc9 : scS (sOf (sw (sw ρ 34 p5) 14 f5) 14) (ρ 8 0).toNat = scS (secS ρ) (ρ 8 0).toNat := scS_s2 hV hf5
    show Z _ _ _ _ _ _ _ _ _ _ _ _ _ _ _ _ _ _ _ _ [vI (scS (sOf (sw (sw ρ 34 p5) 14 f5) 14) (ρ 8 0).toNat)]
    rw [hsc9]
    have hscb := scS_in (f := secS ρ) (N := (ρ 8 0).toNat) (fun x q1 q2 => secS_b hV q1 (by omega)) (ρ 8 0).toNat (Nat.le_refl _)
    show Z _ _ _ _ _ _ _ _ _ _ _ _ _ _ _ _ _ _ _ _ [vI (scS (secS ρ) (ρ 8 0).toNat)]
    refine z_i2d F dX8_meanMinutes_45 ?_
    refine z_ldc2d F q1453 dX8_meanMinutes_46 ?_
    refine z_ddiv F dX8_meanMinutes_49 (n64_of (Nat.le_of_lt (Nat.lt_of_lt_of_le (mg_mean1 (by omega)) (by decide)))) ?_
    refine z_iload_n F dX8_meanMinutes_50 rfl 0 rfl ?_
    refine z_i2d F dX8_meanMinutes_51 ?_
    refine z_ddiv F dX8_meanMinutes_52 (n64_of (Nat.le_of_lt (Nat.lt_of_lt_of_le (mg_mean (by omega) (by omega)) (by decide)))) ?_
    exact z_dretX F hr (Nat.le_of_ble_eq_true rfl) (Nat.le_of_ble_eq_true rfl) dX8_meanMinutes_53 (⟨by omega, (sw (sw ρ 34 p5) 14 f5), rfl, (((SA.refl ρ).sw rfl _).sw rfl _), I5⟩)
  · exact z_throwCW (names := ["java/lang/RuntimeException", "java/lang/Exception"]) F htab hl9 ⟨by decide +kernel, fitN⟩ q1428 q37 hatR (List.mem_of_getElem? (i := 30) rfl) dX8_meanMinutes_12 dX8_meanMinutes_15 dX8_meanMinutes_16 dX8_meanMinutes_19 dX8_meanMinutes_22 ⟨Nat.le_of_ble_eq_true rfl, Nat.le_of_ble_eq_true rfl, Nat.le_of_ble_eq_true rfl, Nat.le_of_ble_eq_true rfl⟩ (Nat.le_of_ble_eq_true rfl) (Nat.le_of_ble_eq_true rfl) (⟨ρ, SA.refl _, hI, by first | exact ⟨rfl, by omega⟩⟩)
set_option maxRecDepth 100000 in
set_option maxHeartbeats 4000000 in
theorem mX8_charAt (l : Launch) (G : GG) (N0 : Nat) (h : Hp) (hl9 : l.stackTraces = false) (g : Int → Nat) (ρ : Sg) (i9 : Int) (hI : CI G g ρ h) (hV : MC ρ) (r_i9 : -2147483648 ≤ i9 ∧ i9 < 2147483648) : CtX l G N0 yX8_charAt (Cond.code yX8_charAt cX8_charAt 2 (some FieldType.char) :: LW) ({ frames := 7, cells := 4, slots := 24, locals := 260 }) [vR (g 0), vI i9] h (fun r h' => ¬ (¬ (0 ≤ i9 ∧ i9 < ρ 29 0)) ∧ ∃ ρ', r = some (vI (ρ 28 i9)) ∧ SA (ρ) ρ' ∧ CI G g ρ' h') (fun E h' => ∃ ρ', SA ρ ρ' ∧ CI G g ρ' h' ∧ ((E = "java/lang/IndexOutOfBoundsException" ∧ (¬ (0 ≤ i9 ∧ i9 < ρ 29 0))))) := by
  refine ctX_of rfl rfl ?_
  intro p e s m args below meth c F hr htab
  have F : Fx p s m args meth c RX8 cX8_charAt 2 G N0 (cA h s.heap.size) := F
  obtain ⟨v0, v1, v2, v8, v16, v24, v39, vC, vE, vJ, vK, vB, vO⟩ := id hV
  show Z _ _ _ _ _ _ _ _ _ _ _ _ _ _ _ _ _ _ _ [(0, vR (g 0)), (1, vI i9)] []
  refine z_iload_n F dX8_charAt_0 rfl 1 rfl ?_
  refine z_if_lt (tgt := 15) F dX8_charAt_1 (by decide) (by omega) (fun c1 => ?_) (fun c1 => ?_)
  · exact z_throwC (names := ["java/lang/RuntimeException", "java/lang/Exception"]) F htab hl9 ⟨by decide +kernel, fitN⟩ q852 q25 hatI (List.mem_of_getElem? (i := 19) rfl) dX8_charAt_15 dX8_charAt_18 dX8_charAt_19 dX8_charAt_21 dX8_charAt_24 ⟨Nat.le_of_ble_eq_true rfl, Nat.le_of_ble_eq_true rfl, Nat.le_of_ble_eq_true rfl, Nat.le_of_ble_eq_true rfl⟩ (Nat.le_of_ble_eq_true rfl) (Nat.le_of_ble_eq_true rfl) (⟨ρ, SA.refl _, hI, by first | exact ⟨rfl, by omega⟩⟩)
  · refine z_iload_n F dX8_charAt_4 rfl 1 rfl ?_
    refine z_aload_n F dX8_charAt_5 rfl 0 rfl ?_
    refine z_get (v := vR (g 13)) F (ci_0 hI) fX8_53 rfl dX8_charAt_6 ?_
    refine z_callV (As := []) (st := [vI i9]) F (mJ4_length_8abf5 l G N0 h (g 13) (aA ρ 5) 0 (ρ 38 0) (ρ 29 0) (fun _ => 0) (ci_13 hI)) cvX8_201 (ci_13 hI) (fun r9 h9 => by cases h9; rfl) rfl rfl ⟨Nat.le_of_ble_eq_true rfl, Nat.le_of_ble_eq_true rfl⟩ rfl ⟨Nat.le_of_ble_eq_true rfl, Nat.le_of_ble_eq_true rfl⟩ dX8_charAt_9 ?_
    rintro _ h9 ⟨rfl, hh9⟩
    rw [hh9]
    clear hh9 h9
    show Z _ _ _ _ _ _ _ _ _ _ _ _ _ _ _ _ _ _ _ _ [vI (ρ 29 0), vI i9]
    refine z_icmp_lt (tgt := 25) F dX8_charAt_12 (by decide) (by omega) (by omega) (fun c12 => ?_) (fun c12 => ?_)
    · refine z_aload_n F dX8_charAt_25 rfl 0 rfl ?_
      refine z_get (v := vR (g 13)) F (ci_0 hI) fX8_53 rfl dX8_charAt_26 ?_
      refine z_iload_n F dX8_charAt_29 rfl 1 rfl ?_
      refine z_callV (As := [vI i9]) (st := []) F (mJ4_charAt_5068e l G N0 h (g 13) (aA ρ 5) (ρ 37 0).toNat (ρ 38 0) (ρ 29 0) (ρ 28) i9 (ci_13 hI) (ci_14 hI) (by omega) (by omega) (by have := vO.2.2.1 i9 (by omega) (by omega); have := vO.2.2.2 i9 (by omega) (by omega); omega)) cvX8_209 (ci_13 hI) (fun r9 h9 => by cases h9; rfl) rfl rfl ⟨Nat.le_of_ble_eq_true rfl, Nat.le_of_ble_eq_true rfl⟩ rfl ⟨Nat.le_of_ble_eq_true rfl, Nat.le_of_ble_eq_true rfl⟩ dX8_charAt_30 ?_
      rintro _ h9 ⟨rfl, hh9⟩
      rw [hh9]
      clear hh9 h9
      have ho9 : 0 ≤ ρ 28 i9 ∧ ρ 28 i9 < 128 := (by have := vO.2.2.1 i9 (by omega) (by omega); have := vO.2.2.2 i9 (by omega) (by omega); omega)
      show Z _ _ _ _ _ _ _ _ _ _ _ _ _ _ _ _ _ _ _ _ [vI (ρ 28 i9)]
      exact z_iretX (nf_c (by omega)) F hr (Nat.le_of_ble_eq_true rfl) (Nat.le_of_ble_eq_true rfl) dX8_charAt_33 (⟨by omega, ρ, rI (by first | rfl | omega), SA.refl _, hI⟩)
    · exact z_throwC (names := ["java/lang/RuntimeException", "java/lang/Exception"]) F htab hl9 ⟨by decide +kernel, fitN⟩ q852 q25 hatI (List.mem_of_getElem? (i := 19) rfl) dX8_charAt_15 dX8_charAt_18 dX8_charAt_19 dX8_charAt_21 dX8_charAt_24 ⟨Nat.le_of_ble_eq_true rfl, Nat.le_of_ble_eq_true rfl, Nat.le_of_ble_eq_true rfl, Nat.le_of_ble_eq_true rfl⟩ (Nat.le_of_ble_eq_true rfl) (Nat.le_of_ble_eq_true rfl) (⟨ρ, SA.refl _, hI, by first | exact ⟨rfl, by omega⟩⟩)
