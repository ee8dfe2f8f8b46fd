theorem CI.ce {G : GG} {g : Int → Nat} {ρ ρ' : Sg} {h : Hp} (H : CI G g ρ h) (hC : ∀ r, CE g ρ' r = CE g ρ r) (hd : ∀ r, ad g ρ' r = ad g ρ r) (hK : KLs G g ρ') : CI G g ρ' h := ⟨fun r x hx => by rw [hd]; exact H.1 r x (hC r ▸ hx), fun r r' h1 h2 e => H.2.1 r r' (hC r ▸ h1) (hC r' ▸ h2) (by rw [← hd, ← hd]; exact e), hK⟩
set_option maxRecDepth 100000 in
set_option maxHeartbeats 4000000 in
theorem mX8_clientAt (l : Launch) (G : GG) (N0 : Nat) (h : Hp) (hl9 : l.stackTraces = false) (g : Int → Nat) (ρ : Sg) (c9 : Int) (hI : CI G g ρ h) (hV : MC ρ) (r_c9 : -2147483648 ≤ c9 ∧ c9 < 2147483648) : CtX l G N0 yX8_clientAt (Cond.code yX8_clientAt cX8_clientAt 2 (some (FieldType.object "TimerLedger$Client")) :: LW) ({ frames := 6, cells := 1, slots := 6, locals := 200 }) [vR (g 0), vI c9] h (fun r h' => (0 ≤ c9 ∧ c9 < ρ 2 0) ∧ r = some (vR (aC ρ c9)) ∧ h' = h) (fun E h' => ((E = "java/lang/IndexOutOfBoundsException" ∧ (¬ (0 ≤ c9 ∧ c9 < ρ 2 0)))) ∧ h' = h) := by
  refine ctX_of rfl rfl ?_
  intro p e s m args below meth c F hr htab
  have F : Fx p s m args meth c RX8 cX8_clientAt 2 G N0 (cA h s.heap.size) := F
  obtain ⟨v0, v1, v2, v8, v16, v24, v39, vC, vE, vJ, vK, vB, vO⟩ := id hV
  show Z _ _ _ _ _ _ _ _ _ _ _ _ _ _ _ _ _ _ _ [(0, vR (g 0)), (1, vI c9)] []
  refine z_iload_n F dX8_clientAt_0 rfl 1 rfl ?_
  refine z_if_lt (tgt := 15) F dX8_clientAt_1 (by decide) (by omega) (fun c1 => ?_) (fun c1 => ?_)
  · exact z_throwCW (names := ["java/lang/RuntimeException", "java/lang/Exception"]) F htab hl9 ⟨by decide +kernel, fitN⟩ q852 q25 hatI (List.mem_of_getElem? (i := 8) rfl) dX8_clientAt_15 dX8_clientAt_18 dX8_clientAt_19 dX8_clientAt_22 dX8_clientAt_25 ⟨Nat.le_of_ble_eq_true rfl, Nat.le_of_ble_eq_true rfl, Nat.le_of_ble_eq_true rfl, Nat.le_of_ble_eq_true rfl⟩ (Nat.le_of_ble_eq_true rfl) (Nat.le_of_ble_eq_true rfl) (⟨by first | exact ⟨rfl, by omega⟩, rfl⟩)
  · refine z_iload_n F dX8_clientAt_4 rfl 1 rfl ?_
    refine z_aload_n F dX8_clientAt_5 rfl 0 rfl ?_
    refine z_get (v := vR (g 7)) F (ci_0 hI) fX8_40 rfl dX8_clientAt_6 ?_
    refine z_callV (As := []) (st := [vI c9]) F (mJx4a65c_size_8abf5 l G N0 h (g 7) ((ρ 40 0).toNat) 0 (ρ 32 0) (ρ 2 0) (fun _ => none) (ci_7 hI)) cvX8_90 (ci_7 hI) (fun r9 h9 => by cases h9; rfl) rfl rfl ⟨Nat.le_of_ble_eq_true rfl, Nat.le_of_ble_eq_true rfl⟩ rfl ⟨Nat.le_of_ble_eq_true rfl, Nat.le_of_ble_eq_true rfl⟩ dX8_clientAt_9 ?_
    rintro _ h9 ⟨rfl, hh9⟩
    rw [hh9]
    clear hh9 h9
    show Z _ _ _ _ _ _ _ _ _ _ _ _ _ _ _ _ _ _ _ _ [vI (ρ 2 0), vI c9]
    refine z_icmp_lt (tgt := 26) F dX8_clientAt_12 (by decide) (by omega) (by omega) (fun c12 => ?_) (fun c12 => ?_)
    · refine z_aload_n F dX8_clientAt_26 rfl 0 rfl ?_
      refine z_get (v := vR (g 7)) F (ci_0 hI) fX8_40 rfl dX8_clientAt_27 ?_
      refine z_iload_n F dX8_clientAt_30 rfl 1 rfl ?_
      refine z_callV (As := [vI c9]) (st := []) F (cGet0 l G N0 h g ρ c9 hI (show 0 ≤ c9 ∧ c9 < ρ 2 0 from by omega)) cvX8_373 (ci_7 hI) (fun r9 h9 => by cases h9; rfl) rfl rfl ⟨Nat.le_of_ble_eq_true rfl, Nat.le_of_ble_eq_true rfl⟩ rfl ⟨Nat.le_of_ble_eq_true rfl, Nat.le_of_ble_eq_true rfl⟩ dX8_clientAt_31 ?_
      rintro _ h9 ⟨rfl, hh9⟩
      rw [hh9]
      clear hh9 h9
      show Z _ _ _ _ _ _ _ _ _ _ _ _ _ _ _ _ _ _ _ _ [vR (aC ρ c9)]
      refine z_cast F (ci_c hI (show 0 ≤ c9 ∧ c9 < ρ 2 0 ∧ c9 < 100 from by omega)) q249 (fun r9 h9 => by cases h9; rfl) dX8_clientAt_34 ?_
      exact z_aretX (Or.inl ⟨_, rfl⟩) F hr (Nat.le_of_ble_eq_true rfl) (Nat.le_of_ble_eq_true rfl) dX8_clientAt_37 (⟨by omega, rfl, rfl⟩)
    · exact z_throwCW (names := ["java/lang/RuntimeException", "java/lang/Exception"]) F htab hl9 ⟨by decide +kernel, fitN⟩ q852 q25 hatI (List.mem_of_getElem? (i := 8) rfl) dX8_clientAt_15 dX8_clientAt_18 dX8_clientAt_19 dX8_clientAt_22 dX8_clientAt_25 ⟨Nat.le_of_ble_eq_true rfl, Nat.le_of_ble_eq_true rfl, Nat.le_of_ble_eq_true rfl, Nat.le_of_ble_eq_true rfl⟩ (Nat.le_of_ble_eq_true rfl) (Nat.le_of_ble_eq_true rfl) (⟨by first | exact ⟨rfl, by omega⟩, rfl⟩)
set_option maxRecDepth 100000 in
set_option maxHeartbeats 4000000 in
theorem mX8_entryAt (l : Launch) (G : GG) (N0 : Nat) (h : Hp) (hl9 : l.stackTraces = false) (g : Int → Nat) (ρ : Sg) (e9 : Int) (hI : CI G g ρ h) (hV : MC ρ) (r_e9 : -2147483648 ≤ e9 ∧ e9 < 2147483648) : CtX l G N0 yX8_entryAt (Cond.code yX8_entryAt cX8_entryAt 2 (some (FieldType.object "TimerLedger$Entry")) :: LW) ({ frames := 6, cells := 1, slots := 6, locals := 200 }) [vR (g 0), vI e9] h (fun r h' => (0 ≤ e9 ∧ e9 < ρ 8 0) ∧ r = some (vR (aE ρ e9)) ∧ h' = h) (fun E h' => ((E = "java/lang/IndexOutOfBoundsException" ∧ (¬ (0 ≤ e9 ∧ e9 < ρ 8 0)))) ∧ h' = h) := by
  refine ctX_of rfl rfl ?_
  intro p e s m args below meth c F hr htab
  have F : Fx p s m args meth c RX8 cX8_entryAt 2 G N0 (cA h s.heap.size) := F
  obtain ⟨v0, v1, v2, v8, v16, v24, v39, vC, vE, vJ, vK, vB, vO⟩ := id hV
  show Z _ _ _ _ _ _ _ _ _ _ _ _ _ _ _ _ _ _ _ [(0, vR (g 0)), (1, vI e9)] []
  refine z_iload_n F dX8_entryAt_0 rfl 1 rfl ?_
  refine z_if_lt (tgt := 18) F dX8_entryAt_1 (by decide) (by omega) (fun c1 => ?_) (fun c1 => ?_)
  · exact z_throwCW (names := ["java/lang/RuntimeException", "java/lang/Exception"]) F htab hl9 ⟨by decide +kernel, fitN⟩ q852 q25 hatI (List.mem_of_getElem? (i := 12) rfl) dX8_entryAt_18 dX8_entryAt_21 dX8_entryAt_22 dX8_entryAt_25 dX8_entryAt_28 ⟨Nat.le_of_ble_eq_true rfl, Nat.le_of_ble_eq_true rfl, Nat.le_of_ble_eq_true rfl, Nat.le_of_ble_eq_true rfl⟩ (Nat.le_of_ble_eq_true rfl) (Nat.le_of_ble_eq_true rfl) (⟨by first | exact ⟨rfl, by omega⟩, rfl⟩)
  · refine z_iload_n F dX8_entryAt_4 rfl 1 rfl ?_
    refine z_aload_n F dX8_entryAt_5 rfl 0 rfl ?_
    refine z_get (v := vR (g 1)) F (ci_0 hI) fX8_10 rfl dX8_entryAt_6 ?_
    refine z_get (v := vR (g 15)) F (ci_1 hI) fX8_170 rfl dX8_entryAt_9 ?_
    refine z_callV (As := []) (st := [vI e9]) F (mJx4a65c_size_8abf5 l G N0 h (g 15) ((ρ 40 3).toNat) 0 (ρ 32 3) (ρ 8 0) (fun _ => none) (ci_15 hI)) cvX8_90 (ci_15 hI) (fun r9 h9 => by cases h9; rfl) rfl rfl ⟨Nat.le_of_ble_eq_true rfl, Nat.le_of_ble_eq_true rfl⟩ rfl ⟨Nat.le_of_ble_eq_true rfl, Nat.le_of_ble_eq_true rfl⟩ dX8_entryAt_12 ?_
    rintro _ h9 ⟨rfl, hh9⟩
    rw [hh9]
    clear hh9 h9
    show Z _ _ _ _ _ _ _ _ _ _ _ _ _ _ _ _ _ _ _ _ [vI (ρ 8 0), vI e9]
    refine z_icmp_lt (tgt := 29) F dX8_entryAt_15 (by decide) (by omega) (by omega) (fun c15 => ?_) (fun c15 => ?_)
    · refine z_aload_n F dX8_entryAt_29 rfl 0 rfl ?_
      refine z_get (v := vR (g 1)) F (ci_0 hI) fX8_10 rfl dX8_entryAt_30 ?_
      refine z_get (v := vR (g 15)) F (ci_1 hI) fX8_170 rfl dX8_entryAt_33 ?_
      refine z_iload_n F dX8_entryAt_36 rfl 1 rfl ?_
      refine z_callV (As := [vI e9]) (st := []) F (cGet3 l G N0 h g ρ e9 hI (show 0 ≤ e9 ∧ e9 < ρ 8 0 from by omega)) cvX8_373 (ci_15 hI) (fun r9 h9 => by cases h9; rfl) rfl rfl ⟨Nat.le_of_ble_eq_true rfl, Nat.le_of_ble_eq_true rfl⟩ rfl ⟨Nat.le_of_ble_eq_true rfl, Nat.le_of_ble_eq_true rfl⟩ dX8_entryAt_37 ?_
      rintro _ h9 ⟨rfl, hh9⟩
      rw [hh9]
      clear hh9 h9
      show Z _ _ _ _ _ _ _ _ _ _ _ _ _ _ _ _ _ _ _ _ [vR (aE ρ e9)]
      refine z_cast F (ci_e hI (show 0 ≤ e9 ∧ e9 < ρ 8 0 ∧ e9 < 100 from by omega)) q237 (fun r9 h9 => by cases h9; rfl) dX8_entryAt_40 ?_
      exact z_aretX (Or.inl ⟨_, rfl⟩) F hr (Nat.le_of_ble_eq_true rfl) (Nat.le_of_ble_eq_true rfl) dX8_entryAt_43 (⟨by omega, rfl, rfl⟩)
    · exact z_throwCW (names := ["java/lang/RuntimeException", "java/lang/Exception"]) F htab hl9 ⟨by decide +kernel, fitN⟩ q852 q25 hatI (List.mem_of_getElem? (i := 12) rfl) dX8_entryAt_18 dX8_entryAt_21 dX8_entryAt_22 dX8_entryAt_25 dX8_entryAt_28 ⟨Nat.le_of_ble_eq_true rfl, Nat.le_of_ble_eq_true rfl, Nat.le_of_ble_eq_true rfl, Nat.le_of_ble_eq_true rfl⟩ (Nat.le_of_ble_eq_true rfl) (Nat.le_of_ble_eq_true rfl) (⟨by first | exact ⟨rfl, by omega⟩, rfl⟩)
set_option maxRecDepth 100000 in
set_option maxHeartbeats 4000000 in
theorem mX8_invoiceAt (l : Launch) (G : GG) (N0 : Nat) (h : Hp) (hl9 : l.stackTraces = false) (g : Int → Nat) (ρ : Sg) (i9 : Int) (hI : CI G g ρ h) (hV : MC ρ) (r_i9 : -2147483648 ≤ i9 ∧ i9 < 2147483648) : CtX l G N0 yX8_invoiceAt (Cond.code yX8_invoiceAt cX8_invoiceAt 2 (some (FieldType.object "TimerLedger$Invoice")) :: LW) ({ frames := 6, cells := 1, slots := 6, locals := 200 }) [vR (g 0), vI i9] h (fun r h' => (0 ≤ i9 ∧ i9 < ρ 16 0) ∧ r = some (vR (aI ρ i9)) ∧ h' = h) (fun E h' => ((E = "java/lang/IndexOutOfBoundsException" ∧ (¬ (0 ≤ i9 ∧ i9 < ρ 16 0)))) ∧ h' = h) := by
  refine ctX_of rfl rfl ?_
  intro p e s m args below meth c F hr htab
  have F : Fx p s m args meth c RX8 cX8_invoiceAt 2 G N0 (cA h s.heap.size) := F
  obtain ⟨v0, v1, v2, v8, v16, v24, v39, vC, vE, vJ, vK, vB, vO⟩ := id hV
  show Z _ _ _ _ _ _ _ _ _ _ _ _ _ _ _ _ _ _ _ [(0, vR (g 0)), (1, vI i9)] []
  refine z_iload_n F dX8_invoiceAt_0 rfl 1 rfl ?_
  refine z_if_lt (tgt := 15) F dX8_invoiceAt_1 (by decide) (by omega) (fun c1 => ?_) (fun c1 => ?_)
  · exact z_throwCW (names := ["java/lang/RuntimeException", "java/lang/Exception"]) F htab hl9 ⟨by decide +kernel, fitN⟩ q852 q25 hatI (List.mem_of_getElem? (i := 24) rfl) dX8_invoiceAt_15 dX8_invoiceAt_18 dX8_invoiceAt_19 dX8_invoiceAt_22 dX8_invoiceAt_25 ⟨Nat.le_of_ble_eq_true rfl, Nat.le_of_ble_eq_true rfl, Nat.le_of_ble_eq_true rfl, Nat.le_of_ble_eq_true rfl⟩ (Nat.le_of_ble_eq_true rfl) (Nat.le_of_ble_eq_true rfl) (⟨by first | exact ⟨rfl, by omega⟩, rfl⟩)
  · refine z_iload_n F dX8_invoiceAt_4 rfl 1 rfl ?_
    refine z_aload_n F dX8_invoiceAt_5 rfl 0 rfl ?_
    refine z_get (v := vR (g 9)) F (ci_0 hI) fX8_44 rfl dX8_invoiceAt_6 ?_
    refine z_callV (As := []) (st := [vI i9]) F (mJx4a65c_size_8abf5 l G N0 h (g 9) ((ρ 40 1).toNat) 0 (ρ 32 1) (ρ 16 0) (fun _ => none) (ci_9 hI)) cvX8_90 (ci_9 hI) (fun r9 h9 => by cases h9; rfl) rfl rfl ⟨Nat.le_of_ble_eq_true rfl, Nat.le_of_ble_eq_true rfl⟩ rfl ⟨Nat.le_of_ble_eq_true rfl, Nat.le_of_ble_eq_true rfl⟩ dX8_invoiceAt_9 ?_
    rintro _ h9 ⟨rfl, hh9⟩
    rw [hh9]
    clear hh9 h9
    show Z _ _ _ _ _ _ _ _ _ _ _ _ _ _ _ _ _ _ _ _ [vI (ρ 16 0), vI i9]
    refine z_icmp_lt (tgt := 26) F dX8_invoiceAt_12 (by decide) (by omega) (by omega) (fun c12 => ?_) (fun c12 => ?_)
    · refine z_aload_n F dX8_invoiceAt_26 rfl 0 rfl ?_
      refine z_get (v := vR (g 9)) F (ci_0 hI) fX8_44 rfl dX8_invoiceAt_27 ?_
      refine z_iload_n F dX8_invoiceAt_30 rfl 1 rfl ?_
      refine z_callV (As := [vI i9]) (st := []) F (cGet1 l G N0 h g ρ i9 hI (show 0 ≤ i9 ∧ i9 < ρ 16 0 from by omega)) cvX8_373 (ci_9 hI) (fun r9 h9 => by cases h9; rfl) rfl rfl ⟨Nat.le_of_ble_eq_true rfl, Nat.le_of_ble_eq_true rfl⟩ rfl ⟨Nat.le_of_ble_eq_true rfl, Nat.le_of_ble_eq_true rfl⟩ dX8_invoiceAt_31 ?_
      rintro _ h9 ⟨rfl, hh9⟩
      rw [hh9]
      clear hh9 h9
      show Z _ _ _ _ _ _ _ _ _ _ _ _ _ _ _ _ _ _ _ _ [vR (aI ρ i9)]
      refine z_cast F (ci_i hI (show 0 ≤ i9 ∧ i9 < ρ 39 0 ∧ i9 < 100 from by omega)) q700 (fun r9 h9 => by cases h9; rfl) dX8_invoiceAt_34 ?_
      exact z_aretX (Or.inl ⟨_, rfl⟩) F hr (Nat.le_of_ble_eq_true rfl) (Nat.le_of_ble_eq_true rfl) dX8_invoiceAt_37 (⟨by omega, rfl, rfl⟩)
    · exact z_throwCW (names := ["java/lang/RuntimeException", "java/lang/Exception"]) F htab hl9 ⟨by decide +kernel, fitN⟩ q852 q25 hatI (List.mem_of_getElem? (i := 24) rfl) dX8_invoiceAt_15 dX8_invoiceAt_18 dX8_invoiceAt_19 dX8_invoiceAt_22 dX8_invoiceAt_25 ⟨Nat.le_of_ble_eq_true rfl, Nat.le_of_ble_eq_true rfl, Nat.le_of_ble_eq_true rfl, Nat.le_of_ble_eq_true rfl⟩ (Nat.le_of_ble_eq_true rfl) (Nat.le_of_ble_eq_true rfl) (⟨by first | exact ⟨rfl, by omega⟩, rfl⟩)
set_option maxRecDepth 100000 in
set_option maxHeartbeats 4000000 in
theorem mX8_lineAt (l : Launch) (G : GG) (N0 : Nat) (h : Hp) (hl9 : l.stackTraces = false) (g : Int → Nat) (ρ : Sg) (i9 q9 : Int) (hI : CI G g ρ h) (hV : MC ρ) (r_i9 : -2147483648 ≤ i9 ∧ i9 < 2147483648) (r_q9 : -2147483648 ≤ q9 ∧ q9 < 2147483648) : CtX l G N0 yX8_lineAt (Cond.code yX8_lineAt cX8_lineAt 4 (some (FieldType.object "TimerLedger$Line")) :: LW) ({ frames := 7, cells := 2, slots := 12, locals := 240 }) [vR (g 0), vI i9, vI q9] h (fun r h' => ((0 ≤ i9 ∧ i9 < ρ 16 0) ∧ (0 ≤ q9 ∧ q9 < ρ 17 i9)) ∧ r = some (vR (aN ρ (40 * i9 + q9))) ∧ h' = h) (fun E h' => ((E = "java/lang/IndexOutOfBoundsException" ∧ (¬ ((0 ≤ i9 ∧ i9 < ρ 16 0) ∧ (0 ≤ q9 ∧ q9 < ρ 17 i9))))) ∧ h' = h) := by
  refine ctX_of rfl rfl ?_
  intro p e s m args below meth c F hr htab
  have F : Fx p s m args meth c RX8 cX8_lineAt 4 G N0 (cA h s.heap.size) := F
  obtain ⟨v0, v1, v2, v8, v16, v24, v39, vC, vE, vJ, vK, vB, vO⟩ := id hV
  have J9 := vJ i9
  show Z _ _ _ _ _ _ _ _ _ _ _ _ _ _ _ _ _ _ _ [(0, vR (g 0)), (1, vI i9), (2, vI q9)] []
  refine z_aload_n F dX8_lineAt_0 rfl 0 rfl ?_
  refine z_iload_n F dX8_lineAt_1 rfl 1 rfl ?_
  refine z_xcallV (As := [vI i9]) (st := []) F htab (mX8_invoiceAt l G N0 h hl9 g ρ i9 hI hV (by omega)) cvX8_282 (ci_0 hI) (fun r9 h9 => by cases h9; rfl) rfl rfl ⟨Nat.le_of_ble_eq_true rfl, Nat.le_of_ble_eq_true rfl⟩ rfl ⟨Nat.le_of_ble_eq_true rfl, Nat.le_of_ble_eq_true rfl⟩ dX8_lineAt_2 (fun E h9 hx => by obtain ⟨e1, rfl⟩ := hx; refine ⟨?_, rfl⟩; obtain ⟨rfl, e2⟩ := e1; first | exact ⟨rfl, by omega⟩) (Nat.le_of_ble_eq_true rfl) (Nat.le_of_ble_eq_true rfl) ?_
  rintro _ h9 ⟨f2_0, rfl, hh9⟩
  rw [hh9]
  clear hh9 h9
  show Z _ _ _ _ _ _ _ _ _ _ _ _ _ _ _ _ _ _ _ _ [vR (aI ρ i9)]
  refine z_get (v := vR (aL ρ i9)) F (ci_i hI (show 0 ≤ i9 ∧ i9 < ρ 39 0 ∧ i9 < 100 from by omega)) fX8_286 rfl dX8_lineAt_5 ?_
  refine z_astore_n (lv' := [(3, vR (aL ρ i9)), (0, vR (g 0)), (1, vI i9), (2, vI q9)]) F dX8_lineAt_8 rfl (by decide) rfl ?_
  refine z_iload_n F dX8_lineAt_9 rfl 3 rfl ?_
  refine z_if_lt (tgt := 21) F dX8_lineAt_10 (by decide) (by omega) (fun c10 => ?_) (fun c10 => ?_)
  · exact z_throwCW (names := ["java/lang/RuntimeException", "java/lang/Exception"]) F htab hl9 ⟨by decide +kernel, fitN⟩ q852 q25 hatI (List.mem_of_getElem? (i := 25) rfl) dX8_lineAt_21 dX8_lineAt_24 dX8_lineAt_25 dX8_lineAt_28 dX8_lineAt_31 ⟨Nat.le_of_ble_eq_true rfl, Nat.le_of_ble_eq_true rfl, Nat.le_of_ble_eq_true rfl, Nat.le_of_ble_eq_true rfl⟩ (Nat.le_of_ble_eq_true rfl) (Nat.le_of_ble_eq_true rfl) (⟨by first | exact ⟨rfl, by omega⟩, rfl⟩)
  · refine z_iload_n F dX8_lineAt_13 rfl 3 rfl ?_
    refine z_aload_n F dX8_lineAt_14 rfl 0 rfl ?_
    refine z_callV (As := []) (st := [vI q9]) F (mJx4a65c_size_8abf5 l G N0 h (aL ρ i9) ((ρ 49 i9).toNat) 0 (ρ 47 i9) (ρ 17 i9) (fun _ => none) (ci_l hI (show 0 ≤ i9 ∧ i9 < ρ 39 0 ∧ i9 < 100 from by omega))) cvX8_90 (ci_l hI (show 0 ≤ i9 ∧ i9 < ρ 39 0 ∧ i9 < 100 from by omega)) (fun r9 h9 => by cases h9; rfl) rfl rfl ⟨Nat.le_of_ble_eq_true rfl, Nat.le_of_ble_eq_true rfl⟩ rfl ⟨Nat.le_of_ble_eq_true rfl, Nat.le_of_ble_eq_true rfl⟩ dX8_lineAt_15 ?_
    rintro _ h9 ⟨rfl, hh9⟩
    rw [hh9]
    clear hh9 h9
    show Z _ _ _ _ _ _ _ _ _ _ _ _ _ _ _ _ _ _ _ _ [vI (ρ 17 i9), vI q9]
    refine z_icmp_lt (tgt := 32) F dX8_lineAt_18 (by decide) (by omega) (by omega) (fun c18 => ?_) (fun c18 => ?_)
    · refine z_aload_n F dX8_lineAt_32 rfl 0 rfl ?_
      refine z_iload_n F dX8_lineAt_33 rfl 3 rfl ?_
      refine z_callV (As := [vI q9]) (st := []) F (cGetL l G N0 h g ρ i9 q9 (show 0 ≤ i9 ∧ i9 < ρ 39 0 ∧ i9 < 100 from by omega) hI (show 0 ≤ q9 ∧ q9 < ρ 17 i9 from by omega)) cvX8_373 (ci_l hI (show 0 ≤ i9 ∧ i9 < ρ 39 0 ∧ i9 < 100 from by omega)) (fun r9 h9 => by cases h9; rfl) rfl rfl ⟨Nat.le_of_ble_eq_true rfl, Nat.le_of_ble_eq_true rfl⟩ rfl ⟨Nat.le_of_ble_eq_true rfl, Nat.le_of_ble_eq_true rfl⟩ dX8_lineAt_34 ?_
      rintro _ h9 ⟨rfl, hh9⟩
      rw [hh9]
      clear hh9 h9
      show Z _ _ _ _ _ _ _ _ _ _ _ _ _ _ _ _ _ _ _ _ [vR (aN ρ (40 * i9 + q9))]
      refine z_cast F (ci_n hI (show 0 ≤ i9 ∧ i9 < ρ 39 0 ∧ i9 < 8 from by omega) (show 0 ≤ q9 ∧ q9 < ρ 17 i9 ∧ q9 < 40 from by omega)) q1316 (fun r9 h9 => by cases h9; rfl) dX8_lineAt_37 ?_
      exact z_aretX (Or.inl ⟨_, rfl⟩) F hr (Nat.le_of_ble_eq_true rfl) (Nat.le_of_ble_eq_true rfl) dX8_lineAt_40 (⟨⟨by omega, by omega⟩, rfl, rfl⟩)
    · exact z_throwCW (names := ["java/lang/RuntimeException", "java/lang/Exception"]) F htab hl9 ⟨by decide +kernel, fitN⟩ q852 q25 hatI (List.mem_of_getElem? (i := 25) rfl) dX8_lineAt_21 dX8_lineAt_24 dX8_lineAt_25 dX8_lineAt_28 dX8_lineAt_31 ⟨Nat.le_of_ble_eq_true rfl, Nat.le_of_ble_eq_true rfl, Nat.le_of_ble_eq_true rfl, Nat.le_of_ble_eq_true rfl⟩ (Nat.le_of_ble_eq_true rfl) (Nat.le_of_ble_eq_true rfl) (⟨by first | exact ⟨rfl, by omega⟩, rfl⟩)
set_option maxRecDepth 100000 in
set_option maxHeartbeats 4000000 in
theorem mX8_requireRounding (l : Launch) (G : GG) (N0 : Nat) (h : Hp) (hl9 : l.stackTraces = false) (g : Int → Nat) (ρ : Sg) (u9 mo le : Int) (hI : CI G g ρ h) (hV : MC ρ) (r_u9 : -2147483648 ≤ u9 ∧ u9 < 2147483648) (r_mo : 0 ≤ mo ∧ mo < 65536) (r_le : 0 ≤ le ∧ le < 65536) : CtX l G N0 yX8_requireRounding (Cond.code yX8_requireRounding cX8_requireRounding 4 none :: LW) ({ frames := 6, cells := 1, slots := 6, locals := 200 }) [vR (g 0), vI u9, vI mo, vI le] h (fun r h' => ¬ (¬ ((1 ≤ u9 ∧ u9 ≤ 60) ∧ (mo = 117 ∨ mo = 100 ∨ mo = 110) ∧ (le = 101 ∨ le = 100 ∨ le = 99))) ∧ r = none ∧ h' = h) (fun E h' => ((E = "java/lang/IllegalArgumentException" ∧ (¬ ((1 ≤ u9 ∧ u9 ≤ 60) ∧ (mo = 117 ∨ mo = 100 ∨ mo = 110) ∧ (le = 101 ∨ le = 100 ∨ le = 99))))) ∧ h' = h) := by
  refine ctX_of rfl rfl ?_
  intro p e s m args below meth c F hr htab
  have F : Fx p s m args meth c RX8 cX8_requireRounding 4 G N0 (cA h s.heap.size) := F
  obtain ⟨v0, v1, v2, v8, v16, v24, v39, vC, vE, vJ, vK, vB, vO⟩ := id hV
  show Z _ _ _ _ _ _ _ _ _ _ _ _ _ _ _ _ _ _ _ [(0, vR (g 0)), (1, vI u9), (2, vI mo), (3, vI le)] []
  refine z_iload_n F dX8_requireRounding_0 rfl 1 rfl ?_
  refine z_iconst F dX8_requireRounding_1 ?_
  refine z_icmp_lt (tgt := 11) F dX8_requireRounding_2 (by decide) (by omega) (by decide) (fun c2 => ?_) (fun c2 => ?_)
  · exact z_throwCW (names := ["java/lang/RuntimeException", "java/lang/Exception"]) F htab hl9 ⟨by decide +kernel, fitN⟩ q734 q16 hatA (List.mem_of_getElem? (i := 3) rfl) dX8_requireRounding_11 dX8_requireRounding_14 dX8_requireRounding_15 dX8_requireRounding_18 dX8_requireRounding_21 ⟨Nat.le_of_ble_eq_true rfl, Nat.le_of_ble_eq_true rfl, Nat.le_of_ble_eq_true rfl, Nat.le_of_ble_eq_true rfl⟩ (Nat.le_of_ble_eq_true rfl) (Nat.le_of_ble_eq_true rfl) (⟨by first | exact ⟨rfl, by omega⟩, rfl⟩)
  · refine z_iload_n F dX8_requireRounding_5 rfl 1 rfl ?_
    refine z_bipush F dX8_requireRounding_6 (by decide) ?_
    refine z_icmp_le (tgt := 22) F dX8_requireRounding_8 (by decide) (by omega) (by decide) (fun c8 => ?_) (fun c8 => ?_)
    · refine z_iload_n F dX8_requireRounding_22 rfl 2 rfl ?_
      refine z_bipush F dX8_requireRounding_23 (by decide) ?_
      refine z_icmp_eq (tgt := 51) F dX8_requireRounding_25 (by decide) (by omega) (by decide) (fun c25 => ?_) (fun c25 => ?_)
      · refine z_iload_n F dX8_requireRounding_51 rfl 3 rfl ?_
        refine z_bipush F dX8_requireRounding_52 (by decide) ?_
        refine z_icmp_eq (tgt := 80) F dX8_requireRounding_54 (by decide) (by omega) (by decide) (fun c54 => ?_) (fun c54 => ?_)
        · exact z_vretX F hr (Nat.le_of_ble_eq_true rfl) (Nat.le_of_ble_eq_true rfl) dX8_requireRounding_80 (⟨by omega, rfl, rfl⟩)
        · refine z_iload_n F dX8_requireRounding_57 rfl 3 rfl ?_
          refine z_bipush F dX8_requireRounding_58 (by decide) ?_
          refine z_icmp_eq (tgt := 80) F dX8_requireRounding_60 (by decide) (by omega) (by decide) (fun c60 => ?_) (fun c60 => ?_)
          · exact z_vretX F hr (Nat.le_of_ble_eq_true rfl) (Nat.le_of_ble_eq_true rfl) dX8_requireRounding_80 (⟨by omega, rfl, rfl⟩)
          · refine z_iload_n F dX8_requireRounding_63 rfl 3 rfl ?_
            refine z_bipush F dX8_requireRounding_64 (by decide) ?_
            refine z_icmp_eq (tgt := 80) F dX8_requireRounding_66 (by decide) (by omega) (by decide) (fun c66 => ?_) (fun c66 => ?_)
            · exact z_vretX F hr (Nat.le_of_ble_eq_true rfl) (Nat.le_of_ble_eq_true rfl) dX8_requireRounding_80 (⟨by omega, rfl, rfl⟩)
            · exact z_throwCW (names := ["java/lang/RuntimeException", "java/lang/Exception"]) F htab hl9 ⟨by decide +kernel, fitN⟩ q734 q16 hatA (List.mem_of_getElem? (i := 5) rfl) dX8_requireRounding_69 dX8_requireRounding_72 dX8_requireRounding_73 dX8_requireRounding_76 dX8_requireRounding_79 ⟨Nat.le_of_ble_eq_true rfl, Nat.le_of_ble_eq_true rfl, Nat.le_of_ble_eq_true rfl, Nat.le_of_ble_eq_true rfl⟩ (Nat.le_of_ble_eq_true rfl) (Nat.le_of_ble_eq_true rfl) (⟨by first | exact ⟨rfl, by omega⟩, rfl⟩)
      · refine z_iload_n F dX8_requireRounding_28 rfl 2 rfl ?_
        refine z_bipush F dX8_requireRounding_29 (by decide) ?_
        refine z_icmp_eq (tgt := 51) F dX8_requireRounding_31 (by decide) (by omega) (by decide) (fun c31 => ?_) (fun c31 => ?_)
        · refine z_iload_n F dX8_requireRounding_51 rfl 3 rfl ?_
          refine z_bipush F dX8_requireRounding_52 (by decide) ?_
          refine z_icmp_eq (tgt := 80) F dX8_requireRounding_54 (by decide) (by omega) (by decide) (fun c54 => ?_) (fun c54 => ?_)
          · exact z_vretX F hr (Nat.le_of_ble_eq_true rfl) (Nat.le_of_ble_eq_true rfl) dX8_requireRounding_80 (⟨by omega, rfl, rfl⟩)
          · refine z_iload_n F dX8_requireRounding_57 rfl 3 rfl ?_
            refine z_bipush F dX8_requireRounding_58 (by decide) ?_
            refine z_icmp_eq (tgt := 80) F dX8_requireRounding_60 (by decide) (by omega) (by decide) (fun c60 => ?_) (fun c60 => ?_)
            · exact z_vretX F hr (Nat.le_of_ble_eq_true rfl) (Nat.le_of_ble_eq_true rfl) dX8_requireRounding_80 (⟨by omega, rfl, rfl⟩)
            · refine z_iload_n F dX8_requireRounding_63 rfl 3 rfl ?_
              refine z_bipush F dX8_requireRounding_64 (by decide) ?_
              refine z_icmp_eq (tgt := 80) F dX8_requireRounding_66 (by decide) (by omega) (by decide) (fun c66 => ?_) (fun c66 => ?_)
              · exact z_vretX F hr (Nat.le_of_ble_eq_true rfl) (Nat.le_of_ble_eq_true rfl) dX8_requireRounding_80 (⟨by omega, rfl, rfl⟩)
              · exact z_throwCW (names := ["java/lang/RuntimeException", "java/lang/Exception"]) F htab hl9 ⟨by decide +kernel, fitN⟩ q734 q16 hatA (List.mem_of_getElem? (i := 5) rfl) dX8_requireRounding_69 dX8_requireRounding_72 dX8_requireRounding_73 dX8_requireRounding_76 dX8_requireRounding_79 ⟨Nat.le_of_ble_eq_true rfl, Nat.le_of_ble_eq_true rfl, Nat.le_of_ble_eq_true rfl, Nat.le_of_ble_eq_true rfl⟩ (Nat.le_of_ble_eq_true rfl) (Nat.le_of_ble_eq_true rfl) (⟨by first | exact ⟨rfl, by omega⟩, rfl⟩)
        · refine z_iload_n F dX8_requireRounding_34 rfl 2 rfl ?_
          refine z_bipush F dX8_requireRounding_35 (by decide) ?_
          refine z_icmp_eq (tgt := 51) F dX8_requireRounding_37 (by decide) (by omega) (by decide) (fun c37 => ?_) (fun c37 => ?_)
          · refine z_iload_n F dX8_requireRounding_51 rfl 3 rfl ?_
            refine z_bipush F dX8_requireRounding_52 (by decide) ?_
            refine z_icmp_eq (tgt := 80) F dX8_requireRounding_54 (by decide) (by omega) (by decide) (fun c54 => ?_) (fun c54 => ?_)
            · exact z_vretX F hr (Nat.le_of_ble_eq_true rfl) (Nat.le_of_ble_eq_true rfl) dX8_requireRounding_80 (⟨by omega, rfl, rfl⟩)
            · refine z_iload_n F dX8_requireRounding_57 rfl 3 rfl ?_
              refine z_bipush F dX8_requireRounding_58 (by decide) ?_
              refine z_icmp_eq (tgt := 80) F dX8_requireRounding_60 (by decide) (by omega) (by decide) (fun c60 => ?_) (fun c60 => ?_)
              · exact z_vretX F hr (Nat.le_of_ble_eq_true rfl) (Nat.le_of_ble_eq_true rfl) dX8_requireRounding_80 (⟨by omega, rfl, rfl⟩)
              · refine z_iload_n F dX8_requireRounding_63 rfl 3 rfl ?_
                refine z_bipush F dX8_requireRounding_64 (by decide) ?_
                refine z_icmp_eq (tgt := 80) F dX8_requireRounding_66 (by decide) (by omega) (by decide) (fun c66 => ?_) (fun c66 => ?_)
                · exact z_vretX F hr (Nat.le_of_ble_eq_true rfl) (Nat.le_of_ble_eq_true rfl) dX8_requireRounding_80 (⟨by omega, rfl, rfl⟩)
                · exact z_throwCW (names := ["java/lang/RuntimeException", "java/lang/Exception"]) F htab hl9 ⟨by decide +kernel, fitN⟩ q734 q16 hatA (List.mem_of_getElem? (i := 5) rfl) dX8_requireRounding_69 dX8_requireRounding_72 dX8_requireRounding_73 dX8_requireRounding_76 dX8_requireRounding_79 ⟨Nat.le_of_ble_eq_true rfl, Nat.le_of_ble_eq_true rfl, Nat.le_of_ble_eq_true rfl, Nat.le_of_ble_eq_true rfl⟩ (Nat.le_of_ble_eq_true rfl) (Nat.le_of_ble_eq_true rfl) (⟨by first | exact ⟨rfl, by omega⟩, rfl⟩)
          · exact z_throwCW (names := ["java/lang/RuntimeException", "java/lang/Exception"]) F htab hl9 ⟨by decide +kernel, fitN⟩ q734 q16 hatA (List.mem_of_getElem? (i := 4) rfl) dX8_requireRounding_40 dX8_requireRounding_43 dX8_requireRounding_44 dX8_requireRounding_47 dX8_requireRounding_50 ⟨Nat.le_of_ble_eq_true rfl, Nat.le_of_ble_eq_true rfl, Nat.le_of_ble_eq_true rfl, Nat.le_of_ble_eq_true rfl⟩ (Nat.le_of_ble_eq_true rfl) (Nat.le_of_ble_eq_true rfl) (⟨by first | exact ⟨rfl, by omega⟩, rfl⟩)
    · exact z_throwCW (names := ["java/lang/RuntimeException", "java/lang/Exception"]) F htab hl9 ⟨by decide +kernel, fitN⟩ q734 q16 hatA (List.mem_of_getElem? (i := 3) rfl) dX8_requireRounding_11 dX8_requireRounding_14 dX8_requireRounding_15 dX8_requireRounding_18 dX8_requireRounding_21 ⟨Nat.le_of_ble_eq_true rfl, Nat.le_of_ble_eq_true rfl, Nat.le_of_ble_eq_true rfl, Nat.le_of_ble_eq_true rfl⟩ (Nat.le_of_ble_eq_true rfl) (Nat.le_of_ble_eq_true rfl) (⟨by first | exact ⟨rfl, by omega⟩, rfl⟩)
set_option maxRecDepth 100000 in
set_option maxHeartbeats 4000000 in
theorem mX8_requireRate (l : Launch) (G : GG) (N0 : Nat) (h : Hp) (hl9 : l.stackTraces = false) (g : Int → Nat) (ρ : Sg) (ra : Int) (hI : CI G g ρ h) (hV : MC ρ) (r_ra : -2147483648 ≤ ra ∧ ra < 2147483648) : CtX l G N0 yX8_requireRate (Cond.code yX8_requireRate cX8_requireRate 2 none :: LW) ({ frames := 6, cells := 1, slots := 6, locals := 200 }) [vR (g 0), vI ra] h (fun r h' => ¬ (¬ (0 ≤ ra ∧ ra ≤ 50000)) ∧ r = none ∧ h' = h) (fun E h' => ((E = "java/lang/IllegalArgumentException" ∧ (¬ (0 ≤ ra ∧ ra ≤ 50000)))) ∧ h' = h) := by
  refine ctX_of rfl rfl ?_
  intro p e s m args below meth c F hr htab
  have F : Fx p s m args meth c RX8 cX8_requireRate 2 G N0 (cA h s.heap.size) := F
  obtain ⟨v0, v1, v2, v8, v16, v24, v39, vC, vE, vJ, vK, vB, vO⟩ := id hV
  show Z _ _ _ _ _ _ _ _ _ _ _ _ _ _ _ _ _ _ _ [(0, vR (g 0)), (1, vI ra)] []
  refine z_iload_n F dX8_requireRate_0 rfl 1 rfl ?_
  refine z_if_lt (tgt := 11) F dX8_requireRate_1 (by decide) (by omega) (fun c1 => ?_) (fun c1 => ?_)
  · exact z_throwCW (names := ["java/lang/RuntimeException", "java/lang/Exception"]) F htab hl9 ⟨by decide +kernel, fitN⟩ q734 q16 hatA (List.mem_of_getElem? (i := 6) rfl) dX8_requireRate_11 dX8_requireRate_14 dX8_requireRate_15 dX8_requireRate_18 dX8_requireRate_21 ⟨Nat.le_of_ble_eq_true rfl, Nat.le_of_ble_eq_true rfl, Nat.le_of_ble_eq_true rfl, Nat.le_of_ble_eq_true rfl⟩ (Nat.le_of_ble_eq_true rfl) (Nat.le_of_ble_eq_true rfl) (⟨by first | exact ⟨rfl, by omega⟩, rfl⟩)
  · refine z_iload_n F dX8_requireRate_4 rfl 1 rfl ?_
    refine z_ldcw F q783 dX8_requireRate_5 ?_
    refine z_icmp_le (tgt := 22) F dX8_requireRate_8 (by decide) (by omega) (by decide) (fun c8 => ?_) (fun c8 => ?_)
    · exact z_vretX F hr (Nat.le_of_ble_eq_true rfl) (Nat.le_of_ble_eq_true rfl) dX8_requireRate_22 (⟨by omega, rfl, rfl⟩)
    · exact z_throwCW (names := ["java/lang/RuntimeException", "java/lang/Exception"]) F htab hl9 ⟨by decide +kernel, fitN⟩ q734 q16 hatA (List.mem_of_getElem? (i := 6) rfl) dX8_requireRate_11 dX8_requireRate_14 dX8_requireRate_15 dX8_requireRate_18 dX8_requireRate_21 ⟨Nat.le_of_ble_eq_true rfl, Nat.le_of_ble_eq_true rfl, Nat.le_of_ble_eq_true rfl, Nat.le_of_ble_eq_true rfl⟩ (Nat.le_of_ble_eq_true rfl) (Nat.le_of_ble_eq_true rfl) (⟨by first | exact ⟨rfl, by omega⟩, rfl⟩)
set_option maxRecDepth 100000 in
set_option maxHeartbeats 4000000 in
theorem mX8_requireDay (l : Launch) (G : GG) (N0 : Nat) (h : Hp) (hl9 : l.stackTraces = false) (g : Int → Nat) (ρ : Sg) (d9 : Int) (hI : CI G g ρ h) (hV : MC ρ) (r_d9 : -2147483648 ≤ d9 ∧ d9 < 2147483648) : CtX l G N0 yX8_requireDay (Cond.code yX8_requireDay cX8_requireDay 2 none :: LW) ({ frames := 6, cells := 1, slots := 6, locals := 200 }) [vR (g 0), vI d9] h (fun r h' => ¬ (¬ (0 ≤ d9 ∧ d9 ≤ 4)) ∧ r = none ∧ h' = h) (fun E h' => ((E = "java/lang/IllegalArgumentException" ∧ (¬ (0 ≤ d9 ∧ d9 ≤ 4)))) ∧ h' = h) := by
  refine ctX_of rfl rfl ?_
  intro p e s m args below meth c F hr htab
  have F : Fx p s m args meth c RX8 cX8_requireDay 2 G N0 (cA h s.heap.size) := F
  obtain ⟨v0, v1, v2, v8, v16, v24, v39, vC, vE, vJ, vK, vB, vO⟩ := id hV
  show Z _ _ _ _ _ _ _ _ _ _ _ _ _ _ _ _ _ _ _ [(0, vR (g 0)), (1, vI d9)] []
  refine z_iload_n F dX8_requireDay_0 rfl 1 rfl ?_
  refine z_if_lt (tgt := 9) F dX8_requireDay_1 (by decide) (by omega) (fun c1 => ?_) (fun c1 => ?_)
  · exact z_throwCW (names := ["java/lang/RuntimeException", "java/lang/Exception"]) F htab hl9 ⟨by decide +kernel, fitN⟩ q734 q16 hatA (List.mem_of_getElem? (i := 21) rfl) dX8_requireDay_9 dX8_requireDay_12 dX8_requireDay_13 dX8_requireDay_16 dX8_requireDay_19 ⟨Nat.le_of_ble_eq_true rfl, Nat.le_of_ble_eq_true rfl, Nat.le_of_ble_eq_true rfl, Nat.le_of_ble_eq_true rfl⟩ (Nat.le_of_ble_eq_true rfl) (Nat.le_of_ble_eq_true rfl) (⟨by first | exact ⟨rfl, by omega⟩, rfl⟩)
  · refine z_iload_n F dX8_requireDay_4 rfl 1 rfl ?_
    refine z_iconst F dX8_requireDay_5 ?_
    refine z_icmp_lt (tgt := 20) F dX8_requireDay_6 (by decide) (by omega) (by decide) (fun c6 => ?_) (fun c6 => ?_)
    · exact z_vretX F hr (Nat.le_of_ble_eq_true rfl) (Nat.le_of_ble_eq_true rfl) dX8_requireDay_20 (⟨by omega, rfl, rfl⟩)
    · exact z_throwCW (names := ["java/lang/RuntimeException", "java/lang/Exception"]) F htab hl9 ⟨by decide +kernel, fitN⟩ q734 q16 hatA (List.mem_of_getElem? (i := 21) rfl) dX8_requireDay_9 dX8_requireDay_12 dX8_requireDay_13 dX8_requireDay_16 dX8_requireDay_19 ⟨Nat.le_of_ble_eq_true rfl, Nat.le_of_ble_eq_true rfl, Nat.le_of_ble_eq_true rfl, Nat.le_of_ble_eq_true rfl⟩ (Nat.le_of_ble_eq_true rfl) (Nat.le_of_ble_eq_true rfl) (⟨by first | exact ⟨rfl, by omega⟩, rfl⟩)
set_option maxRecDepth 100000 in
set_option maxHeartbeats 4000000 in
theorem mX8_requireRoomForEntry (l : Launch) (G : GG) (N0 : Nat) (h : Hp) (hl9 : l.stackTraces = false) (g : Int → Nat) (ρ : Sg) (hI : CI G g ρ h) (hV : MC ρ) : CtX l G N0 yX8_requireRoomForEntry (Cond.code yX8_requireRoomForEntry cX8_requireRoomForEntry 1 none :: LW) ({ frames := 6, cells := 1, slots := 6, locals := 200 }) [vR (g 0)] h (fun r h' => ¬ (ρ 8 0 = 24) ∧ r = none ∧ h' = h) (fun E h' => ((E = "java/lang/IllegalStateException" ∧ (ρ 8 0 = 24))) ∧ h' = h) := by
  refine ctX_of rfl rfl ?_
  intro p e s m args below meth c F hr htab
  have F : Fx p s m args meth c RX8 cX8_requireRoomForEntry 1 G N0 (cA h s.heap.size) := F
  obtain ⟨v0, v1, v2, v8, v16, v24, v39, vC, vE, vJ, vK, vB, vO⟩ := id hV
  show Z _ _ _ _ _ _ _ _ _ _ _ _ _ _ _ _ _ _ _ [(0, vR (g 0))] []
  refine z_aload_n F dX8_requireRoomForEntry_0 rfl 0 rfl ?_
  refine z_get (v := vR (g 1)) F (ci_0 hI) fX8_10 rfl dX8_requireRoomForEntry_1 ?_
  refine z_get (v := vR (g 15)) F (ci_1 hI) fX8_170 rfl dX8_requireRoomForEntry_4 ?_
  refine z_callV (As := []) (st := []) F (mJx4a65c_size_8abf5 l G N0 h (g 15) ((ρ 40 3).toNat) 0 (ρ 32 3) (ρ 8 0) (fun _ => none) (ci_15 hI)) cvX8_90 (ci_15 hI) (fun r9 h9 => by cases h9; rfl) rfl rfl ⟨Nat.le_of_ble_eq_true rfl, Nat.le_of_ble_eq_true rfl⟩ rfl ⟨Nat.le_of_ble_eq_true rfl, Nat.le_of_ble_eq_true rfl⟩ dX8_requireRoomForEntry_7 ?_
  rintro _ h9 ⟨rfl, hh9⟩
  rw [hh9]
  clear hh9 h9
  show Z _ _ _ _ _ _ _ _ _ _ _ _ _ _ _ _ _ _ _ _ [vI (ρ 8 0)]
  refine z_bipush F dX8_requireRoomForEntry_10 (by decide) ?_
  refine z_icmp_lt (tgt := 26) F dX8_requireRoomForEntry_12 (by decide) (by omega) (by decide) (fun c12 => ?_) (fun c12 => ?_)
  · exact z_vretX F hr (Nat.le_of_ble_eq_true rfl) (Nat.le_of_ble_eq_true rfl) dX8_requireRoomForEntry_26 (⟨by omega, rfl, rfl⟩)
  · exact z_throwCW (names := ["java/lang/RuntimeException", "java/lang/Exception"]) F htab hl9 ⟨by decide +kernel, fitN⟩ q737 q17 hatS (List.mem_of_getElem? (i := 10) rfl) dX8_requireRoomForEntry_15 dX8_requireRoomForEntry_18 dX8_requireRoomForEntry_19 dX8_requireRoomForEntry_22 dX8_requireRoomForEntry_25 ⟨Nat.le_of_ble_eq_true rfl, Nat.le_of_ble_eq_true rfl, Nat.le_of_ble_eq_true rfl, Nat.le_of_ble_eq_true rfl⟩ (Nat.le_of_ble_eq_true rfl) (Nat.le_of_ble_eq_true rfl) (⟨by first | exact ⟨rfl, by omega⟩, rfl⟩)
set_option maxRecDepth 100000 in
set_option maxHeartbeats 4000000 in
theorem mX8_requireOpen (l : Launch) (G : GG) (N0 : Nat) (h : Hp) (hl9 : l.stackTraces = false) (g : Int → Nat) (ρ : Sg) (e9 : Int) (hI : CI G g ρ h) (hV : MC ρ) (he : 0 ≤ e9 ∧ e9 < ρ 8 0) : CtX l G N0 yX8_requireOpen (Cond.code yX8_requireOpen cX8_requireOpen 2 none :: LW) ({ frames := 6, cells := 1, slots := 6, locals := 200 }) [vR (g 0), vR (aE ρ e9)] h (fun r h' => (ρ 12 e9 = 114 ∨ ρ 12 e9 = 101) ∧ r = none ∧ h' = h) (fun E h' => ((E = "java/lang/IllegalStateException" ∧ (¬ (ρ 12 e9 = 114 ∨ ρ 12 e9 = 101)))) ∧ h' = h) := by
  refine ctX_of rfl rfl ?_
  intro p e s m args below meth c F hr htab
  have F : Fx p s m args meth c RX8 cX8_requireOpen 2 G N0 (cA h s.heap.size) := F
  obtain ⟨v0, v1, v2, v8, v16, v24, v39, vC, vE, vJ, vK, vB, vO⟩ := id hV
  have E9 := vE e9 he.1 he.2
  show Z _ _ _ _ _ _ _ _ _ _ _ _ _ _ _ _ _ _ _ [(0, vR (g 0)), (1, vR (aE ρ e9))] []
  refine z_aload_n F dX8_requireOpen_0 rfl 1 rfl ?_
  refine z_callV (As := []) (st := []) F (mX2_isOpen l G N0 h (aE ρ e9) e9 (aC ρ (ρ 9 e9)) (ρ 10 e9) (ρ 11 e9) (ρ 12 e9) (ρ 13 e9) (ci_e hI (show 0 ≤ e9 ∧ e9 < ρ 8 0 ∧ e9 < 100 from by omega)) (by omega)) cvX8_394 (ci_e hI (show 0 ≤ e9 ∧ e9 < ρ 8 0 ∧ e9 < 100 from by omega)) (fun r9 h9 => by cases h9; rfl) rfl rfl ⟨Nat.le_of_ble_eq_true rfl, Nat.le_of_ble_eq_true rfl⟩ rfl ⟨Nat.le_of_ble_eq_true rfl, Nat.le_of_ble_eq_true rfl⟩ dX8_requireOpen_1 ?_
  rintro _ h9 ⟨rfl, hh9⟩
  rw [hh9]
  clear hh9 h9
  generalize ex1 : (if ρ 12 e9 = 114 ∨ ρ 12 e9 = 101 then (1 : Int) else 0) = x1
  show Z _ _ _ _ _ _ _ _ _ _ _ _ _ _ _ _ _ _ _ _ [vI x1]
  refine z_if_ne (tgt := 18) F dX8_requireOpen_4 (by decide) (by omega) (fun c4 => ?_) (fun c4 => ?_)
  · exact z_vretX F hr (Nat.le_of_ble_eq_true rfl) (Nat.le_of_ble_eq_true rfl) dX8_requireOpen_18 (⟨by omega, rfl, rfl⟩)
  · exact z_throwCW (names := ["java/lang/RuntimeException", "java/lang/Exception"]) F htab hl9 ⟨by decide +kernel, fitN⟩ q737 q17 hatS (List.mem_of_getElem? (i := 15) rfl) dX8_requireOpen_7 dX8_requireOpen_10 dX8_requireOpen_11 dX8_requireOpen_14 dX8_requireOpen_17 ⟨Nat.le_of_ble_eq_true rfl, Nat.le_of_ble_eq_true rfl, Nat.le_of_ble_eq_true rfl, Nat.le_of_ble_eq_true rfl⟩ (Nat.le_of_ble_eq_true rfl) (Nat.le_of_ble_eq_true rfl) (⟨by first | exact ⟨rfl, by omega⟩, rfl⟩)
theorem move_ce {G : GG} {g : Int → Nat} {ρ : Sg} {h : Hp} {m : Int} {f : Int → Int} (H : CI G g (sw (su ρ 0 0 m) 11 f) h) (hf : ∀ e, 0 ≤ e → e < ρ 8 0 → f e = if ρ 12 e = 114 then m else ρ 11 e) : CI G g (sw (su ρ 0 0 m) 11 (fun e => if ρ 12 e = 114 then m else ρ 11 e)) h := by
  refine H.ce (fun r => CE_ext (fun _ => rfl) (fun _ _ => rfl) (fun q1 q2 => ?_) (fun _ _ => rfl) (fun _ _ => rfl) (fun _ _ => rfl) (fun _ _ => rfl) (fun _ => rfl)) (fun _ => rfl) H.2.2
  show (if r - 200 < ρ 8 0 then some (eO 7 [vI (r - 200), vR (aC ρ (ρ 9 (r - 200))), vI (ρ 10 (r - 200)), vI (if ρ 12 (r - 200) = 114 then m else ρ 11 (r - 200)), vI (ρ 12 (r - 200)), vI (ρ 13 (r - 200))]) else none) = (if r - 200 < ρ 8 0 then some (eO 7 [vI (r - 200), vR (aC ρ (ρ 9 (r - 200))), vI (ρ 10 (r - 200)), vI (f (r - 200)), vI (ρ 12 (r - 200)), vI (ρ 13 (r - 200))]) else none)
  by_cases q : r - 200 < ρ 8 0
  · rw [if_pos q, if_pos q, hf (r - 200) (by omega) q]
  · rw [if_neg q, if_neg q]
set_option maxRecDepth 100000 in
set_option maxHeartbeats 4000000 in
theorem mX7_moveTo (l : Launch) (G : GG) (N0 : Nat) (h : Hp) (g : Int → Nat) (ρ : Sg) (m9 : Int) (hI : CI G g ρ h) (hV : MC ρ) (r_m9 : -2147483648 ≤ m9 ∧ m9 < 2147483648) : Ct l G N0 yX7_moveTo (Cond.code yX7_moveTo cX7_moveTo 4 none :: LW) ({ frames := 3, cells := 0, slots := 0, locals := 140 }) [vR (g 1), vI m9] h (fun r h' => r = none ∧ CI G g (sw (su ρ 0 0 m9) 11 (fun e => if ρ 12 e = 114 then m9 else ρ 11 e)) h') := by
  refine ct_of rfl rfl ?_
  intro p e s m args below meth c F hr hnm
  have F : Fx p s m args meth c RX7 cX7_moveTo 4 G N0 (cA h s.heap.size) := F
  obtain ⟨v0, v1, v2, v8, v16, v24, v39, vC, vE, vJ, vK, vB, vO⟩ := id hV
  obtain ⟨Q, hQ⟩ : ∃ z, z = MQ below (cQc G N0 h s.heap.size (fun r h' => r = none ∧ CI G g (sw (su ρ 0 0 m9) 11 (fun e => if ρ 12 e = 114 then m9 else ρ 11 e)) h')) args s 0 0 (cA h s.heap.size) := ⟨_, rfl⟩
  rw [← hQ]
  show Z _ _ _ _ _ _ _ _ _ _ _ _ _ _ _ _ _ _ _ [(0, vR (g 1)), (1, vI m9)] []
  refine z_aload_n F dX7_moveTo_0 rfl 0 rfl ?_
  refine z_iload_n F dX7_moveTo_1 rfl 1 rfl ?_
  obtain ⟨h1, eh1, Ih1⟩ : ∃ z : Hp, hu h (g 1) (eO 12 [vR (g 15), vI m9, vI (ρ 1 0)]) = z ∧ CI G g (su ρ 0 0 m9) z := ⟨_, rfl, cPf0 hI m9⟩
  refine z_put (fs := [vR (g 15), vI (ρ 0 0), vI (ρ 1 0)]) (fs' := [vR (g 15), vI m9, vI (ρ 1 0)]) (h' := h1) F (ci_1 hI) fX7_22 ftX7_1 (nf_i _) (Nat.le_of_ble_eq_true rfl) rfl dX7_moveTo_2 eh1 ?_
  refine z_iconst F dX7_moveTo_5 ?_
  refine z_istore_n (lv' := [(2, vI 0), (0, vR (g 1)), (1, vI m9)]) F dX7_moveTo_6 rfl (by decide) rfl ?_
  have L7 : ∀ (fuel : Nat) (i9 : Int) (h8 : Hp) (f9 : Int → Int), (CI G g (sw (su ρ 0 0 m9) 11 f9) h8) → (0 ≤ i9 ∧ i9 ≤ ρ 8 0) → (∀ e, f9 e = if (0 ≤ e ∧ e < i9) ∧ ρ 12 e = 114 then m9 else ρ 11 e) → ρ 8 0 - i9 < (fuel : Int) → Z p l e ({ frames := 3, cells := 0, slots := 0, locals := 140 }) s m args below meth c 4 G N0 (cA h s.heap.size) Q h8 0 0 7 [(2, vI i9), (0, vR (g 1)), (1, vI m9)] [] := by
    intro fuel
    induction fuel with
    | zero => intro i9 h8  f9  hI8 ha hf hm; exact absurd hm (by omega)
    | succ fuel ih7 =>
      intro i9 h8  f9  hI8 ha hf hm
      have E_i9 := fun q9 => vE i9 (by omega) q9
      refine z_iload_n F dX7_moveTo_7 rfl 0 rfl ?_
      refine z_aload_n F dX7_moveTo_8 rfl 1 rfl ?_
      refine z_get (v := vR (g 15)) F (ci_1 (ρ := (sw (su ρ 0 0 m9) 11 f9)) hI8) fX7_12 rfl dX7_moveTo_9 ?_
      refine z_callV (As := []) (st := [vI i9]) F (mJx4a65c_size_8abf5 l G N0 h8 (g 15) ((ρ 40 3).toNat) 0 (ρ 32 3) (ρ 8 0) (fun _ => none) (ci_15 (ρ := (sw (su ρ 0 0 m9) 11 f9)) hI8)) cvX7_26 (ci_15 (ρ := (sw (su ρ 0 0 m9) 11 f9)) hI8) (fun r9 h9 => by cases h9; rfl) rfl rfl ⟨Nat.le_of_ble_eq_true rfl, Nat.le_of_ble_eq_true rfl⟩ rfl ⟨Nat.le_of_ble_eq_true rfl, Nat.le_of_ble_eq_true rfl⟩ dX7_moveTo_12 ?_
      rintro _ h9 ⟨rfl, hh9⟩
      rw [hh9]
      clear hh9 h9
      show Z _ _ _ _ _ _ _ _ _ _ _ _ _ _ _ _ _ _ _ _ [vI (ρ 8 0), vI i9]
      refine z_icmp_ge (tgt := 50) F dX7_moveTo_15 (by decide) (by omega) (by omega) (fun c15 => ?_) (fun c15 => ?_)
      · rw [hQ]
        exact z_vret F hr (Nat.le_of_ble_eq_true rfl) (Nat.le_of_ble_eq_true rfl) dX7_moveTo_50 (⟨rfl, move_ce hI8 (fun e e0 e1 => by rw [hf]; by_cases q : ρ 12 e = 114; exact (if_pos (by omega)).trans (if_pos q).symm; exact (if_neg (by omega)).trans (if_neg q).symm)⟩)
      · refine z_aload_n F dX7_moveTo_18 rfl 1 rfl ?_
        refine z_get (v := vR (g 15)) F (ci_1 (ρ := (sw (su ρ 0 0 m9) 11 f9)) hI8) fX7_12 rfl dX7_moveTo_19 ?_
        refine z_iload_n F dX7_moveTo_22 rfl 0 rfl ?_
        refine z_callV (As := [vI i9]) (st := []) F (cGet3 l G N0 h8 g (sw (su ρ 0 0 m9) 11 f9) i9 hI8 (show 0 ≤ i9 ∧ i9 < ρ 8 0 from by omega)) cvX7_30 (ci_15 (ρ := (sw (su ρ 0 0 m9) 11 f9)) hI8) (fun r9 h9 => by cases h9; rfl) rfl rfl ⟨Nat.le_of_ble_eq_true rfl, Nat.le_of_ble_eq_true rfl⟩ rfl ⟨Nat.le_of_ble_eq_true rfl, Nat.le_of_ble_eq_true rfl⟩ dX7_moveTo_23 ?_
        rintro _ h9 ⟨rfl, hh9⟩
        rw [hh9]
        clear hh9 h9
        show Z _ _ _ _ _ _ _ _ _ _ _ _ _ _ _ _ _ _ _ _ [vR (aE ρ i9)]
        refine z_cast F (ci_e (ρ := (sw (su ρ 0 0 m9) 11 f9)) hI8 (show 0 ≤ i9 ∧ i9 < ρ 8 0 ∧ i9 < 100 from by omega)) q244 (fun r9 h9 => by cases h9; rfl) dX7_moveTo_26 ?_
        refine z_astore_n (lv' := [(3, vR (aE ρ i9)), (2, vI i9), (0, vR (g 1)), (1, vI m9)]) F dX7_moveTo_29 rfl (by decide) rfl ?_
        refine z_aload_n F dX7_moveTo_30 rfl 0 rfl ?_
        refine z_get (v := vI (ρ 12 i9)) F (ci_e (ρ := (sw (su ρ 0 0 m9) 11 f9)) hI8 (show 0 ≤ i9 ∧ i9 < ρ 8 0 ∧ i9 < 100 from by omega)) fX7_36 rfl dX7_moveTo_31 ?_
        refine z_bipush F dX7_moveTo_34 (by decide) ?_
        refine z_icmp_ne (tgt := 44) F dX7_moveTo_36 (by decide) (by omega) (by decide) (fun c36 => ?_) (fun c36 => ?_)
        · refine z_iinc (lv' := [(2, vI (i9 + 1)), (3, vR (aE ρ i9)), (0, vR (g 1)), (1, vI m9)]) F dX7_moveTo_44 1 rfl (by decide) rfl ?_
          refine z_goto (tgt := 7) F dX7_moveTo_47 (by decide) ?_
          refine z_pick (lv' := [(2, vI (i9 + 1)), (0, vR (g 1)), (1, vI m9)]) [0, 2, 3] rfl ?_
          exact ih7 (i9 + 1) h8 f9 (hI8) (by omega) ((fun e => by
            rw [hf]
            by_cases q : e = i9
            · rw [q, if_neg (by omega), if_neg (by omega)]
            · by_cases q2 : (0 ≤ e ∧ e < i9) ∧ ρ 12 e = 114
              · rw [if_pos q2, if_pos (by omega)]
              · rw [if_neg q2, if_neg (by omega)])) (by omega)
        · refine z_aload_n F dX7_moveTo_39 rfl 0 rfl ?_
          refine z_iload_n F dX7_moveTo_40 rfl 3 rfl ?_
          obtain ⟨h2, eh2, Ih2⟩ : ∃ z : Hp, hu h8 (aE ρ i9) (eO 7 [vI i9, vR (aC ρ (ρ 9 i9)), vI (ρ 10 i9), vI m9, vI (ρ 12 i9), vI (ρ 13 i9)]) = z ∧ CI G g (su (sw (su ρ 0 0 m9) 11 f9) 11 i9 m9) z := ⟨_, rfl, cP11 hI8 (show 0 ≤ i9 ∧ i9 < ρ 8 0 ∧ i9 < 100 from by omega) (by first | (simp [su, sw, fb_fi]; done) | (simp [su, sw, fb_fi]; rfl))⟩
          refine z_put (fs := [vI i9, vR (aC ρ (ρ 9 i9)), vI (ρ 10 i9), vI (f9 i9), vI (ρ 12 i9), vI (ρ 13 i9)]) (fs' := [vI i9, vR (aC ρ (ρ 9 i9)), vI (ρ 10 i9), vI m9, vI (ρ 12 i9), vI (ρ 13 i9)]) (h' := h2) F (ci_e (ρ := (sw (su ρ 0 0 m9) 11 f9)) hI8 (show 0 ≤ i9 ∧ i9 < ρ 8 0 ∧ i9 < 100 from by omega)) fX7_39 ftX2_3 (nf_i _) (Nat.le_of_ble_eq_true rfl) rfl dX7_moveTo_41 eh2 ?_
          refine z_iinc (lv' := [(2, vI (i9 + 1)), (3, vR (aE ρ i9)), (0, vR (g 1)), (1, vI m9)]) F dX7_moveTo_44 1 rfl (by decide) rfl ?_
          refine z_goto (tgt := 7) F dX7_moveTo_47 (by decide) ?_
          refine z_pick (lv' := [(2, vI (i9 + 1)), (0, vR (g 1)), (1, vI m9)]) [0, 2, 3] rfl ?_
          exact ih7 (i9 + 1) h2 (fun j => if j = i9 then m9 else f9 j) (CI.suw Ih2) (by omega) ((fun e => by
            show (if e = i9 then m9 else f9 e) = _
            by_cases q : e = i9
            · rw [if_pos q, q, if_pos (by omega)]
            · rw [if_neg q, hf]
              by_cases q2 : (0 ≤ e ∧ e < i9) ∧ ρ 12 e = 114
              · rw [if_pos q2, if_pos (by omega)]
              · rw [if_neg q2, if_neg (by omega)])) (by omega)
  exact L7 ((ρ 8 0 - 0 : Int).toNat + 1) 0 h1 (ρ 11) (CI.to Ih1 (fun k j => by unfold sw; split <;> (first | rfl | (next q => rw [q]; rfl)))) (by omega) (fun e => by rw [if_neg (by omega)]) (by omega)
set_option maxRecDepth 100000 in
set_option maxHeartbeats 4000000 in
theorem mX8_now (l : Launch) (G : GG) (N0 : Nat) (h : Hp) (g : Int → Nat) (ρ : Sg) (hI : CI G g ρ h) (hV : MC ρ) : Ct l G N0 yX8_now (Cond.code yX8_now cX8_now 1 (some FieldType.int) :: LW) ({ frames := 2, cells := 0, slots := 0, locals := 100 }) [vR (g 0)] h (fun r h' => r = some (vI (ρ 0 0)) ∧ h' = h) := by
  refine ct_of rfl rfl ?_
  intro p e s m args below meth c F hr hnm
  have F : Fx p s m args meth c RX8 cX8_now 1 G N0 (cA h s.heap.size) := F
  obtain ⟨v0, v1, v2, v8, v16, v24, v39, vC, vE, vJ, vK, vB, vO⟩ := id hV
  show Z _ _ _ _ _ _ _ _ _ _ _ _ _ _ _ _ _ _ _ [(0, vR (g 0))] []
  refine z_aload_n F dX8_now_0 rfl 0 rfl ?_
  refine z_get (v := vR (g 1)) F (ci_0 hI) fX8_10 rfl dX8_now_1 ?_
  refine z_get (v := vI (ρ 0 0)) F (ci_1 hI) fX8_57 rfl dX8_now_4 ?_
  exact z_iret (nf_i _) F hr (Nat.le_of_ble_eq_true rfl) (Nat.le_of_ble_eq_true rfl) dX8_now_7 (⟨rfl, rfl⟩)
set_option maxRecDepth 100000 in
set_option maxHeartbeats 4000000 in
theorem mX8_clients (l : Launch) (G : GG) (N0 : Nat) (h : Hp) (g : Int → Nat) (ρ : Sg) (hI : CI G g ρ h) (hV : MC ρ) : Ct l G N0 yX8_clients (Cond.code yX8_clients cX8_clients 1 (some FieldType.int) :: LW) ({ frames := 2, cells := 0, slots := 0, locals := 100 }) [vR (g 0)] h (fun r h' => r = some (vI (ρ 2 0)) ∧ h' = h) := by
  refine ct_of rfl rfl ?_
  intro p e s m args below meth c F hr hnm
  have F : Fx p s m args meth c RX8 cX8_clients 1 G N0 (cA h s.heap.size) := F
  obtain ⟨v0, v1, v2, v8, v16, v24, v39, vC, vE, vJ, vK, vB, vO⟩ := id hV
  show Z _ _ _ _ _ _ _ _ _ _ _ _ _ _ _ _ _ _ _ [(0, vR (g 0))] []
  refine z_aload_n F dX8_clients_0 rfl 0 rfl ?_
  refine z_get (v := vR (g 7)) F (ci_0 hI) fX8_40 rfl dX8_clients_1 ?_
  refine z_callV (As := []) (st := []) F (mJx4a65c_size_8abf5 l G N0 h (g 7) ((ρ 40 0).toNat) 0 (ρ 32 0) (ρ 2 0) (fun _ => none) (ci_7 hI)) cvX8_90 (ci_7 hI) (fun r9 h9 => by cases h9; rfl) rfl rfl ⟨Nat.le_of_ble_eq_true rfl, Nat.le_of_ble_eq_true rfl⟩ rfl ⟨Nat.le_of_ble_eq_true rfl, Nat.le_of_ble_eq_true rfl⟩ dX8_clients_4 ?_
  rintro _ h9 ⟨rfl, hh9⟩
  rw [hh9]
  clear hh9 h9
  show Z _ _ _ _ _ _ _ _ _ _ _ _ _ _ _ _ _ _ _ _ [vI (ρ 2 0)]
  exact z_iret (nf_i _) F hr (Nat.le_of_ble_eq_true rfl) (Nat.le_of_ble_eq_true rfl) dX8_clients_7 (⟨rfl, rfl⟩)
set_option maxRecDepth 100000 in
set_option maxHeartbeats 4000000 in
theorem mX8_entries (l : Launch) (G : GG) (N0 : Nat) (h : Hp) (g : Int → Nat) (ρ : Sg) (hI : CI G g ρ h) (hV : MC ρ) : Ct l G N0 yX8_entries (Cond.code yX8_entries cX8_entries 1 (some FieldType.int) :: LW) ({ frames := 2, cells := 0, slots := 0, locals := 100 }) [vR (g 0)] h (fun r h' => r = some (vI (ρ 8 0)) ∧ h' = h) := by
  refine ct_of rfl rfl ?_
  intro p e s m args below meth c F hr hnm
  have F : Fx p s m args meth c RX8 cX8_entries 1 G N0 (cA h s.heap.size) := F
  obtain ⟨v0, v1, v2, v8, v16, v24, v39, vC, vE, vJ, vK, vB, vO⟩ := id hV
  show Z _ _ _ _ _ _ _ _ _ _ _ _ _ _ _ _ _ _ _ [(0, vR (g 0))] []
  refine z_aload_n F dX8_entries_0 rfl 0 rfl ?_
  refine z_get (v := vR (g 1)) F (ci_0 hI) fX8_10 rfl dX8_entries_1 ?_
  refine z_get (v := vR (g 15)) F (ci_1 hI) fX8_170 rfl dX8_entries_4 ?_
  refine z_callV (As := []) (st := []) F (mJx4a65c_size_8abf5 l G N0 h (g 15) ((ρ 40 3).toNat) 0 (ρ 32 3) (ρ 8 0) (fun _ => none) (ci_15 hI)) cvX8_90 (ci_15 hI) (fun r9 h9 => by cases h9; rfl) rfl rfl ⟨Nat.le_of_ble_eq_true rfl, Nat.le_of_ble_eq_true rfl⟩ rfl ⟨Nat.le_of_ble_eq_true rfl, Nat.le_of_ble_eq_true rfl⟩ dX8_entries_7 ?_
  rintro _ h9 ⟨rfl, hh9⟩
  rw [hh9]
  clear hh9 h9
  show Z _ _ _ _ _ _ _ _ _ _ _ _ _ _ _ _ _ _ _ _ [vI (ρ 8 0)]
  exact z_iret (nf_i _) F hr (Nat.le_of_ble_eq_true rfl) (Nat.le_of_ble_eq_true rfl) dX8_entries_10 (⟨rfl, rfl⟩)
set_option maxRecDepth 100000 in
set_option maxHeartbeats 4000000 in
theorem mX8_invoices (l : Launch) (G : GG) (N0 : Nat) (h : Hp) (g : Int → Nat) (ρ : Sg) (hI : CI G g ρ h) (hV : MC ρ) : Ct l G N0 yX8_invoices (Cond.code yX8_invoices cX8_invoices 1 (some FieldType.int) :: LW) ({ frames := 2, cells := 0, slots := 0, locals := 100 }) [vR (g 0)] h (fun r h' => r = some (vI (ρ 16 0)) ∧ h' = h) := by
  refine ct_of rfl rfl ?_
  intro p e s m args below meth c F hr hnm
  have F : Fx p s m args meth c RX8 cX8_invoices 1 G N0 (cA h s.heap.size) := F
  obtain ⟨v0, v1, v2, v8, v16, v24, v39, vC, vE, vJ, vK, vB, vO⟩ := id hV
  show Z _ _ _ _ _ _ _ _ _ _ _ _ _ _ _ _ _ _ _ [(0, vR (g 0))] []
  refine z_aload_n F dX8_invoices_0 rfl 0 rfl ?_
  refine z_get (v := vR (g 9)) F (ci_0 hI) fX8_44 rfl dX8_invoices_1 ?_
  refine z_callV (As := []) (st := []) F (mJx4a65c_size_8abf5 l G N0 h (g 9) ((ρ 40 1).toNat) 0 (ρ 32 1) (ρ 16 0) (fun _ => none) (ci_9 hI)) cvX8_90 (ci_9 hI) (fun r9 h9 => by cases h9; rfl) rfl rfl ⟨Nat.le_of_ble_eq_true rfl, Nat.le_of_ble_eq_true rfl⟩ rfl ⟨Nat.le_of_ble_eq_true rfl, Nat.le_of_ble_eq_true rfl⟩ dX8_invoices_4 ?_
  rintro _ h9 ⟨rfl, hh9⟩
  rw [hh9]
  clear hh9 h9
  show Z _ _ _ _ _ _ _ _ _ _ _ _ _ _ _ _ _ _ _ _ [vI (ρ 16 0)]
  exact z_iret (nf_i _) F hr (Nat.le_of_ble_eq_true rfl) (Nat.le_of_ble_eq_true rfl) dX8_invoices_7 (⟨rfl, rfl⟩)
set_option maxRecDepth 100000 in
set_option maxHeartbeats 4000000 in
theorem mX8_pass (l : Launch) (G : GG) (N0 : Nat) (h : Hp) (hl9 : l.stackTraces = false) (g : Int → Nat) (ρ : Sg) (m9 : Int) (hI : CI G g ρ h) (hV : MC ρ) (r_m9 : -2147483648 ≤ m9 ∧ m9 < 2147483648) : CtX l G N0 yX8_pass (Cond.code yX8_pass cX8_pass 2 (some FieldType.int) :: LW) ({ frames := 7, cells := 4, slots := 24, locals := 260 }) [vR (g 0), vI m9] h (fun r h' => ¬ (¬ (1 ≤ m9 ∧ m9 ≤ 600)) ∧ ¬ (2999 < ρ 0 0 + m9) ∧ ∃ ρ', r = some (vI (ρ 0 0 + m9)) ∧ SA (sw (su ρ 0 0 (ρ 0 0 + m9)) 11 (fun e => if ρ 12 e = 114 then (ρ 0 0 + m9) else ρ 11 e)) ρ' ∧ CI G g ρ' h') (fun E h' => ∃ ρ', SA ρ ρ' ∧ CI G g ρ' h' ∧ ((E = "java/lang/IllegalArgumentException" ∧ (¬ (1 ≤ m9 ∧ m9 ≤ 600))) ∨ (E = "java/lang/IllegalStateException" ∧ ¬ (¬ (1 ≤ m9 ∧ m9 ≤ 600)) ∧ (2999 < ρ 0 0 + m9)))) := by
  refine ctX_of rfl rfl ?_
  intro p e s m args below meth c F hr htab
  have F : Fx p s m args meth c RX8 cX8_pass 2 G N0 (cA h s.heap.size) := F
  obtain ⟨v0, v1, v2, v8, v16, v24, v39, vC, vE, vJ, vK, vB, vO⟩ := id hV
  show Z _ _ _ _ _ _ _ _ _ _ _ _ _ _ _ _ _ _ _ [(0, vR (g 0)), (1, vI m9)] []
  refine z_iload_n F dX8_pass_0 rfl 1 rfl ?_
  refine z_iconst F dX8_pass_1 ?_
  refine z_icmp_lt (tgt := 12) F dX8_pass_2 (by decide) (by omega) (by decide) (fun c2 => ?_) (fun c2 => ?_)
  · exact z_throwC (names := ["java/lang/RuntimeException", "java/lang/Exception"]) F htab hl9 ⟨by decide +kernel, fitN⟩ q734 q16 hatA (List.mem_of_getElem? (i := 0) rfl) dX8_pass_12 dX8_pass_15 dX8_pass_16 dX8_pass_18 dX8_pass_21 ⟨Nat.le_of_ble_eq_true rfl, Nat.le_of_ble_eq_true rfl, Nat.le_of_ble_eq_true rfl, Nat.le_of_ble_eq_true rfl⟩ (Nat.le_of_ble_eq_true rfl) (Nat.le_of_ble_eq_true rfl) (⟨ρ, SA.refl _, hI, by first | exact Or.inl ⟨rfl, by omega⟩ | exact Or.inr (⟨rfl, by omega, by omega⟩)⟩)
  · refine z_iload_n F dX8_pass_5 rfl 1 rfl ?_
    refine z_sipush F dX8_pass_6 (by decide) ?_
    refine z_icmp_le (tgt := 22) F dX8_pass_9 (by decide) (by omega) (by decide) (fun c9 => ?_) (fun c9 => ?_)
    · refine z_aload_n F dX8_pass_22 rfl 0 rfl ?_
      refine z_get (v := vR (g 1)) F (ci_0 hI) fX8_10 rfl dX8_pass_23 ?_
      refine z_get (v := vI (ρ 0 0)) F (ci_1 hI) fX8_57 rfl dX8_pass_26 ?_
      refine z_iload_n F dX8_pass_29 rfl 1 rfl ?_
      refine z_iadd F dX8_pass_30 ?_
      refine z_sipush F dX8_pass_31 (by decide) ?_
      refine z_icmp_le (tgt := 47) F dX8_pass_34 (by decide) (by omega) (by decide) (fun c34 => ?_) (fun c34 => ?_)
      · refine z_aload_n F dX8_pass_47 rfl 0 rfl ?_
        refine z_get (v := vR (g 1)) F (ci_0 hI) fX8_10 rfl dX8_pass_48 ?_
        refine z_aload_n F dX8_pass_51 rfl 0 rfl ?_
        refine z_get (v := vR (g 1)) F (ci_0 hI) fX8_10 rfl dX8_pass_52 ?_
        refine z_get (v := vI (ρ 0 0)) F (ci_1 hI) fX8_57 rfl dX8_pass_55 ?_
        refine z_iload_n F dX8_pass_58 rfl 1 rfl ?_
        refine z_iadd F dX8_pass_59 ?_
        refine z_callV (As := [vI ((ρ 0 0) + m9)]) (st := []) F (mX7_moveTo l G N0 h g ρ ((ρ 0 0) + m9) hI hV (by omega)) cvX8_73 (ci_1 hI) (fun r9 h9 => by cases h9; rfl) rfl rfl ⟨Nat.le_of_ble_eq_true rfl, Nat.le_of_ble_eq_true rfl⟩ rfl ⟨Nat.le_of_ble_eq_true rfl, Nat.le_of_ble_eq_true rfl⟩ dX8_pass_60 ?_
        rintro _ h1 ⟨rfl, Ih1⟩
        show Z _ _ _ _ _ _ _ _ _ _ _ _ _ _ _ _ _ _ _ _ []
        refine z_aload_n F dX8_pass_63 rfl 0 rfl ?_
        refine z_get (v := vR (g 1)) F (ci_0 (ρ := (sw (su ρ 0 0 ((ρ 0 0) + m9)) 11 (fun e => if ρ 12 e = 114 then (ρ 0 0) + m9 else ρ 11 e))) Ih1) fX8_10 rfl dX8_pass_64 ?_
        refine z_get (v := vI ((ρ 0 0) + m9)) F (ci_1 (ρ := (sw (su ρ 0 0 ((ρ 0 0) + m9)) 11 (fun e => if ρ 12 e = 114 then (ρ 0 0) + m9 else ρ 11 e))) Ih1) fX8_57 rfl dX8_pass_67 ?_
        exact z_iretX (nf_i _) F hr (Nat.le_of_ble_eq_true rfl) (Nat.le_of_ble_eq_true rfl) dX8_pass_70 (⟨by omega, by omega, (sw (su ρ 0 0 ((ρ 0 0) + m9)) 11 (fun e => if ρ 12 e = 114 then (ρ 0 0) + m9 else ρ 11 e)), rI (by first | rfl | omega), SA.refl _, Ih1⟩)
      · exact z_throwC (names := ["java/lang/RuntimeException", "java/lang/Exception"]) F htab hl9 ⟨by decide +kernel, fitN⟩ q737 q17 hatS (List.mem_of_getElem? (i := 1) rfl) dX8_pass_37 dX8_pass_40 dX8_pass_41 dX8_pass_43 dX8_pass_46 ⟨Nat.le_of_ble_eq_true rfl, Nat.le_of_ble_eq_true rfl, Nat.le_of_ble_eq_true rfl, Nat.le_of_ble_eq_true rfl⟩ (Nat.le_of_ble_eq_true rfl) (Nat.le_of_ble_eq_true rfl) (⟨ρ, SA.refl _, hI, by first | exact Or.inl ⟨rfl, by omega⟩ | exact Or.inr (⟨rfl, by omega, by omega⟩)⟩)
    · exact z_throwC (names := ["java/lang/RuntimeException", "java/lang/Exception"]) F htab hl9 ⟨by decide +kernel, fitN⟩ q734 q16 hatA (List.mem_of_getElem? (i := 0) rfl) dX8_pass_12 dX8_pass_15 dX8_pass_16 dX8_pass_18 dX8_pass_21 ⟨Nat.le_of_ble_eq_true rfl, Nat.le_of_ble_eq_true rfl, Nat.le_of_ble_eq_true rfl, Nat.le_of_ble_eq_true rfl⟩ (Nat.le_of_ble_eq_true rfl) (Nat.le_of_ble_eq_true rfl) (⟨ρ, SA.refl _, hI, by first | exact Or.inl ⟨rfl, by omega⟩ | exact Or.inr (⟨rfl, by omega, by omega⟩)⟩)
set_option maxRecDepth 100000 in
set_option maxHeartbeats 4000000 in
theorem mX8_setRule (l : Launch) (G : GG) (N0 : Nat) (h : Hp) (hl9 : l.stackTraces = false) (g : Int → Nat) (ρ : Sg) (ru : Int) (hI : CI G g ρ h) (hV : MC ρ) (r_ru : 0 ≤ ru ∧ ru < 65536) : CtX l G N0 yX8_setRule (Cond.code yX8_setRule cX8_setRule 3 (some FieldType.char) :: LW) ({ frames := 7, cells := 4, slots := 24, locals := 260 }) [vR (g 0), vI ru] h (fun r h' => ¬ (ru ≠ 102 ∧ ru ≠ 108 ∧ ru ≠ 115) ∧ ∃ ρ', r = some (vI (ρ 1 0)) ∧ SA (su ρ 1 0 ru) ρ' ∧ CI G g ρ' h') (fun E h' => ∃ ρ', SA ρ ρ' ∧ CI G g ρ' h' ∧ ((E = "java/lang/IllegalArgumentException" ∧ (ru ≠ 102 ∧ ru ≠ 108 ∧ ru ≠ 115)))) := by
  refine ctX_of rfl rfl ?_
  intro p e s m args below meth c F hr htab
  have F : Fx p s m args meth c RX8 cX8_setRule 3 G N0 (cA h s.heap.size) := F
  obtain ⟨v0, v1, v2, v8, v16, v24, v39, vC, vE, vJ, vK, vB, vO⟩ := id hV
  show Z _ _ _ _ _ _ _ _ _ _ _ _ _ _ _ _ _ _ _ [(0, vR (g 0)), (1, vI ru)] []
  refine z_iload_n F dX8_setRule_0 rfl 1 rfl ?_
  refine z_bipush F dX8_setRule_1 (by decide) ?_
  refine z_icmp_eq (tgt := 28) F dX8_setRule_3 (by decide) (by omega) (by decide) (fun c3 => ?_) (fun c3 => ?_)
  · refine z_aload_n F dX8_setRule_28 rfl 0 rfl ?_
    refine z_get (v := vR (g 1)) F (ci_0 hI) fX8_10 rfl dX8_setRule_29 ?_
    refine z_get (v := vI (ρ 1 0)) F (ci_1 hI) fX8_79 rfl dX8_setRule_32 ?_
    refine z_istore_n (lv' := [(2, vI (ρ 1 0)), (0, vR (g 0)), (1, vI ru)]) F dX8_setRule_35 rfl (by decide) rfl ?_
    refine z_aload_n F dX8_setRule_36 rfl 1 rfl ?_
    refine z_get (v := vR (g 1)) F (ci_0 hI) fX8_10 rfl dX8_setRule_37 ?_
    refine z_iload_n F dX8_setRule_40 rfl 2 rfl ?_
    obtain ⟨h1, eh1, Ih1⟩ : ∃ z : Hp, hu h (g 1) (eO 12 [vR (g 15), vI (ρ 0 0), vI ru]) = z ∧ CI G g (su ρ 1 0 ru) z := ⟨_, rfl, cPf1 hI ru⟩
    refine z_put (fs := [vR (g 15), vI (ρ 0 0), vI (ρ 1 0)]) (fs' := [vR (g 15), vI (ρ 0 0), vI ru]) (h' := h1) F (ci_1 hI) fX8_79 ftX7_2 (nf_c (by omega)) (Nat.le_of_ble_eq_true rfl) rfl dX8_setRule_41 eh1 ?_
    refine z_iload_n F dX8_setRule_44 rfl 0 rfl ?_
    exact z_iretX (nf_c (by omega)) F hr (Nat.le_of_ble_eq_true rfl) (Nat.le_of_ble_eq_true rfl) dX8_setRule_45 (⟨by omega, (su ρ 1 0 ru), rI (by first | rfl | omega), SA.refl _, Ih1⟩)
  · refine z_iload_n F dX8_setRule_6 rfl 1 rfl ?_
    refine z_bipush F dX8_setRule_7 (by decide) ?_
    refine z_icmp_eq (tgt := 28) F dX8_setRule_9 (by decide) (by omega) (by decide) (fun c9 => ?_) (fun c9 => ?_)
    · refine z_aload_n F dX8_setRule_28 rfl 0 rfl ?_
      refine z_get (v := vR (g 1)) F (ci_0 hI) fX8_10 rfl dX8_setRule_29 ?_
      refine z_get (v := vI (ρ 1 0)) F (ci_1 hI) fX8_79 rfl dX8_setRule_32 ?_
      refine z_istore_n (lv' := [(2, vI (ρ 1 0)), (0, vR (g 0)), (1, vI ru)]) F dX8_setRule_35 rfl (by decide) rfl ?_
      refine z_aload_n F dX8_setRule_36 rfl 1 rfl ?_
      refine z_get (v := vR (g 1)) F (ci_0 hI) fX8_10 rfl dX8_setRule_37 ?_
      refine z_iload_n F dX8_setRule_40 rfl 2 rfl ?_
      obtain ⟨h2, eh2, Ih2⟩ : ∃ z : Hp, hu h (g 1) (eO 12 [vR (g 15), vI (ρ 0 0), vI ru]) = z ∧ CI G g (su ρ 1 0 ru) z := ⟨_, rfl, cPf1 hI ru⟩
      refine z_put (fs := [vR (g 15), vI (ρ 0 0), vI (ρ 1 0)]) (fs' := [vR (g 15), vI (ρ 0 0), vI ru]) (h' := h2) F (ci_1 hI) fX8_79 ftX7_2 (nf_c (by omega)) (Nat.le_of_ble_eq_true rfl) rfl dX8_setRule_41 eh2 ?_
      refine z_iload_n F dX8_setRule_44 rfl 0 rfl ?_
      exact z_iretX (nf_c (by omega)) F hr (Nat.le_of_ble_eq_true rfl) (Nat.le_of_ble_eq_true rfl) dX8_setRule_45 (⟨by omega, (su ρ 1 0 ru), rI (by first | rfl | omega), SA.refl _, Ih2⟩)
    · refine z_iload_n F dX8_setRule_12 rfl 1 rfl ?_
      refine z_bipush F dX8_setRule_13 (by decide) ?_
      refine z_icmp_eq (tgt := 28) F dX8_setRule_15 (by decide) (by omega) (by decide) (fun c15 => ?_) (fun c15 => ?_)
      · refine z_aload_n F dX8_setRule_28 rfl 0 rfl ?_
        refine z_get (v := vR (g 1)) F (ci_0 hI) fX8_10 rfl dX8_setRule_29 ?_
        refine z_get (v := vI (ρ 1 0)) F (ci_1 hI) fX8_79 rfl dX8_setRule_32 ?_
        refine z_istore_n (lv' := [(2, vI (ρ 1 0)), (0, vR (g 0)), (1, vI ru)]) F dX8_setRule_35 rfl (by decide) rfl ?_
        refine z_aload_n F dX8_setRule_36 rfl 1 rfl ?_
        refine z_get (v := vR (g 1)) F (ci_0 hI) fX8_10 rfl dX8_setRule_37 ?_
        refine z_iload_n F dX8_setRule_40 rfl 2 rfl ?_
        obtain ⟨h3, eh3, Ih3⟩ : ∃ z : Hp, hu h (g 1) (eO 12 [vR (g 15), vI (ρ 0 0), vI ru]) = z ∧ CI G g (su ρ 1 0 ru) z := ⟨_, rfl, cPf1 hI ru⟩
        refine z_put (fs := [vR (g 15), vI (ρ 0 0), vI (ρ 1 0)]) (fs' := [vR (g 15), vI (ρ 0 0), vI ru]) (h' := h3) F (ci_1 hI) fX8_79 ftX7_2 (nf_c (by omega)) (Nat.le_of_ble_eq_true rfl) rfl dX8_setRule_41 eh3 ?_
        refine z_iload_n F dX8_setRule_44 rfl 0 rfl ?_
        exact z_iretX (nf_c (by omega)) F hr (Nat.le_of_ble_eq_true rfl) (Nat.le_of_ble_eq_true rfl) dX8_setRule_45 (⟨by omega, (su ρ 1 0 ru), rI (by first | rfl | omega), SA.refl _, Ih3⟩)
      · exact z_throwC (names := ["java/lang/RuntimeException", "java/lang/Exception"]) F htab hl9 ⟨by decide +kernel, fitN⟩ q734 q16 hatA (List.mem_of_getElem? (i := 2) rfl) dX8_setRule_18 dX8_setRule_21 dX8_setRule_22 dX8_setRule_24 dX8_setRule_27 ⟨Nat.le_of_ble_eq_true rfl, Nat.le_of_ble_eq_true rfl, Nat.le_of_ble_eq_true rfl, Nat.le_of_ble_eq_true rfl⟩ (Nat.le_of_ble_eq_true rfl) (Nat.le_of_ble_eq_true rfl) (⟨ρ, SA.refl _, hI, by first | exact ⟨rfl, by omega⟩⟩)
set_option maxRecDepth 100000 in
set_option maxHeartbeats 4000000 in
theorem mX8_setRounding (l : Launch) (G : GG) (N0 : Nat) (h : Hp) (hl9 : l.stackTraces = false) (g : Int → Nat) (ρ : Sg) (c9 u9 mo le : Int) (hI : CI G g ρ h) (hV : MC ρ) (r_c9 : -2147483648 ≤ c9 ∧ c9 < 2147483648) (r_u9 : -2147483648 ≤ u9 ∧ u9 < 2147483648) (r_mo : 0 ≤ mo ∧ mo < 65536) (r_le : 0 ≤ le ∧ le < 65536) : CtX l G N0 yX8_setRounding (Cond.code yX8_setRounding cX8_setRounding 7 (some FieldType.int) :: LW) ({ frames := 7, cells := 4, slots := 24, locals := 260 }) [vR (g 0), vI c9, vI u9, vI mo, vI le] h (fun r h' => ¬ (¬ (0 ≤ c9 ∧ c9 < ρ 2 0)) ∧ ¬ (¬ ((1 ≤ u9 ∧ u9 ≤ 60) ∧ (mo = 117 ∨ mo = 100 ∨ mo = 110) ∧ (le = 101 ∨ le = 100 ∨ le = 99))) ∧ ∃ ρ', r = some (vI (ρ 3 c9)) ∧ SA (su (su (su ρ 3 c9 u9) 4 c9 mo) 5 c9 le) ρ' ∧ CI G g ρ' h') (fun E h' => ∃ ρ', SA ρ ρ' ∧ CI G g ρ' h' ∧ ((E = "java/lang/IndexOutOfBoundsException" ∧ (¬ (0 ≤ c9 ∧ c9 < ρ 2 0))) ∨ (E = "java/lang/IllegalArgumentException" ∧ ¬ (¬ (0 ≤ c9 ∧ c9 < ρ 2 0)) ∧ (¬ ((1 ≤ u9 ∧ u9 ≤ 60) ∧ (mo = 117 ∨ mo = 100 ∨ mo = 110) ∧ (le = 101 ∨ le = 100 ∨ le = 99)))))) := by
  refine ctX_of rfl rfl ?_
  intro p e s m args below meth c F hr htab
  have F : Fx p s m args meth c RX8 cX8_setRounding 7 G N0 (cA h s.heap.size) := F
  obtain ⟨v0, v1, v2, v8, v16, v24, v39, vC, vE, vJ, vK, vB, vO⟩ := id hV
  have C9 := vC c9
  show Z _ _ _ _ _ _ _ _ _ _ _ _ _ _ _ _ _ _ _ [(0, vR (g 0)), (1, vI c9), (2, vI u9), (3, vI mo), (4, vI le)] []
  refine z_aload_n F dX8_setRounding_0 rfl 0 rfl ?_
  refine z_iload_n F dX8_setRounding_1 rfl 1 rfl ?_
  refine z_xcallV (As := [vI c9]) (st := []) F htab (mX8_clientAt l G N0 h hl9 g ρ c9 hI hV (by omega)) cvX8_105 (ci_0 hI) (fun r9 h9 => by cases h9; rfl) rfl rfl ⟨Nat.le_of_ble_eq_true rfl, Nat.le_of_ble_eq_true rfl⟩ rfl ⟨Nat.le_of_ble_eq_true rfl, Nat.le_of_ble_eq_true rfl⟩ dX8_setRounding_2 (fun E h9 hx => by obtain ⟨e1, rfl⟩ := hx; refine ⟨ρ, SA.refl _, hI, ?_⟩; obtain ⟨rfl, e2⟩ := e1; first | exact Or.inl ⟨rfl, by omega⟩ | exact Or.inr (⟨rfl, by omega, by omega⟩)) (Nat.le_of_ble_eq_true rfl) (Nat.le_of_ble_eq_true rfl) ?_
  rintro _ h9 ⟨f2_0, rfl, hh9⟩
  rw [hh9]
  clear hh9 h9
  show Z _ _ _ _ _ _ _ _ _ _ _ _ _ _ _ _ _ _ _ _ [vR (aC ρ c9)]
  refine z_astore (lv' := [(5, vR (aC ρ c9)), (0, vR (g 0)), (1, vI c9), (2, vI u9), (3, vI mo), (4, vI le)]) F dX8_setRounding_5 (by decide) rfl ?_
  refine z_aload_n F dX8_setRounding_7 rfl 1 rfl ?_
  refine z_iload_n F dX8_setRounding_8 rfl 3 rfl ?_
  refine z_iload_n F dX8_setRounding_9 rfl 4 rfl ?_
  refine z_iload F dX8_setRounding_10 5 rfl ?_
  refine z_xcallV (As := [vI u9, vI mo, vI le]) (st := []) F htab (mX8_requireRounding l G N0 h hl9 g ρ u9 mo le hI hV (by omega) (by omega) (by omega)) cvX8_83 (ci_0 hI) (fun r9 h9 => by cases h9; rfl) rfl rfl ⟨Nat.le_of_ble_eq_true rfl, Nat.le_of_ble_eq_true rfl⟩ rfl ⟨Nat.le_of_ble_eq_true rfl, Nat.le_of_ble_eq_true rfl⟩ dX8_setRounding_12 (fun E h9 hx => by obtain ⟨e1, rfl⟩ := hx; refine ⟨ρ, SA.refl _, hI, ?_⟩; obtain ⟨rfl, e2⟩ := e1; first | exact Or.inl ⟨rfl, by omega⟩ | exact Or.inr (⟨rfl, by omega, by omega⟩)) (Nat.le_of_ble_eq_true rfl) (Nat.le_of_ble_eq_true rfl) ?_
  rintro _ h9 ⟨f12_0, rfl, hh9⟩
  rw [hh9]
  clear hh9 h9
  show Z _ _ _ _ _ _ _ _ _ _ _ _ _ _ _ _ _ _ _ _ []
  refine z_aload F dX8_setRounding_15 0 rfl ?_
  refine z_get (v := vI (ρ 3 c9)) F (ci_c hI (show 0 ≤ c9 ∧ c9 < ρ 2 0 ∧ c9 < 100 from by omega)) fX8_109 rfl dX8_setRounding_17 ?_
  refine z_istore (lv' := [(6, vI (ρ 3 c9)), (5, vR (aC ρ c9)), (0, vR (g 0)), (1, vI c9), (2, vI u9), (3, vI mo), (4, vI le)]) F dX8_setRounding_20 (by decide) rfl ?_
  refine z_aload F dX8_setRounding_22 1 rfl ?_
  refine z_iload_n F dX8_setRounding_24 rfl 4 rfl ?_
  obtain ⟨h1, eh1, Ih1⟩ : ∃ z : Hp, hu h (aC ρ c9) (eO 5 [vI c9, vI u9, vI (ρ 4 c9), vI (ρ 5 c9), vI (ρ 6 c9), vI (ρ 7 c9)]) = z ∧ CI G g (su ρ 3 c9 u9) z := ⟨_, rfl, cP3 hI (show 0 ≤ c9 ∧ c9 < ρ 2 0 ∧ c9 < 100 from by omega) (by first | (simp [su, sw, fb_fi]; done) | (simp [su, sw, fb_fi]; rfl))⟩
  refine z_put (fs := [vI c9, vI (ρ 3 c9), vI (ρ 4 c9), vI (ρ 5 c9), vI (ρ 6 c9), vI (ρ 7 c9)]) (fs' := [vI c9, vI u9, vI (ρ 4 c9), vI (ρ 5 c9), vI (ρ 6 c9), vI (ρ 7 c9)]) (h' := h1) F (ci_c hI (show 0 ≤ c9 ∧ c9 < ρ 2 0 ∧ c9 < 100 from by omega)) fX8_109 ftX0_1 (nf_i _) (Nat.le_of_ble_eq_true rfl) rfl dX8_setRounding_25 eh1 ?_
  refine z_aload F dX8_setRounding_28 1 rfl ?_
  refine z_iload_n F dX8_setRounding_30 rfl 5 rfl ?_
  obtain ⟨h2, eh2, Ih2⟩ : ∃ z : Hp, hu h1 (aC ρ c9) (eO 5 [vI c9, vI u9, vI mo, vI (ρ 5 c9), vI (ρ 6 c9), vI (ρ 7 c9)]) = z ∧ CI G g (su (su ρ 3 c9 u9) 4 c9 mo) z := ⟨_, rfl, cP4 Ih1 (show 0 ≤ c9 ∧ c9 < ρ 2 0 ∧ c9 < 100 from by omega) (by first | (simp [su, sw, fb_fi]; done) | (simp [su, sw, fb_fi]; rfl))⟩
  refine z_put (fs := [vI c9, vI u9, vI (ρ 4 c9), vI (ρ 5 c9), vI (ρ 6 c9), vI (ρ 7 c9)]) (fs' := [vI c9, vI u9, vI mo, vI (ρ 5 c9), vI (ρ 6 c9), vI (ρ 7 c9)]) (h' := h2) F (show h1 (aC ρ c9) = some (eO 5 [vI c9, vI u9, vI (ρ 4 c9), vI (ρ 5 c9), vI (ρ 6 c9), vI (ρ 7 c9)]) from (ci_c (ρ := (su ρ 3 c9 u9)) Ih1 (show 0 ≤ c9 ∧ c9 < ρ 2 0 ∧ c9 < 100 from by omega)).trans (congrArg some (by first | (simp [su, sw, fb_fi]; done) | (simp [su, sw, fb_fi]; rfl)))) fX8_112 ftX0_2 (nf_c (by omega)) (Nat.le_of_ble_eq_true rfl) rfl dX8_setRounding_31 eh2 ?_
  refine z_aload F dX8_setRounding_34 1 rfl ?_
  refine z_iload F dX8_setRounding_36 6 rfl ?_
  obtain ⟨h3, eh3, Ih3⟩ : ∃ z : Hp, hu h2 (aC ρ c9) (eO 5 [vI c9, vI u9, vI mo, vI le, vI (ρ 6 c9), vI (ρ 7 c9)]) = z ∧ CI G g (su (su (su ρ 3 c9 u9) 4 c9 mo) 5 c9 le) z := ⟨_, rfl, cP5 Ih2 (show 0 ≤ c9 ∧ c9 < ρ 2 0 ∧ c9 < 100 from by omega) (by first | (simp [su, sw, fb_fi]; done) | (simp [su, sw, fb_fi]; rfl))⟩
  refine z_put (fs := [vI c9, vI u9, vI mo, vI (ρ 5 c9), vI (ρ 6 c9), vI (ρ 7 c9)]) (fs' := [vI c9, vI u9, vI mo, vI le, vI (ρ 6 c9), vI (ρ 7 c9)]) (h' := h3) F (show h2 (aC ρ c9) = some (eO 5 [vI c9, vI u9, vI mo, vI (ρ 5 c9), vI (ρ 6 c9), vI (ρ 7 c9)]) from (ci_c (ρ := (su (su ρ 3 c9 u9) 4 c9 mo)) Ih2 (show 0 ≤ c9 ∧ c9 < ρ 2 0 ∧ c9 < 100 from by omega)).trans (congrArg some (by first | (simp [su, sw, fb_fi]; done) | (simp [su, sw, fb_fi]; rfl)))) fX8_115 ftX0_3 (nf_c (by omega)) (Nat.le_of_ble_eq_true rfl) rfl dX8_setRounding_38 eh3 ?_
  refine z_iload F dX8_setRounding_41 0 rfl ?_
  exact z_iretX (nf_i _) F hr (Nat.le_of_ble_eq_true rfl) (Nat.le_of_ble_eq_true rfl) dX8_setRounding_43 (⟨by omega, by omega, (su (su (su ρ 3 c9 u9) 4 c9 mo) 5 c9 le), rI (by first | rfl | omega), SA.refl _, Ih3⟩)
set_option maxRecDepth 100000 in
set_option maxHeartbeats 4000000 in
theorem mX8_setRate (l : Launch) (G : GG) (N0 : Nat) (h : Hp) (hl9 : l.stackTraces = false) (g : Int → Nat) (ρ : Sg) (c9 ra : Int) (hI : CI G g ρ h) (hV : MC ρ) (r_c9 : -2147483648 ≤ c9 ∧ c9 < 2147483648) (r_ra : -2147483648 ≤ ra ∧ ra < 2147483648) : CtX l G N0 yX8_setRate (Cond.code yX8_setRate cX8_setRate 5 (some FieldType.int) :: LW) ({ frames := 7, cells := 4, slots := 24, locals := 260 }) [vR (g 0), vI c9, vI ra] h (fun r h' => ¬ (¬ (0 ≤ c9 ∧ c9 < ρ 2 0)) ∧ ¬ (¬ (0 ≤ ra ∧ ra ≤ 50000)) ∧ ∃ ρ', r = some (vI (ρ 6 c9)) ∧ SA (su ρ 6 c9 ra) ρ' ∧ CI G g ρ' h') (fun E h' => ∃ ρ', SA ρ ρ' ∧ CI G g ρ' h' ∧ ((E = "java/lang/IndexOutOfBoundsException" ∧ (¬ (0 ≤ c9 ∧ c9 < ρ 2 0))) ∨ (E = "java/lang/IllegalArgumentException" ∧ ¬ (¬ (0 ≤ c9 ∧ c9 < ρ 2 0)) ∧ (¬ (0 ≤ ra ∧ ra ≤ 50000))))) := by
  refine ctX_of rfl rfl ?_
  intro p e s m args below meth c F hr htab
  have F : Fx p s m args meth c RX8 cX8_setRate 5 G N0 (cA h s.heap.size) := F
  obtain ⟨v0, v1, v2, v8, v16, v24, v39, vC, vE, vJ, vK, vB, vO⟩ := id hV
  have C9 := vC c9
  show Z _ _ _ _ _ _ _ _ _ _ _ _ _ _ _ _ _ _ _ [(0, vR (g 0)), (1, vI c9), (2, vI ra)] []
  refine z_aload_n F dX8_setRate_0 rfl 0 rfl ?_
  refine z_iload_n F dX8_setRate_1 rfl 1 rfl ?_
  refine z_xcallV (As := [vI c9]) (st := []) F htab (mX8_clientAt l G N0 h hl9 g ρ c9 hI hV (by omega)) cvX8_105 (ci_0 hI) (fun r9 h9 => by cases h9; rfl) rfl rfl ⟨Nat.le_of_ble_eq_true rfl, Nat.le_of_ble_eq_true rfl⟩ rfl ⟨Nat.le_of_ble_eq_true rfl, Nat.le_of_ble_eq_true rfl⟩ dX8_setRate_2 (fun E h9 hx => by obtain ⟨e1, rfl⟩ := hx; refine ⟨ρ, SA.refl _, hI, ?_⟩; obtain ⟨rfl, e2⟩ := e1; first | exact Or.inl ⟨rfl, by omega⟩ | exact Or.inr (⟨rfl, by omega, by omega⟩)) (Nat.le_of_ble_eq_true rfl) (Nat.le_of_ble_eq_true rfl) ?_
  rintro _ h9 ⟨f2_0, rfl, hh9⟩
  rw [hh9]
  clear hh9 h9
  show Z _ _ _ _ _ _ _ _ _ _ _ _ _ _ _ _ _ _ _ _ [vR (aC ρ c9)]
  refine z_astore_n (lv' := [(3, vR (aC ρ c9)), (0, vR (g 0)), (1, vI c9), (2, vI ra)]) F dX8_setRate_5 rfl (by decide) rfl ?_
  refine z_aload_n F dX8_setRate_6 rfl 1 rfl ?_
  refine z_iload_n F dX8_setRate_7 rfl 3 rfl ?_
  refine z_xcallV (As := [vI ra]) (st := []) F htab (mX8_requireRate l G N0 h hl9 g ρ ra hI hV (by omega)) cvX8_87 (ci_0 hI) (fun r9 h9 => by cases h9; rfl) rfl rfl ⟨Nat.le_of_ble_eq_true rfl, Nat.le_of_ble_eq_true rfl⟩ rfl ⟨Nat.le_of_ble_eq_true rfl, Nat.le_of_ble_eq_true rfl⟩ dX8_setRate_8 (fun E h9 hx => by obtain ⟨e1, rfl⟩ := hx; refine ⟨ρ, SA.refl _, hI, ?_⟩; obtain ⟨rfl, e2⟩ := e1; first | exact Or.inl ⟨rfl, by omega⟩ | exact Or.inr (⟨rfl, by omega, by omega⟩)) (Nat.le_of_ble_eq_true rfl) (Nat.le_of_ble_eq_true rfl) ?_
  rintro _ h9 ⟨f8_0, rfl, hh9⟩
  rw [hh9]
  clear hh9 h9
  show Z _ _ _ _ _ _ _ _ _ _ _ _ _ _ _ _ _ _ _ _ []
  refine z_aload_n F dX8_setRate_11 rfl 0 rfl ?_
  refine z_get (v := vI (ρ 6 c9)) F (ci_c hI (show 0 ≤ c9 ∧ c9 < ρ 2 0 ∧ c9 < 100 from by omega)) fX8_118 rfl dX8_setRate_12 ?_
  refine z_istore (lv' := [(4, vI (ρ 6 c9)), (3, vR (aC ρ c9)), (0, vR (g 0)), (1, vI c9), (2, vI ra)]) F dX8_setRate_15 (by decide) rfl ?_
  refine z_aload_n F dX8_setRate_17 rfl 1 rfl ?_
  refine z_iload_n F dX8_setRate_18 rfl 4 rfl ?_
  obtain ⟨h1, eh1, Ih1⟩ : ∃ z : Hp, hu h (aC ρ c9) (eO 5 [vI c9, vI (ρ 3 c9), vI (ρ 4 c9), vI (ρ 5 c9), vI ra, vI (ρ 7 c9)]) = z ∧ CI G g (su ρ 6 c9 ra) z := ⟨_, rfl, cP6 hI (show 0 ≤ c9 ∧ c9 < ρ 2 0 ∧ c9 < 100 from by omega) (by first | (simp [su, sw, fb_fi]; done) | (simp [su, sw, fb_fi]; rfl))⟩
  refine z_put (fs := [vI c9, vI (ρ 3 c9), vI (ρ 4 c9), vI (ρ 5 c9), vI (ρ 6 c9), vI (ρ 7 c9)]) (fs' := [vI c9, vI (ρ 3 c9), vI (ρ 4 c9), vI (ρ 5 c9), vI ra, vI (ρ 7 c9)]) (h' := h1) F (ci_c hI (show 0 ≤ c9 ∧ c9 < ρ 2 0 ∧ c9 < 100 from by omega)) fX8_118 ftX0_4 (nf_i _) (Nat.le_of_ble_eq_true rfl) rfl dX8_setRate_19 eh1 ?_
  refine z_iload F dX8_setRate_22 0 rfl ?_
  exact z_iretX (nf_i _) F hr (Nat.le_of_ble_eq_true rfl) (Nat.le_of_ble_eq_true rfl) dX8_setRate_24 (⟨by omega, by omega, (su ρ 6 c9 ra), rI (by first | rfl | omega), SA.refl _, Ih1⟩)
set_option maxRecDepth 100000 in
set_option maxHeartbeats 4000000 in
theorem mX8_setBudget (l : Launch) (G : GG) (N0 : Nat) (h : Hp) (hl9 : l.stackTraces = false) (g : Int → Nat) (ρ : Sg) (c9 ra : Int) (hI : CI G g ρ h) (hV : MC ρ) (r_c9 : -2147483648 ≤ c9 ∧ c9 < 2147483648) (r_ra : -2147483648 ≤ ra ∧ ra < 2147483648) : CtX l G N0 yX8_setBudget (Cond.code yX8_setBudget cX8_setBudget 5 (some FieldType.int) :: LW) ({ frames := 7, cells := 4, slots := 24, locals := 260 }) [vR (g 0), vI c9, vI ra] h (fun r h' => ¬ (¬ (0 ≤ c9 ∧ c9 < ρ 2 0)) ∧ ¬ (¬ (0 ≤ ra ∧ ra ≤ 9999)) ∧ ∃ ρ', r = some (vI (ρ 7 c9)) ∧ SA (su ρ 7 c9 ra) ρ' ∧ CI G g ρ' h') (fun E h' => ∃ ρ', SA ρ ρ' ∧ CI G g ρ' h' ∧ ((E = "java/lang/IndexOutOfBoundsException" ∧ (¬ (0 ≤ c9 ∧ c9 < ρ 2 0))) ∨ (E = "java/lang/IllegalArgumentException" ∧ ¬ (¬ (0 ≤ c9 ∧ c9 < ρ 2 0)) ∧ (¬ (0 ≤ ra ∧ ra ≤ 9999))))) := by
  refine ctX_of rfl rfl ?_
  intro p e s m args below meth c F hr htab
  have F : Fx p s m args meth c RX8 cX8_setBudget 5 G N0 (cA h s.heap.size) := F
  obtain ⟨v0, v1, v2, v8, v16, v24, v39, vC, vE, vJ, vK, vB, vO⟩ := id hV
  have C9 := vC c9
  show Z _ _ _ _ _ _ _ _ _ _ _ _ _ _ _ _ _ _ _ [(0, vR (g 0)), (1, vI c9), (2, vI ra)] []
  refine z_aload_n F dX8_setBudget_0 rfl 0 rfl ?_
  refine z_iload_n F dX8_setBudget_1 rfl 1 rfl ?_
  refine z_xcallV (As := [vI c9]) (st := []) F htab (mX8_clientAt l G N0 h hl9 g ρ c9 hI hV (by omega)) cvX8_105 (ci_0 hI) (fun r9 h9 => by cases h9; rfl) rfl rfl ⟨Nat.le_of_ble_eq_true rfl, Nat.le_of_ble_eq_true rfl⟩ rfl ⟨Nat.le_of_ble_eq_true rfl, Nat.le_of_ble_eq_true rfl⟩ dX8_setBudget_2 (fun E h9 hx => by obtain ⟨e1, rfl⟩ := hx; refine ⟨ρ, SA.refl _, hI, ?_⟩; obtain ⟨rfl, e2⟩ := e1; first | exact Or.inl ⟨rfl, by omega⟩ | exact Or.inr (⟨rfl, by omega, by omega⟩)) (Nat.le_of_ble_eq_true rfl) (Nat.le_of_ble_eq_true rfl) ?_
  rintro _ h9 ⟨f2_0, rfl, hh9⟩
  rw [hh9]
  clear hh9 h9
  show Z _ _ _ _ _ _ _ _ _ _ _ _ _ _ _ _ _ _ _ _ [vR (aC ρ c9)]
  refine z_astore_n (lv' := [(3, vR (aC ρ c9)), (0, vR (g 0)), (1, vI c9), (2, vI ra)]) F dX8_setBudget_5 rfl (by decide) rfl ?_
  refine z_iload_n F dX8_setBudget_6 rfl 3 rfl ?_
  refine z_if_lt (tgt := 17) F dX8_setBudget_7 (by decide) (by omega) (fun c7 => ?_) (fun c7 => ?_)
  · exact z_throwC (names := ["java/lang/RuntimeException", "java/lang/Exception"]) F htab hl9 ⟨by decide +kernel, fitN⟩ q734 q16 hatA (List.mem_of_getElem? (i := 9) rfl) dX8_setBudget_17 dX8_setBudget_20 dX8_setBudget_21 dX8_setBudget_23 dX8_setBudget_26 ⟨Nat.le_of_ble_eq_true rfl, Nat.le_of_ble_eq_true rfl, Nat.le_of_ble_eq_true rfl, Nat.le_of_ble_eq_true rfl⟩ (Nat.le_of_ble_eq_true rfl) (Nat.le_of_ble_eq_true rfl) (⟨ρ, SA.refl _, hI, by first | exact Or.inl ⟨rfl, by omega⟩ | exact Or.inr (⟨rfl, by omega, by omega⟩)⟩)
  · refine z_iload_n F dX8_setBudget_10 rfl 3 rfl ?_
    refine z_sipush F dX8_setBudget_11 (by decide) ?_
    refine z_icmp_le (tgt := 27) F dX8_setBudget_14 (by decide) (by omega) (by decide) (fun c14 => ?_) (fun c14 => ?_)
    · refine z_aload_n F dX8_setBudget_27 rfl 0 rfl ?_
      refine z_get (v := vI (ρ 7 c9)) F (ci_c hI (show 0 ≤ c9 ∧ c9 < ρ 2 0 ∧ c9 < 100 from by omega)) fX8_123 rfl dX8_setBudget_28 ?_
      refine z_istore (lv' := [(4, vI (ρ 7 c9)), (3, vR (aC ρ c9)), (0, vR (g 0)), (1, vI c9), (2, vI ra)]) F dX8_setBudget_31 (by decide) rfl ?_
      refine z_aload_n F dX8_setBudget_33 rfl 1 rfl ?_
      refine z_iload_n F dX8_setBudget_34 rfl 4 rfl ?_
      obtain ⟨h1, eh1, Ih1⟩ : ∃ z : Hp, hu h (aC ρ c9) (eO 5 [vI c9, vI (ρ 3 c9), vI (ρ 4 c9), vI (ρ 5 c9), vI (ρ 6 c9), vI ra]) = z ∧ CI G g (su ρ 7 c9 ra) z := ⟨_, rfl, cP7 hI (show 0 ≤ c9 ∧ c9 < ρ 2 0 ∧ c9 < 100 from by omega) (by first | (simp [su, sw, fb_fi]; done) | (simp [su, sw, fb_fi]; rfl))⟩
      refine z_put (fs := [vI c9, vI (ρ 3 c9), vI (ρ 4 c9), vI (ρ 5 c9), vI (ρ 6 c9), vI (ρ 7 c9)]) (fs' := [vI c9, vI (ρ 3 c9), vI (ρ 4 c9), vI (ρ 5 c9), vI (ρ 6 c9), vI ra]) (h' := h1) F (ci_c hI (show 0 ≤ c9 ∧ c9 < ρ 2 0 ∧ c9 < 100 from by omega)) fX8_123 ftX0_5 (nf_i _) (Nat.le_of_ble_eq_true rfl) rfl dX8_setBudget_35 eh1 ?_
      refine z_iload F dX8_setBudget_38 0 rfl ?_
      exact z_iretX (nf_i _) F hr (Nat.le_of_ble_eq_true rfl) (Nat.le_of_ble_eq_true rfl) dX8_setBudget_40 (⟨by omega, by omega, (su ρ 7 c9 ra), rI (by first | rfl | omega), SA.refl _, Ih1⟩)
    · exact z_throwC (names := ["java/lang/RuntimeException", "java/lang/Exception"]) F htab hl9 ⟨by decide +kernel, fitN⟩ q734 q16 hatA (List.mem_of_getElem? (i := 9) rfl) dX8_setBudget_17 dX8_setBudget_20 dX8_setBudget_21 dX8_setBudget_23 dX8_setBudget_26 ⟨Nat.le_of_ble_eq_true rfl, Nat.le_of_ble_eq_true rfl, Nat.le_of_ble_eq_true rfl, Nat.le_of_ble_eq_true rfl⟩ (Nat.le_of_ble_eq_true rfl) (Nat.le_of_ble_eq_true rfl) (⟨ρ, SA.refl _, hI, by first | exact Or.inl ⟨rfl, by omega⟩ | exact Or.inr (⟨rfl, by omega, by omega⟩)⟩)
set_option maxRecDepth 100000 in
set_option maxHeartbeats 4000000 in
theorem mX8_stop (l : Launch) (G : GG) (N0 : Nat) (h : Hp) (hl9 : l.stackTraces = false) (g : Int → Nat) (ρ : Sg) (e9 : Int) (hI : CI G g ρ h) (hV : MC ρ) (r_e9 : -2147483648 ≤ e9 ∧ e9 < 2147483648) : CtX l G N0 yX8_stop (Cond.code yX8_stop cX8_stop 3 (some FieldType.int) :: LW) ({ frames := 7, cells := 4, slots := 24, locals := 260 }) [vR (g 0), vI e9] h (fun r h' => ¬ (¬ (0 ≤ e9 ∧ e9 < ρ 8 0)) ∧ ¬ (ρ 12 e9 ≠ 114) ∧ ∃ ρ', r = some (vI (ρ 11 e9 - ρ 10 e9)) ∧ SA (su ρ 12 e9 101) ρ' ∧ CI G g ρ' h') (fun E h' => ∃ ρ', SA ρ ρ' ∧ CI G g ρ' h' ∧ ((E = "java/lang/IndexOutOfBoundsException" ∧ (¬ (0 ≤ e9 ∧ e9 < ρ 8 0))) ∨ (E = "java/lang/IllegalStateException" ∧ ¬ (¬ (0 ≤ e9 ∧ e9 < ρ 8 0)) ∧ (ρ 12 e9 ≠ 114)))) := by
  refine ctX_of rfl rfl ?_
  intro p e s m args below meth c F hr htab
  have F : Fx p s m args meth c RX8 cX8_stop 3 G N0 (cA h s.heap.size) := F
  obtain ⟨v0, v1, v2, v8, v16, v24, v39, vC, vE, vJ, vK, vB, vO⟩ := id hV
  have E9 := vE e9
  show Z _ _ _ _ _ _ _ _ _ _ _ _ _ _ _ _ _ _ _ [(0, vR (g 0)), (1, vI e9)] []
  refine z_aload_n F dX8_stop_0 rfl 0 rfl ?_
  refine z_iload_n F dX8_stop_1 rfl 1 rfl ?_
  refine z_xcallV (As := [vI e9]) (st := []) F htab (mX8_entryAt l G N0 h hl9 g ρ e9 hI hV (by omega)) cvX8_138 (ci_0 hI) (fun r9 h9 => by cases h9; rfl) rfl rfl ⟨Nat.le_of_ble_eq_true rfl, Nat.le_of_ble_eq_true rfl⟩ rfl ⟨Nat.le_of_ble_eq_true rfl, Nat.le_of_ble_eq_true rfl⟩ dX8_stop_2 (fun E h9 hx => by obtain ⟨e1, rfl⟩ := hx; refine ⟨ρ, SA.refl _, hI, ?_⟩; obtain ⟨rfl, e2⟩ := e1; first | exact Or.inl ⟨rfl, by omega⟩ | exact Or.inr (⟨rfl, by omega, by omega⟩)) (Nat.le_of_ble_eq_true rfl) (Nat.le_of_ble_eq_true rfl) ?_
  rintro _ h9 ⟨f2_0, rfl, hh9⟩
  rw [hh9]
  clear hh9 h9
  show Z _ _ _ _ _ _ _ _ _ _ _ _ _ _ _ _ _ _ _ _ [vR (aE ρ e9)]
  refine z_astore_n (lv' := [(2, vR (aE ρ e9)), (0, vR (g 0)), (1, vI e9)]) F dX8_stop_5 rfl (by decide) rfl ?_
  refine z_aload_n F dX8_stop_6 rfl 0 rfl ?_
  refine z_get (v := vI (ρ 12 e9)) F (ci_e hI (show 0 ≤ e9 ∧ e9 < ρ 8 0 ∧ e9 < 100 from by omega)) fX8_142 rfl dX8_stop_7 ?_
  refine z_bipush F dX8_stop_10 (by decide) ?_
  refine z_icmp_eq (tgt := 25) F dX8_stop_12 (by decide) (by omega) (by decide) (fun c12 => ?_) (fun c12 => ?_)
  · refine z_aload_n F dX8_stop_25 rfl 0 rfl ?_
    refine z_bipush F dX8_stop_26 (by decide) ?_
    obtain ⟨h1, eh1, Ih1⟩ : ∃ z : Hp, hu h (aE ρ e9) (eO 7 [vI e9, vR (aC ρ (ρ 9 e9)), vI (ρ 10 e9), vI (ρ 11 e9), vI 101, vI (ρ 13 e9)]) = z ∧ CI G g (su ρ 12 e9 101) z := ⟨_, rfl, cP12 hI (show 0 ≤ e9 ∧ e9 < ρ 8 0 ∧ e9 < 100 from by omega) (by first | (simp [su, sw, fb_fi]; done) | (simp [su, sw, fb_fi]; rfl))⟩
    refine z_put (fs := [vI e9, vR (aC ρ (ρ 9 e9)), vI (ρ 10 e9), vI (ρ 11 e9), vI (ρ 12 e9), vI (ρ 13 e9)]) (fs' := [vI e9, vR (aC ρ (ρ 9 e9)), vI (ρ 10 e9), vI (ρ 11 e9), vI 101, vI (ρ 13 e9)]) (h' := h1) F (ci_e hI (show 0 ≤ e9 ∧ e9 < ρ 8 0 ∧ e9 < 100 from by omega)) fX8_142 ftX2_4 (nf_c (by omega)) (Nat.le_of_ble_eq_true rfl) rfl dX8_stop_28 eh1 ?_
    refine z_aload_n F dX8_stop_31 rfl 0 rfl ?_
    refine z_get (v := vI (ρ 11 e9)) F (show h1 (aE ρ e9) = some (eO 7 [vI e9, vR (aC ρ (ρ 9 e9)), vI (ρ 10 e9), vI (ρ 11 e9), vI 101, vI (ρ 13 e9)]) from (ci_e (ρ := (su ρ 12 e9 101)) Ih1 (show 0 ≤ e9 ∧ e9 < ρ 8 0 ∧ e9 < 100 from by omega)).trans (congrArg some (by first | (simp [su, sw, fb_fi]; done) | (simp [su, sw, fb_fi]; rfl)))) fX8_149 rfl dX8_stop_32 ?_
    refine z_aload_n F dX8_stop_35 rfl 0 rfl ?_
    refine z_get (v := vI (ρ 10 e9)) F (show h1 (aE ρ e9) = some (eO 7 [vI e9, vR (aC ρ (ρ 9 e9)), vI (ρ 10 e9), vI (ρ 11 e9), vI 101, vI (ρ 13 e9)]) from (ci_e (ρ := (su ρ 12 e9 101)) Ih1 (show 0 ≤ e9 ∧ e9 < ρ 8 0 ∧ e9 < 100 from by omega)).trans (congrArg some (by first | (simp [su, sw, fb_fi]; done) | (simp [su, sw, fb_fi]; rfl)))) fX8_152 rfl dX8_stop_36 ?_
    refine z_isub F dX8_stop_39 ?_
    exact z_iretX (nf_i _) F hr (Nat.le_of_ble_eq_true rfl) (Nat.le_of_ble_eq_true rfl) dX8_stop_40 (⟨by omega, by omega, (su ρ 12 e9 101), rI (by first | rfl | omega), SA.refl _, Ih1⟩)
  · exact z_throwC (names := ["java/lang/RuntimeException", "java/lang/Exception"]) F htab hl9 ⟨by decide +kernel, fitN⟩ q737 q17 hatS (List.mem_of_getElem? (i := 13) rfl) dX8_stop_15 dX8_stop_18 dX8_stop_19 dX8_stop_21 dX8_stop_24 ⟨Nat.le_of_ble_eq_true rfl, Nat.le_of_ble_eq_true rfl, Nat.le_of_ble_eq_true rfl, Nat.le_of_ble_eq_true rfl⟩ (Nat.le_of_ble_eq_true rfl) (Nat.le_of_ble_eq_true rfl) (⟨ρ, SA.refl _, hI, by first | exact Or.inl ⟨rfl, by omega⟩ | exact Or.inr (⟨rfl, by omega, by omega⟩)⟩)
set_option maxRecDepth 100000 in
set_option maxHeartbeats 4000000 in
theorem mX8_setStart (l : Launch) (G : GG) (N0 : Nat) (h : Hp) (hl9 : l.stackTraces = false) (g : Int → Nat) (ρ : Sg) (e9 m9 : Int) (hI : CI G g ρ h) (hV : MC ρ) (r_e9 : -2147483648 ≤ e9 ∧ e9 < 2147483648) (r_m9 : -2147483648 ≤ m9 ∧ m9 < 2147483648) : CtX l G N0 yX8_setStart (Cond.code yX8_setStart cX8_setStart 5 (some FieldType.int) :: LW) ({ frames := 7, cells := 4, slots := 24, locals := 260 }) [vR (g 0), vI e9, vI m9] h (fun r h' => ¬ (¬ (0 ≤ e9 ∧ e9 < ρ 8 0)) ∧ ¬ (¬ (ρ 12 e9 = 114 ∨ ρ 12 e9 = 101)) ∧ ¬ (¬ (0 ≤ m9 ∧ m9 ≤ ρ 11 e9)) ∧ ∃ ρ', r = some (vI (ρ 10 e9)) ∧ SA (su ρ 10 e9 m9) ρ' ∧ CI G g ρ' h') (fun E h' => ∃ ρ', SA ρ ρ' ∧ CI G g ρ' h' ∧ ((E = "java/lang/IndexOutOfBoundsException" ∧ (¬ (0 ≤ e9 ∧ e9 < ρ 8 0))) ∨ (E = "java/lang/IllegalStateException" ∧ ¬ (¬ (0 ≤ e9 ∧ e9 < ρ 8 0)) ∧ (¬ (ρ 12 e9 = 114 ∨ ρ 12 e9 = 101))) ∨ (E = "java/lang/IllegalArgumentException" ∧ ¬ (¬ (0 ≤ e9 ∧ e9 < ρ 8 0)) ∧ ¬ (¬ (ρ 12 e9 = 114 ∨ ρ 12 e9 = 101)) ∧ (¬ (0 ≤ m9 ∧ m9 ≤ ρ 11 e9))))) := by
  refine ctX_of rfl rfl ?_
  intro p e s m args below meth c F hr htab
  have F : Fx p s m args meth c RX8 cX8_setStart 5 G N0 (cA h s.heap.size) := F
  obtain ⟨v0, v1, v2, v8, v16, v24, v39, vC, vE, vJ, vK, vB, vO⟩ := id hV
  have E9 := vE e9
  show Z _ _ _ _ _ _ _ _ _ _ _ _ _ _ _ _ _ _ _ [(0, vR (g 0)), (1, vI e9), (2, vI m9)] []
  refine z_aload_n F dX8_setStart_0 rfl 0 rfl ?_
  refine z_iload_n F dX8_setStart_1 rfl 1 rfl ?_
  refine z_xcallV (As := [vI e9]) (st := []) F htab (mX8_entryAt l G N0 h hl9 g ρ e9 hI hV (by omega)) cvX8_138 (ci_0 hI) (fun r9 h9 => by cases h9; rfl) rfl rfl ⟨Nat.le_of_ble_eq_true rfl, Nat.le_of_ble_eq_true rfl⟩ rfl ⟨Nat.le_of_ble_eq_true rfl, Nat.le_of_ble_eq_true rfl⟩ dX8_setStart_2 (fun E h9 hx => by obtain ⟨e1, rfl⟩ := hx; refine ⟨ρ, SA.refl _, hI, ?_⟩; obtain ⟨rfl, e2⟩ := e1; first | exact Or.inl ⟨rfl, by omega⟩ | exact Or.inr (Or.inl ⟨rfl, by omega, by omega⟩) | exact Or.inr (Or.inr (⟨rfl, by omega, by omega, by omega⟩))) (Nat.le_of_ble_eq_true rfl) (Nat.le_of_ble_eq_true rfl) ?_
  rintro _ h9 ⟨f2_0, rfl, hh9⟩
  rw [hh9]
  clear hh9 h9
  show Z _ _ _ _ _ _ _ _ _ _ _ _ _ _ _ _ _ _ _ _ [vR (aE ρ e9)]
  refine z_astore_n (lv' := [(3, vR (aE ρ e9)), (0, vR (g 0)), (1, vI e9), (2, vI m9)]) F dX8_setStart_5 rfl (by decide) rfl ?_
  refine z_aload_n F dX8_setStart_6 rfl 1 rfl ?_
  refine z_aload_n F dX8_setStart_7 rfl 0 rfl ?_
  refine z_xcallV (As := [vR (aE ρ e9)]) (st := []) F htab (mX8_requireOpen l G N0 h hl9 g ρ e9 hI hV (by omega)) cvX8_157 (ci_0 hI) (fun r9 h9 => by cases h9; rfl) rfl rfl ⟨Nat.le_of_ble_eq_true rfl, Nat.le_of_ble_eq_true rfl⟩ rfl ⟨Nat.le_of_ble_eq_true rfl, Nat.le_of_ble_eq_true rfl⟩ dX8_setStart_8 (fun E h9 hx => by obtain ⟨e1, rfl⟩ := hx; refine ⟨ρ, SA.refl _, hI, ?_⟩; obtain ⟨rfl, e2⟩ := e1; first | exact Or.inl ⟨rfl, by omega⟩ | exact Or.inr (Or.inl ⟨rfl, by omega, by omega⟩) | exact Or.inr (Or.inr (⟨rfl, by omega, by omega, by omega⟩))) (Nat.le_of_ble_eq_true rfl) (Nat.le_of_ble_eq_true rfl) ?_
  rintro _ h9 ⟨f8_0, rfl, hh9⟩
  rw [hh9]
  clear hh9 h9
  show Z _ _ _ _ _ _ _ _ _ _ _ _ _ _ _ _ _ _ _ _ []
  refine z_iload_n F dX8_setStart_11 rfl 3 rfl ?_
  refine z_if_lt (tgt := 23) F dX8_setStart_12 (by decide) (by omega) (fun c12 => ?_) (fun c12 => ?_)
  · exact z_throwC (names := ["java/lang/RuntimeException", "java/lang/Exception"]) F htab hl9 ⟨by decide +kernel, fitN⟩ q734 q16 hatA (List.mem_of_getElem? (i := 16) rfl) dX8_setStart_23 dX8_setStart_26 dX8_setStart_27 dX8_setStart_29 dX8_setStart_32 ⟨Nat.le_of_ble_eq_true rfl, Nat.le_of_ble_eq_true rfl, Nat.le_of_ble_eq_true rfl, Nat.le_of_ble_eq_true rfl⟩ (Nat.le_of_ble_eq_true rfl) (Nat.le_of_ble_eq_true rfl) (⟨ρ, SA.refl _, hI, by first | exact Or.inl ⟨rfl, by omega⟩ | exact Or.inr (Or.inl ⟨rfl, by omega, by omega⟩) | exact Or.inr (Or.inr (⟨rfl, by omega, by omega, by omega⟩))⟩)
  · refine z_iload_n F dX8_setStart_15 rfl 3 rfl ?_
    refine z_aload_n F dX8_setStart_16 rfl 0 rfl ?_
    refine z_get (v := vI (ρ 11 e9)) F (ci_e hI (show 0 ≤ e9 ∧ e9 < ρ 8 0 ∧ e9 < 100 from by omega)) fX8_149 rfl dX8_setStart_17 ?_
    refine z_icmp_le (tgt := 33) F dX8_setStart_20 (by decide) (by omega) (by omega) (fun c20 => ?_) (fun c20 => ?_)
    · refine z_aload_n F dX8_setStart_33 rfl 0 rfl ?_
      refine z_get (v := vI (ρ 10 e9)) F (ci_e hI (show 0 ≤ e9 ∧ e9 < ρ 8 0 ∧ e9 < 100 from by omega)) fX8_152 rfl dX8_setStart_34 ?_
      refine z_istore (lv' := [(4, vI (ρ 10 e9)), (3, vR (aE ρ e9)), (0, vR (g 0)), (1, vI e9), (2, vI m9)]) F dX8_setStart_37 (by decide) rfl ?_
      refine z_aload_n F dX8_setStart_39 rfl 1 rfl ?_
      refine z_iload_n F dX8_setStart_40 rfl 4 rfl ?_
      obtain ⟨h1, eh1, Ih1⟩ : ∃ z : Hp, hu h (aE ρ e9) (eO 7 [vI e9, vR (aC ρ (ρ 9 e9)), vI m9, vI (ρ 11 e9), vI (ρ 12 e9), vI (ρ 13 e9)]) = z ∧ CI G g (su ρ 10 e9 m9) z := ⟨_, rfl, cP10 hI (show 0 ≤ e9 ∧ e9 < ρ 8 0 ∧ e9 < 100 from by omega) (by first | (simp [su, sw, fb_fi]; done) | (simp [su, sw, fb_fi]; rfl))⟩
      refine z_put (fs := [vI e9, vR (aC ρ (ρ 9 e9)), vI (ρ 10 e9), vI (ρ 11 e9), vI (ρ 12 e9), vI (ρ 13 e9)]) (fs' := [vI e9, vR (aC ρ (ρ 9 e9)), vI m9, vI (ρ 11 e9), vI (ρ 12 e9), vI (ρ 13 e9)]) (h' := h1) F (ci_e hI (show 0 ≤ e9 ∧ e9 < ρ 8 0 ∧ e9 < 100 from by omega)) fX8_152 ftX2_2 (nf_i _) (Nat.le_of_ble_eq_true rfl) rfl dX8_setStart_41 eh1 ?_
      refine z_iload F dX8_setStart_44 0 rfl ?_
      exact z_iretX (nf_i _) F hr (Nat.le_of_ble_eq_true rfl) (Nat.le_of_ble_eq_true rfl) dX8_setStart_46 (⟨by omega, by omega, by omega, (su ρ 10 e9 m9), rI (by first | rfl | omega), SA.refl _, Ih1⟩)
    · exact z_throwC (names := ["java/lang/RuntimeException", "java/lang/Exception"]) F htab hl9 ⟨by decide +kernel, fitN⟩ q734 q16 hatA (List.mem_of_getElem? (i := 16) rfl) dX8_setStart_23 dX8_setStart_26 dX8_setStart_27 dX8_setStart_29 dX8_setStart_32 ⟨Nat.le_of_ble_eq_true rfl, Nat.le_of_ble_eq_true rfl, Nat.le_of_ble_eq_true rfl, Nat.le_of_ble_eq_true rfl⟩ (Nat.le_of_ble_eq_true rfl) (Nat.le_of_ble_eq_true rfl) (⟨ρ, SA.refl _, hI, by first | exact Or.inl ⟨rfl, by omega⟩ | exact Or.inr (Or.inl ⟨rfl, by omega, by omega⟩) | exact Or.inr (Or.inr (⟨rfl, by omega, by omega, by omega⟩))⟩)
set_option maxRecDepth 100000 in
set_option maxHeartbeats 4000000 in
theorem mX8_setEnd (l : Launch) (G : GG) (N0 : Nat) (h : Hp) (hl9 : l.stackTraces = false) (g : Int → Nat) (ρ : Sg) (e9 m9 : Int) (hI : CI G g ρ h) (hV : MC ρ) (r_e9 : -2147483648 ≤ e9 ∧ e9 < 2147483648) (r_m9 : -2147483648 ≤ m9 ∧ m9 < 2147483648) : CtX l G N0 yX8_setEnd (Cond.code yX8_setEnd cX8_setEnd 5 (some FieldType.int) :: LW) ({ frames := 7, cells := 4, slots := 24, locals := 260 }) [vR (g 0), vI e9, vI m9] h (fun r h' => ¬ (¬ (0 ≤ e9 ∧ e9 < ρ 8 0)) ∧ ¬ (ρ 12 e9 ≠ 101) ∧ ¬ (¬ (ρ 10 e9 ≤ m9 ∧ m9 ≤ ρ 0 0)) ∧ ∃ ρ', r = some (vI (ρ 11 e9)) ∧ SA (su ρ 11 e9 m9) ρ' ∧ CI G g ρ' h') (fun E h' => ∃ ρ', SA ρ ρ' ∧ CI G g ρ' h' ∧ ((E = "java/lang/IndexOutOfBoundsException" ∧ (¬ (0 ≤ e9 ∧ e9 < ρ 8 0))) ∨ (E = "java/lang/IllegalStateException" ∧ ¬ (¬ (0 ≤ e9 ∧ e9 < ρ 8 0)) ∧ (ρ 12 e9 ≠ 101)) ∨ (E = "java/lang/IllegalArgumentException" ∧ ¬ (¬ (0 ≤ e9 ∧ e9 < ρ 8 0)) ∧ ¬ (ρ 12 e9 ≠ 101) ∧ (¬ (ρ 10 e9 ≤ m9 ∧ m9 ≤ ρ 0 0))))) := by
  refine ctX_of rfl rfl ?_
  intro p e s m args below meth c F hr htab
  have F : Fx p s m args meth c RX8 cX8_setEnd 5 G N0 (cA h s.heap.size) := F
  obtain ⟨v0, v1, v2, v8, v16, v24, v39, vC, vE, vJ, vK, vB, vO⟩ := id hV
  have E9 := vE e9
  show Z _ _ _ _ _ _ _ _ _ _ _ _ _ _ _ _ _ _ _ [(0, vR (g 0)), (1, vI e9), (2, vI m9)] []
  refine z_aload_n F dX8_setEnd_0 rfl 0 rfl ?_
  refine z_iload_n F dX8_setEnd_1 rfl 1 rfl ?_
  refine z_xcallV (As := [vI e9]) (st := []) F htab (mX8_entryAt l G N0 h hl9 g ρ e9 hI hV (by omega)) cvX8_138 (ci_0 hI) (fun r9 h9 => by cases h9; rfl) rfl rfl ⟨Nat.le_of_ble_eq_true rfl, Nat.le_of_ble_eq_true rfl⟩ rfl ⟨Nat.le_of_ble_eq_true rfl, Nat.le_of_ble_eq_true rfl⟩ dX8_setEnd_2 (fun E h9 hx => by obtain ⟨e1, rfl⟩ := hx; refine ⟨ρ, SA.refl _, hI, ?_⟩; obtain ⟨rfl, e2⟩ := e1; first | exact Or.inl ⟨rfl, by omega⟩ | exact Or.inr (Or.inl ⟨rfl, by omega, by omega⟩) | exact Or.inr (Or.inr (⟨rfl, by omega, by omega, by omega⟩))) (Nat.le_of_ble_eq_true rfl) (Nat.le_of_ble_eq_true rfl) ?_
  rintro _ h9 ⟨f2_0, rfl, hh9⟩
  rw [hh9]
  clear hh9 h9
  show Z _ _ _ _ _ _ _ _ _ _ _ _ _ _ _ _ _ _ _ _ [vR (aE ρ e9)]
  refine z_astore_n (lv' := [(3, vR (aE ρ e9)), (0, vR (g 0)), (1, vI e9), (2, vI m9)]) F dX8_setEnd_5 rfl (by decide) rfl ?_
  refine z_aload_n F dX8_setEnd_6 rfl 0 rfl ?_
  refine z_get (v := vI (ρ 12 e9)) F (ci_e hI (show 0 ≤ e9 ∧ e9 < ρ 8 0 ∧ e9 < 100 from by omega)) fX8_142 rfl dX8_setEnd_7 ?_
  refine z_bipush F dX8_setEnd_10 (by decide) ?_
  refine z_icmp_eq (tgt := 25) F dX8_setEnd_12 (by decide) (by omega) (by decide) (fun c12 => ?_) (fun c12 => ?_)
  · refine z_iload_n F dX8_setEnd_25 rfl 3 rfl ?_
    refine z_aload_n F dX8_setEnd_26 rfl 0 rfl ?_
    refine z_get (v := vI (ρ 10 e9)) F (ci_e hI (show 0 ≤ e9 ∧ e9 < ρ 8 0 ∧ e9 < 100 from by omega)) fX8_152 rfl dX8_setEnd_27 ?_
    refine z_icmp_lt (tgt := 44) F dX8_setEnd_30 (by decide) (by omega) (by omega) (fun c30 => ?_) (fun c30 => ?_)
    · exact z_throwC (names := ["java/lang/RuntimeException", "java/lang/Exception"]) F htab hl9 ⟨by decide +kernel, fitN⟩ q734 q16 hatA (List.mem_of_getElem? (i := 18) rfl) dX8_setEnd_44 dX8_setEnd_47 dX8_setEnd_48 dX8_setEnd_50 dX8_setEnd_53 ⟨Nat.le_of_ble_eq_true rfl, Nat.le_of_ble_eq_true rfl, Nat.le_of_ble_eq_true rfl, Nat.le_of_ble_eq_true rfl⟩ (Nat.le_of_ble_eq_true rfl) (Nat.le_of_ble_eq_true rfl) (⟨ρ, SA.refl _, hI, by first | exact Or.inl ⟨rfl, by omega⟩ | exact Or.inr (Or.inl ⟨rfl, by omega, by omega⟩) | exact Or.inr (Or.inr (⟨rfl, by omega, by omega, by omega⟩))⟩)
    · refine z_iload_n F dX8_setEnd_33 rfl 3 rfl ?_
      refine z_aload_n F dX8_setEnd_34 rfl 1 rfl ?_
      refine z_get (v := vR (g 1)) F (ci_0 hI) fX8_10 rfl dX8_setEnd_35 ?_
      refine z_get (v := vI (ρ 0 0)) F (ci_1 hI) fX8_57 rfl dX8_setEnd_38 ?_
      refine z_icmp_le (tgt := 54) F dX8_setEnd_41 (by decide) (by omega) (by omega) (fun c41 => ?_) (fun c41 => ?_)
      · refine z_aload_n F dX8_setEnd_54 rfl 0 rfl ?_
        refine z_get (v := vI (ρ 11 e9)) F (ci_e hI (show 0 ≤ e9 ∧ e9 < ρ 8 0 ∧ e9 < 100 from by omega)) fX8_149 rfl dX8_setEnd_55 ?_
        refine z_istore (lv' := [(4, vI (ρ 11 e9)), (3, vR (aE ρ e9)), (0, vR (g 0)), (1, vI e9), (2, vI m9)]) F dX8_setEnd_58 (by decide) rfl ?_
        refine z_aload_n F dX8_setEnd_60 rfl 1 rfl ?_
        refine z_iload_n F dX8_setEnd_61 rfl 4 rfl ?_
        obtain ⟨h1, eh1, Ih1⟩ : ∃ z : Hp, hu h (aE ρ e9) (eO 7 [vI e9, vR (aC ρ (ρ 9 e9)), vI (ρ 10 e9), vI m9, vI (ρ 12 e9), vI (ρ 13 e9)]) = z ∧ CI G g (su ρ 11 e9 m9) z := ⟨_, rfl, cP11 hI (show 0 ≤ e9 ∧ e9 < ρ 8 0 ∧ e9 < 100 from by omega) (by first | (simp [su, sw, fb_fi]; done) | (simp [su, sw, fb_fi]; rfl))⟩
        refine z_put (fs := [vI e9, vR (aC ρ (ρ 9 e9)), vI (ρ 10 e9), vI (ρ 11 e9), vI (ρ 12 e9), vI (ρ 13 e9)]) (fs' := [vI e9, vR (aC ρ (ρ 9 e9)), vI (ρ 10 e9), vI m9, vI (ρ 12 e9), vI (ρ 13 e9)]) (h' := h1) F (ci_e hI (show 0 ≤ e9 ∧ e9 < ρ 8 0 ∧ e9 < 100 from by omega)) fX8_149 ftX2_3 (nf_i _) (Nat.le_of_ble_eq_true rfl) rfl dX8_setEnd_62 eh1 ?_
        refine z_iload F dX8_setEnd_65 0 rfl ?_
        exact z_iretX (nf_i _) F hr (Nat.le_of_ble_eq_true rfl) (Nat.le_of_ble_eq_true rfl) dX8_setEnd_67 (⟨by omega, by omega, by omega, (su ρ 11 e9 m9), rI (by first | rfl | omega), SA.refl _, Ih1⟩)
      · exact z_throwC (names := ["java/lang/RuntimeException", "java/lang/Exception"]) F htab hl9 ⟨by decide +kernel, fitN⟩ q734 q16 hatA (List.mem_of_getElem? (i := 18) rfl) dX8_setEnd_44 dX8_setEnd_47 dX8_setEnd_48 dX8_setEnd_50 dX8_setEnd_53 ⟨Nat.le_of_ble_eq_true rfl, Nat.le_of_ble_eq_true rfl, Nat.le_of_ble_eq_true rfl, Nat.le_of_ble_eq_true rfl⟩ (Nat.le_of_ble_eq_true rfl) (Nat.le_of_ble_eq_true rfl) (⟨ρ, SA.refl _, hI, by first | exact Or.inl ⟨rfl, by omega⟩ | exact Or.inr (Or.inl ⟨rfl, by omega, by omega⟩) | exact Or.inr (Or.inr (⟨rfl, by omega, by omega, by omega⟩))⟩)
  · exact z_throwC (names := ["java/lang/RuntimeException", "java/lang/Exception"]) F htab hl9 ⟨by decide +kernel, fitN⟩ q737 q17 hatS (List.mem_of_getElem? (i := 17) rfl) dX8_setEnd_15 dX8_setEnd_18 dX8_setEnd_19 dX8_setEnd_21 dX8_setEnd_24 ⟨Nat.le_of_ble_eq_true rfl, Nat.le_of_ble_eq_true rfl, Nat.le_of_ble_eq_true rfl, Nat.le_of_ble_eq_true rfl⟩ (Nat.le_of_ble_eq_true rfl) (Nat.le_of_ble_eq_true rfl) (⟨ρ, SA.refl _, hI, by first | exact Or.inl ⟨rfl, by omega⟩ | exact Or.inr (Or.inl ⟨rfl, by omega, by omega⟩) | exact Or.inr (Or.inr (⟨rfl, by omega, by omega, by omega⟩))⟩)
set_option maxRecDepth 100000 in
set_option maxHeartbeats 4000000 in
theorem mX8_state (l : Launch) (G : GG) (N0 : Nat) (h : Hp) (hl9 : l.stackTraces = false) (g : Int → Nat) (ρ : Sg) (e9 : Int) (hI : CI G g ρ h) (hV : MC ρ) (r_e9 : -2147483648 ≤ e9 ∧ e9 < 2147483648) : CtX l G N0 yX8_state (Cond.code yX8_state cX8_state 2 (some FieldType.char) :: LW) ({ frames := 7, cells := 4, slots := 24, locals := 260 }) [vR (g 0), vI e9] h (fun r h' => ¬ (¬ (0 ≤ e9 ∧ e9 < ρ 8 0)) ∧ ∃ ρ', r = some (vI (ρ 12 e9)) ∧ SA (ρ) ρ' ∧ CI G g ρ' h') (fun E h' => ∃ ρ', SA ρ ρ' ∧ CI G g ρ' h' ∧ ((E = "java/lang/IndexOutOfBoundsException" ∧ (¬ (0 ≤ e9 ∧ e9 < ρ 8 0))))) := by
  refine ctX_of rfl rfl ?_
  intro p e s m args below meth c F hr htab
  have F : Fx p s m args meth c RX8 cX8_state 2 G N0 (cA h s.heap.size) := F
  obtain ⟨v0, v1, v2, v8, v16, v24, v39, vC, vE, vJ, vK, vB, vO⟩ := id hV
  have E9 := vE e9
  show Z _ _ _ _ _ _ _ _ _ _ _ _ _ _ _ _ _ _ _ [(0, vR (g 0)), (1, vI e9)] []
  refine z_aload_n F dX8_state_0 rfl 0 rfl ?_
  refine z_iload_n F dX8_state_1 rfl 1 rfl ?_
  refine z_xcallV (As := [vI e9]) (st := []) F htab (mX8_entryAt l G N0 h hl9 g ρ e9 hI hV (by omega)) cvX8_138 (ci_0 hI) (fun r9 h9 => by cases h9; rfl) rfl rfl ⟨Nat.le_of_ble_eq_true rfl, Nat.le_of_ble_eq_true rfl⟩ rfl ⟨Nat.le_of_ble_eq_true rfl, Nat.le_of_ble_eq_true rfl⟩ dX8_state_2 (fun E h9 hx => by obtain ⟨e1, rfl⟩ := hx; refine ⟨ρ, SA.refl _, hI, ?_⟩; obtain ⟨rfl, e2⟩ := e1; first | exact ⟨rfl, by omega⟩) (Nat.le_of_ble_eq_true rfl) (Nat.le_of_ble_eq_true rfl) ?_
  rintro _ h9 ⟨f2_0, rfl, hh9⟩
  rw [hh9]
  clear hh9 h9
  show Z _ _ _ _ _ _ _ _ _ _ _ _ _ _ _ _ _ _ _ _ [vR (aE ρ e9)]
  refine z_get (v := vI (ρ 12 e9)) F (ci_e hI (show 0 ≤ e9 ∧ e9 < ρ 8 0 ∧ e9 < 100 from by omega)) fX8_142 rfl dX8_state_5 ?_
  exact z_iretX (nf_c (by omega)) F hr (Nat.le_of_ble_eq_true rfl) (Nat.le_of_ble_eq_true rfl) dX8_state_8 (⟨by omega, ρ, rI (by first | rfl | omega), SA.refl _, hI⟩)
set_option maxRecDepth 100000 in
set_option maxHeartbeats 4000000 in
theorem mX8_startOf (l : Launch) (G : GG) (N0 : Nat) (h : Hp) (hl9 : l.stackTraces = false) (g : Int → Nat) (ρ : Sg) (e9 : Int) (hI : CI G g ρ h) (hV : MC ρ) (r_e9 : -2147483648 ≤ e9 ∧ e9 < 2147483648) : CtX l G N0 yX8_startOf (Cond.code yX8_startOf cX8_startOf 2 (some FieldType.int) :: LW) ({ frames := 7, cells := 4, slots := 24, locals := 260 }) [vR (g 0), vI e9] h (fun r h' => ¬ (¬ (0 ≤ e9 ∧ e9 < ρ 8 0)) ∧ ∃ ρ', r = some (vI (ρ 10 e9)) ∧ SA (ρ) ρ' ∧ CI G g ρ' h') (fun E h' => ∃ ρ', SA ρ ρ' ∧ CI G g ρ' h' ∧ ((E = "java/lang/IndexOutOfBoundsException" ∧ (¬ (0 ≤ e9 ∧ e9 < ρ 8 0))))) := by
  refine ctX_of rfl rfl ?_
  intro p e s m args below meth c F hr htab
  have F : Fx p s m args meth c RX8 cX8_startOf 2 G N0 (cA h s.heap.size) := F
  obtain ⟨v0, v1, v2, v8, v16, v24, v39, vC, vE, vJ, vK, vB, vO⟩ := id hV
  have E9 := vE e9
  show Z _ _ _ _ _ _ _ _ _ _ _ _ _ _ _ _ _ _ _ [(0, vR (g 0)), (1, vI e9)] []
  refine z_aload_n F dX8_startOf_0 rfl 0 rfl ?_
  refine z_iload_n F dX8_startOf_1 rfl 1 rfl ?_
  refine z_xcallV (As := [vI e9]) (st := []) F htab (mX8_entryAt l G N0 h hl9 g ρ e9 hI hV (by omega)) cvX8_138 (ci_0 hI) (fun r9 h9 => by cases h9; rfl) rfl rfl ⟨Nat.le_of_ble_eq_true rfl, Nat.le_of_ble_eq_true rfl⟩ rfl ⟨Nat.le_of_ble_eq_true rfl, Nat.le_of_ble_eq_true rfl⟩ dX8_startOf_2 (fun E h9 hx => by obtain ⟨e1, rfl⟩ := hx; refine ⟨ρ, SA.refl _, hI, ?_⟩; obtain ⟨rfl, e2⟩ := e1; first | exact ⟨rfl, by omega⟩) (Nat.le_of_ble_eq_true rfl) (Nat.le_of_ble_eq_true rfl) ?_
  rintro _ h9 ⟨f2_0, rfl, hh9⟩
  rw [hh9]
  clear hh9 h9
  show Z _ _ _ _ _ _ _ _ _ _ _ _ _ _ _ _ _ _ _ _ [vR (aE ρ e9)]
  refine z_get (v := vI (ρ 10 e9)) F (ci_e hI (show 0 ≤ e9 ∧ e9 < ρ 8 0 ∧ e9 < 100 from by omega)) fX8_152 rfl dX8_startOf_5 ?_
  exact z_iretX (nf_i _) F hr (Nat.le_of_ble_eq_true rfl) (Nat.le_of_ble_eq_true rfl) dX8_startOf_8 (⟨by omega, ρ, rI (by first | rfl | omega), SA.refl _, hI⟩)
set_option maxRecDepth 100000 in
set_option maxHeartbeats 4000000 in
theorem mX8_endOf (l : Launch) (G : GG) (N0 : Nat) (h : Hp) (hl9 : l.stackTraces = false) (g : Int → Nat) (ρ : Sg) (e9 : Int) (hI : CI G g ρ h) (hV : MC ρ) (r_e9 : -2147483648 ≤ e9 ∧ e9 < 2147483648) : CtX l G N0 yX8_endOf (Cond.code yX8_endOf cX8_endOf 2 (some FieldType.int) :: LW) ({ frames := 7, cells := 4, slots := 24, locals := 260 }) [vR (g 0), vI e9] h (fun r h' => ¬ (¬ (0 ≤ e9 ∧ e9 < ρ 8 0)) ∧ ∃ ρ', r = some (vI (ρ 11 e9)) ∧ SA (ρ) ρ' ∧ CI G g ρ' h') (fun E h' => ∃ ρ', SA ρ ρ' ∧ CI G g ρ' h' ∧ ((E = "java/lang/IndexOutOfBoundsException" ∧ (¬ (0 ≤ e9 ∧ e9 < ρ 8 0))))) := by
  refine ctX_of rfl rfl ?_
  intro p e s m args below meth c F hr htab
  have F : Fx p s m args meth c RX8 cX8_endOf 2 G N0 (cA h s.heap.size) := F
  obtain ⟨v0, v1, v2, v8, v16, v24, v39, vC, vE, vJ, vK, vB, vO⟩ := id hV
  have E9 := vE e9
  show Z _ _ _ _ _ _ _ _ _ _ _ _ _ _ _ _ _ _ _ [(0, vR (g 0)), (1, vI e9)] []
  refine z_aload_n F dX8_endOf_0 rfl 0 rfl ?_
  refine z_iload_n F dX8_endOf_1 rfl 1 rfl ?_
  refine z_xcallV (As := [vI e9]) (st := []) F htab (mX8_entryAt l G N0 h hl9 g ρ e9 hI hV (by omega)) cvX8_138 (ci_0 hI) (fun r9 h9 => by cases h9; rfl) rfl rfl ⟨Nat.le_of_ble_eq_true rfl, Nat.le_of_ble_eq_true rfl⟩ rfl ⟨Nat.le_of_ble_eq_true rfl, Nat.le_of_ble_eq_true rfl⟩ dX8_endOf_2 (fun E h9 hx => by obtain ⟨e1, rfl⟩ := hx; refine ⟨ρ, SA.refl _, hI, ?_⟩; obtain ⟨rfl, e2⟩ := e1; first | exact ⟨rfl, by omega⟩) (Nat.le_of_ble_eq_true rfl) (Nat.le_of_ble_eq_true rfl) ?_
  rintro _ h9 ⟨f2_0, rfl, hh9⟩
  rw [hh9]
  clear hh9 h9
  show Z _ _ _ _ _ _ _ _ _ _ _ _ _ _ _ _ _ _ _ _ [vR (aE ρ e9)]
  refine z_get (v := vI (ρ 11 e9)) F (ci_e hI (show 0 ≤ e9 ∧ e9 < ρ 8 0 ∧ e9 < 100 from by omega)) fX8_149 rfl dX8_endOf_5 ?_
  exact z_iretX (nf_i _) F hr (Nat.le_of_ble_eq_true rfl) (Nat.le_of_ble_eq_true rfl) dX8_endOf_8 (⟨by omega, ρ, rI (by first | rfl | omega), SA.refl _, hI⟩)
set_option maxRecDepth 100000 in
set_option maxHeartbeats 4000000 in
theorem mX8_lines (l : Launch) (G : GG) (N0 : Nat) (h : Hp) (hl9 : l.stackTraces = false) (g : Int → Nat) (ρ : Sg) (i9 : Int) (hI : CI G g ρ h) (hV : MC ρ) (r_i9 : -2147483648 ≤ i9 ∧ i9 < 2147483648) : CtX l G N0 yX8_lines (Cond.code yX8_lines cX8_lines 2 (some FieldType.int) :: LW) ({ frames := 7, cells := 4, slots := 24, locals := 260 }) [vR (g 0), vI i9] h (fun r h' => ¬ (¬ (0 ≤ i9 ∧ i9 < ρ 16 0)) ∧ ∃ ρ', r = some (vI (ρ 17 i9)) ∧ SA (ρ) ρ' ∧ CI G g ρ' h') (fun E h' => ∃ ρ', SA ρ ρ' ∧ CI G g ρ' h' ∧ ((E = "java/lang/IndexOutOfBoundsException" ∧ (¬ (0 ≤ i9 ∧ i9 < ρ 16 0))))) := by
  refine ctX_of rfl rfl ?_
  intro p e s m args below meth c F hr htab
  have F : Fx p s m args meth c RX8 cX8_lines 2 G N0 (cA h s.heap.size) := F
  obtain ⟨v0, v1, v2, v8, v16, v24, v39, vC, vE, vJ, vK, vB, vO⟩ := id hV
  have J9 := vJ i9
  show Z _ _ _ _ _ _ _ _ _ _ _ _ _ _ _ _ _ _ _ [(0, vR (g 0)), (1, vI i9)] []
  refine z_aload_n F dX8_lines_0 rfl 0 rfl ?_
  refine z_iload_n F dX8_lines_1 rfl 1 rfl ?_
  refine z_xcallV (As := [vI i9]) (st := []) F htab (mX8_invoiceAt l G N0 h hl9 g ρ i9 hI hV (by omega)) cvX8_282 (ci_0 hI) (fun r9 h9 => by cases h9; rfl) rfl rfl ⟨Nat.le_of_ble_eq_true rfl, Nat.le_of_ble_eq_true rfl⟩ rfl ⟨Nat.le_of_ble_eq_true rfl, Nat.le_of_ble_eq_true rfl⟩ dX8_lines_2 (fun E h9 hx => by obtain ⟨e1, rfl⟩ := hx; refine ⟨ρ, SA.refl _, hI, ?_⟩; obtain ⟨rfl, e2⟩ := e1; first | exact ⟨rfl, by omega⟩) (Nat.le_of_ble_eq_true rfl) (Nat.le_of_ble_eq_true rfl) ?_
  rintro _ h9 ⟨f2_0, rfl, hh9⟩
  rw [hh9]
  clear hh9 h9
  show Z _ _ _ _ _ _ _ _ _ _ _ _ _ _ _ _ _ _ _ _ [vR (aI ρ i9)]
  refine z_get (v := vR (aL ρ i9)) F (ci_i hI (show 0 ≤ i9 ∧ i9 < ρ 39 0 ∧ i9 < 100 from by omega)) fX8_286 rfl dX8_lines_5 ?_
  refine z_callV (As := []) (st := []) F (mJx4a65c_size_8abf5 l G N0 h (aL ρ i9) ((ρ 49 i9).toNat) 0 (ρ 47 i9) (ρ 17 i9) (fun _ => none) (ci_l hI (show 0 ≤ i9 ∧ i9 < ρ 39 0 ∧ i9 < 100 from by omega))) cvX8_90 (ci_l hI (show 0 ≤ i9 ∧ i9 < ρ 39 0 ∧ i9 < 100 from by omega)) (fun r9 h9 => by cases h9; rfl) rfl rfl ⟨Nat.le_of_ble_eq_true rfl, Nat.le_of_ble_eq_true rfl⟩ rfl ⟨Nat.le_of_ble_eq_true rfl, Nat.le_of_ble_eq_true rfl⟩ dX8_lines_8 ?_
  rintro _ h9 ⟨rfl, hh9⟩
  rw [hh9]
  clear hh9 h9
  show Z _ _ _ _ _ _ _ _ _ _ _ _ _ _ _ _ _ _ _ _ [vI (ρ 17 i9)]
  exact z_iretX (nf_i _) F hr (Nat.le_of_ble_eq_true rfl) (Nat.le_of_ble_eq_true rfl) dX8_lines_11 (⟨by omega, ρ, rI (by first | rfl | omega), SA.refl _, hI⟩)
set_option maxRecDepth 100000 in
set_option maxHeartbeats 4000000 in
theorem mX8_total (l : Launch) (G : GG) (N0 : Nat) (h : Hp) (hl9 : l.stackTraces = false) (g : Int → Nat) (ρ : Sg) (i9 : Int) (hI : CI G g ρ h) (hV : MC ρ) (r_i9 : -2147483648 ≤ i9 ∧ i9 < 2147483648) : CtX l G N0 yX8_total (Cond.code yX8_total cX8_total 2 (some FieldType.float) :: LW) ({ frames := 7, cells := 4, slots := 24, locals := 260 }) [vR (g 0), vI i9] h (fun r h' => ¬ (¬ (0 ≤ i9 ∧ i9 < ρ 16 0)) ∧ ∃ ρ', r = some (vF (fb (ρ 23 i9))) ∧ SA (ρ) ρ' ∧ CI G g ρ' h') (fun E h' => ∃ ρ', SA ρ ρ' ∧ CI G g ρ' h' ∧ ((E = "java/lang/IndexOutOfBoundsException" ∧ (¬ (0 ≤ i9 ∧ i9 < ρ 16 0))))) := by
  refine ctX_of rfl rfl ?_
  intro p e s m args below meth c F hr htab
  have F : Fx p s m args meth c RX8 cX8_total 2 G N0 (cA h s.heap.size) := F
  obtain ⟨v0, v1, v2, v8, v16, v24, v39, vC, vE, vJ, vK, vB, vO⟩ := id hV
  have J9 := vJ i9
  show Z _ _ _ _ _ _ _ _ _ _ _ _ _ _ _ _ _ _ _ [(0, vR (g 0)), (1, vI i9)] []
  refine z_aload_n F dX8_total_0 rfl 0 rfl ?_
  refine z_iload_n F dX8_total_1 rfl 1 rfl ?_
  refine z_xcallV (As := [vI i9]) (st := []) F htab (mX8_invoiceAt l G N0 h hl9 g ρ i9 hI hV (by omega)) cvX8_282 (ci_0 hI) (fun r9 h9 => by cases h9; rfl) rfl rfl ⟨Nat.le_of_ble_eq_true rfl, Nat.le_of_ble_eq_true rfl⟩ rfl ⟨Nat.le_of_ble_eq_true rfl, Nat.le_of_ble_eq_true rfl⟩ dX8_total_2 (fun E h9 hx => by obtain ⟨e1, rfl⟩ := hx; refine ⟨ρ, SA.refl _, hI, ?_⟩; obtain ⟨rfl, e2⟩ := e1; first | exact ⟨rfl, by omega⟩) (Nat.le_of_ble_eq_true rfl) (Nat.le_of_ble_eq_true rfl) ?_
  rintro _ h9 ⟨f2_0, rfl, hh9⟩
  rw [hh9]
  clear hh9 h9
  show Z _ _ _ _ _ _ _ _ _ _ _ _ _ _ _ _ _ _ _ _ [vR (aI ρ i9)]
  refine z_get (v := vF (fb (ρ 23 i9))) F (ci_i hI (show 0 ≤ i9 ∧ i9 < ρ 39 0 ∧ i9 < 100 from by omega)) fX8_308 rfl dX8_total_5 ?_
  exact z_fretX F hr (Nat.le_of_ble_eq_true rfl) (Nat.le_of_ble_eq_true rfl) dX8_total_8 (⟨by omega, ρ, rfl, SA.refl _, hI⟩)
set_option maxRecDepth 100000 in
set_option maxHeartbeats 4000000 in
theorem mX8_totalCents (l : Launch) (G : GG) (N0 : Nat) (h : Hp) (hl9 : l.stackTraces = false) (g : Int → Nat) (ρ : Sg) (i9 : Int) (hI : CI G g ρ h) (hV : MC ρ) (r_i9 : -2147483648 ≤ i9 ∧ i9 < 2147483648) : CtX l G N0 yX8_totalCents (Cond.code yX8_totalCents cX8_totalCents 2 (some FieldType.int) :: LW) ({ frames := 7, cells := 4, slots := 24, locals := 260 }) [vR (g 0), vI i9] h (fun r h' => ¬ (¬ (0 ≤ i9 ∧ i9 < ρ 16 0)) ∧ ∃ ρ', r = some (vI (FP.f2i (fb (ρ 23 i9))).toInt) ∧ SA (ρ) ρ' ∧ CI G g ρ' h') (fun E h' => ∃ ρ', SA ρ ρ' ∧ CI G g ρ' h' ∧ ((E = "java/lang/IndexOutOfBoundsException" ∧ (¬ (0 ≤ i9 ∧ i9 < ρ 16 0))))) := by
  refine ctX_of rfl rfl ?_
  intro p e s m args below meth c F hr htab
  have F : Fx p s m args meth c RX8 cX8_totalCents 2 G N0 (cA h s.heap.size) := F
  obtain ⟨v0, v1, v2, v8, v16, v24, v39, vC, vE, vJ, vK, vB, vO⟩ := id hV
  have J9 := vJ i9
  show Z _ _ _ _ _ _ _ _ _ _ _ _ _ _ _ _ _ _ _ [(0, vR (g 0)), (1, vI i9)] []
  refine z_aload_n F dX8_totalCents_0 rfl 0 rfl ?_
  refine z_iload_n F dX8_totalCents_1 rfl 1 rfl ?_
  refine z_xcallV (As := [vI i9]) (st := []) F htab (mX8_invoiceAt l G N0 h hl9 g ρ i9 hI hV (by omega)) cvX8_282 (ci_0 hI) (fun r9 h9 => by cases h9; rfl) rfl rfl ⟨Nat.le_of_ble_eq_true rfl, Nat.le_of_ble_eq_true rfl⟩ rfl ⟨Nat.le_of_ble_eq_true rfl, Nat.le_of_ble_eq_true rfl⟩ dX8_totalCents_2 (fun E h9 hx => by obtain ⟨e1, rfl⟩ := hx; refine ⟨ρ, SA.refl _, hI, ?_⟩; obtain ⟨rfl, e2⟩ := e1; first | exact ⟨rfl, by omega⟩) (Nat.le_of_ble_eq_true rfl) (Nat.le_of_ble_eq_true rfl) ?_
  rintro _ h9 ⟨f2_0, rfl, hh9⟩
  rw [hh9]
  clear hh9 h9
  show Z _ _ _ _ _ _ _ _ _ _ _ _ _ _ _ _ _ _ _ _ [vR (aI ρ i9)]
  refine z_get (v := vF (fb (ρ 23 i9))) F (ci_i hI (show 0 ≤ i9 ∧ i9 < ρ 39 0 ∧ i9 < 100 from by omega)) fX8_308 rfl dX8_totalCents_5 ?_
  refine z_f2i F dX8_totalCents_8 ?_
  exact z_iretX (nf_i _) F hr (Nat.le_of_ble_eq_true rfl) (Nat.le_of_ble_eq_true rfl) dX8_totalCents_9 (⟨by omega, ρ, rI (by first | rfl | omega), SA.refl _, hI⟩)
set_option maxRecDepth 100000 in
set_option maxHeartbeats 4000000 in
theorem mX8_lineKind (l : Launch) (G : GG) (N0 : Nat) (h : Hp) (hl9 : l.stackTraces = false) (g : Int → Nat) (ρ : Sg) (i9 q9 : Int) (hI : CI G g ρ h) (hV : MC ρ) (r_i9 : -2147483648 ≤ i9 ∧ i9 < 2147483648) (r_q9 : -2147483648 ≤ q9 ∧ q9 < 2147483648) : CtX l G N0 yX8_lineKind (Cond.code yX8_lineKind cX8_lineKind 3 (some FieldType.char) :: LW) ({ frames := 8, cells := 3, slots := 18, locals := 300 }) [vR (g 0), vI i9, vI q9] h (fun r h' => ¬ (¬ ((0 ≤ i9 ∧ i9 < ρ 16 0) ∧ (0 ≤ q9 ∧ q9 < ρ 17 i9))) ∧ ∃ ρ', r = some (vI (ρ 19 (40 * i9 + q9))) ∧ SA (ρ) ρ' ∧ CI G g ρ' h') (fun E h' => ∃ ρ', SA ρ ρ' ∧ CI G g ρ' h' ∧ ((E = "java/lang/IndexOutOfBoundsException" ∧ (¬ ((0 ≤ i9 ∧ i9 < ρ 16 0) ∧ (0 ≤ q9 ∧ q9 < ρ 17 i9)))))) := by
  refine ctX_of rfl rfl ?_
  intro p e s m args below meth c F hr htab
  have F : Fx p s m args meth c RX8 cX8_lineKind 3 G N0 (cA h s.heap.size) := F
  obtain ⟨v0, v1, v2, v8, v16, v24, v39, vC, vE, vJ, vK, vB, vO⟩ := id hV
  have J9 := vJ i9
  have J8 := fun a b => (vJ i9 a b).2.2.2.2.2 q9
  show Z _ _ _ _ _ _ _ _ _ _ _ _ _ _ _ _ _ _ _ [(0, vR (g 0)), (1, vI i9), (2, vI q9)] []
  refine z_aload_n F dX8_lineKind_0 rfl 0 rfl ?_
  refine z_iload_n F dX8_lineKind_1 rfl 1 rfl ?_
  refine z_iload_n F dX8_lineKind_2 rfl 2 rfl ?_
  refine z_xcallV (As := [vI i9, vI q9]) (st := []) F htab (mX8_lineAt l G N0 h hl9 g ρ i9 q9 hI hV (by omega) (by omega)) cvX8_289 (ci_0 hI) (fun r9 h9 => by cases h9; rfl) rfl rfl ⟨Nat.le_of_ble_eq_true rfl, Nat.le_of_ble_eq_true rfl⟩ rfl ⟨Nat.le_of_ble_eq_true rfl, Nat.le_of_ble_eq_true rfl⟩ dX8_lineKind_3 (fun E h9 hx => by obtain ⟨e1, rfl⟩ := hx; refine ⟨ρ, SA.refl _, hI, ?_⟩; obtain ⟨rfl, e2⟩ := e1; first | exact ⟨rfl, by omega⟩) (Nat.le_of_ble_eq_true rfl) (Nat.le_of_ble_eq_true rfl) ?_
  rintro _ h9 ⟨f3_0, rfl, hh9⟩
  rw [hh9]
  clear hh9 h9
  show Z _ _ _ _ _ _ _ _ _ _ _ _ _ _ _ _ _ _ _ _ [vR (aN ρ (40 * i9 + q9))]
  refine z_get (v := vI (ρ 19 (40 * i9 + q9))) F (ci_n hI (show 0 ≤ i9 ∧ i9 < ρ 39 0 ∧ i9 < 8 from by omega) (show 0 ≤ q9 ∧ q9 < ρ 17 i9 ∧ q9 < 40 from by omega)) fX8_293 rfl dX8_lineKind_6 ?_
  exact z_iretX (nf_c (by omega)) F hr (Nat.le_of_ble_eq_true rfl) (Nat.le_of_ble_eq_true rfl) dX8_lineKind_9 (⟨by omega, ρ, rI (by first | rfl | omega), SA.refl _, hI⟩)
set_option maxRecDepth 100000 in
set_option maxHeartbeats 4000000 in
theorem mX8_lineMinutes (l : Launch) (G : GG) (N0 : Nat) (h : Hp) (hl9 : l.stackTraces = false) (g : Int → Nat) (ρ : Sg) (i9 q9 : Int) (hI : CI G g ρ h) (hV : MC ρ) (r_i9 : -2147483648 ≤ i9 ∧ i9 < 2147483648) (r_q9 : -2147483648 ≤ q9 ∧ q9 < 2147483648) : CtX l G N0 yX8_lineMinutes (Cond.code yX8_lineMinutes cX8_lineMinutes 3 (some FieldType.int) :: LW) ({ frames := 8, cells := 3, slots := 18, locals := 300 }) [vR (g 0), vI i9, vI q9] h (fun r h' => ¬ (¬ ((0 ≤ i9 ∧ i9 < ρ 16 0) ∧ (0 ≤ q9 ∧ q9 < ρ 17 i9))) ∧ ∃ ρ', r = some (vI (ρ 20 (40 * i9 + q9))) ∧ SA (ρ) ρ' ∧ CI G g ρ' h') (fun E h' => ∃ ρ', SA ρ ρ' ∧ CI G g ρ' h' ∧ ((E = "java/lang/IndexOutOfBoundsException" ∧ (¬ ((0 ≤ i9 ∧ i9 < ρ 16 0) ∧ (0 ≤ q9 ∧ q9 < ρ 17 i9)))))) := by
  refine ctX_of rfl rfl ?_
  intro p e s m args below meth c F hr htab
  have F : Fx p s m args meth c RX8 cX8_lineMinutes 3 G N0 (cA h s.heap.size) := F
  obtain ⟨v0, v1, v2, v8, v16, v24, v39, vC, vE, vJ, vK, vB, vO⟩ := id hV
  have J9 := vJ i9
  have J8 := fun a b => (vJ i9 a b).2.2.2.2.2 q9
  show Z _ _ _ _ _ _ _ _ _ _ _ _ _ _ _ _ _ _ _ [(0, vR (g 0)), (1, vI i9), (2, vI q9)] []
  refine z_aload_n F dX8_lineMinutes_0 rfl 0 rfl ?_
  refine z_iload_n F dX8_lineMinutes_1 rfl 1 rfl ?_
  refine z_iload_n F dX8_lineMinutes_2 rfl 2 rfl ?_
  refine z_xcallV (As := [vI i9, vI q9]) (st := []) F htab (mX8_lineAt l G N0 h hl9 g ρ i9 q9 hI hV (by omega) (by omega)) cvX8_289 (ci_0 hI) (fun r9 h9 => by cases h9; rfl) rfl rfl ⟨Nat.le_of_ble_eq_true rfl, Nat.le_of_ble_eq_true rfl⟩ rfl ⟨Nat.le_of_ble_eq_true rfl, Nat.le_of_ble_eq_true rfl⟩ dX8_lineMinutes_3 (fun E h9 hx => by obtain ⟨e1, rfl⟩ := hx; refine ⟨ρ, SA.refl _, hI, ?_⟩; obtain ⟨rfl, e2⟩ := e1; first | exact ⟨rfl, by omega⟩) (Nat.le_of_ble_eq_true rfl) (Nat.le_of_ble_eq_true rfl) ?_
  rintro _ h9 ⟨f3_0, rfl, hh9⟩
  rw [hh9]
  clear hh9 h9
  show Z _ _ _ _ _ _ _ _ _ _ _ _ _ _ _ _ _ _ _ _ [vR (aN ρ (40 * i9 + q9))]
  refine z_get (v := vI (ρ 20 (40 * i9 + q9))) F (ci_n hI (show 0 ≤ i9 ∧ i9 < ρ 39 0 ∧ i9 < 8 from by omega) (show 0 ≤ q9 ∧ q9 < ρ 17 i9 ∧ q9 < 40 from by omega)) fX8_298 rfl dX8_lineMinutes_6 ?_
  exact z_iretX (nf_i _) F hr (Nat.le_of_ble_eq_true rfl) (Nat.le_of_ble_eq_true rfl) dX8_lineMinutes_9 (⟨by omega, ρ, rI (by first | rfl | omega), SA.refl _, hI⟩)
set_option maxRecDepth 100000 in
set_option maxHeartbeats 4000000 in
theorem mX8_lineSubject (l : Launch) (G : GG) (N0 : Nat) (h : Hp) (hl9 : l.stackTraces = false) (g : Int → Nat) (ρ : Sg) (i9 q9 : Int) (hI : CI G g ρ h) (hV : MC ρ) (r_i9 : -2147483648 ≤ i9 ∧ i9 < 2147483648) (r_q9 : -2147483648 ≤ q9 ∧ q9 < 2147483648) : CtX l G N0 yX8_lineSubject (Cond.code yX8_lineSubject cX8_lineSubject 3 (some FieldType.int) :: LW) ({ frames := 8, cells := 3, slots := 18, locals := 300 }) [vR (g 0), vI i9, vI q9] h (fun r h' => ¬ (¬ ((0 ≤ i9 ∧ i9 < ρ 16 0) ∧ (0 ≤ q9 ∧ q9 < ρ 17 i9))) ∧ ∃ ρ', r = some (vI (ρ 21 (40 * i9 + q9))) ∧ SA (ρ) ρ' ∧ CI G g ρ' h') (fun E h' => ∃ ρ', SA ρ ρ' ∧ CI G g ρ' h' ∧ ((E = "java/lang/IndexOutOfBoundsException" ∧ (¬ ((0 ≤ i9 ∧ i9 < ρ 16 0) ∧ (0 ≤ q9 ∧ q9 < ρ 17 i9)))))) := by
  refine ctX_of rfl rfl ?_
  intro p e s m args below meth c F hr htab
  have F : Fx p s m args meth c RX8 cX8_lineSubject 3 G N0 (cA h s.heap.size) := F
  obtain ⟨v0, v1, v2, v8, v16, v24, v39, vC, vE, vJ, vK, vB, vO⟩ := id hV
  have J9 := vJ i9
  have J8 := fun a b => (vJ i9 a b).2.2.2.2.2 q9
  show Z _ _ _ _ _ _ _ _ _ _ _ _ _ _ _ _ _ _ _ [(0, vR (g 0)), (1, vI i9), (2, vI q9)] []
  refine z_aload_n F dX8_lineSubject_0 rfl 0 rfl ?_
  refine z_iload_n F dX8_lineSubject_1 rfl 1 rfl ?_
  refine z_iload_n F dX8_lineSubject_2 rfl 2 rfl ?_
  refine z_xcallV (As := [vI i9, vI q9]) (st := []) F htab (mX8_lineAt l G N0 h hl9 g ρ i9 q9 hI hV (by omega) (by omega)) cvX8_289 (ci_0 hI) (fun r9 h9 => by cases h9; rfl) rfl rfl ⟨Nat.le_of_ble_eq_true rfl, Nat.le_of_ble_eq_true rfl⟩ rfl ⟨Nat.le_of_ble_eq_true rfl, Nat.le_of_ble_eq_true rfl⟩ dX8_lineSubject_3 (fun E h9 hx => by obtain ⟨e1, rfl⟩ := hx; refine ⟨ρ, SA.refl _, hI, ?_⟩; obtain ⟨rfl, e2⟩ := e1; first | exact ⟨rfl, by omega⟩) (Nat.le_of_ble_eq_true rfl) (Nat.le_of_ble_eq_true rfl) ?_
  rintro _ h9 ⟨f3_0, rfl, hh9⟩
  rw [hh9]
  clear hh9 h9
  show Z _ _ _ _ _ _ _ _ _ _ _ _ _ _ _ _ _ _ _ _ [vR (aN ρ (40 * i9 + q9))]
  refine z_get (v := vI (ρ 21 (40 * i9 + q9))) F (ci_n hI (show 0 ≤ i9 ∧ i9 < ρ 39 0 ∧ i9 < 8 from by omega) (show 0 ≤ q9 ∧ q9 < ρ 17 i9 ∧ q9 < 40 from by omega)) fX8_301 rfl dX8_lineSubject_6 ?_
  exact z_iretX (nf_i _) F hr (Nat.le_of_ble_eq_true rfl) (Nat.le_of_ble_eq_true rfl) dX8_lineSubject_9 (⟨by omega, ρ, rI (by first | rfl | omega), SA.refl _, hI⟩)
set_option maxRecDepth 100000 in
set_option maxHeartbeats 4000000 in
theorem mX8_lineAmount (l : Launch) (G : GG) (N0 : Nat) (h : Hp) (hl9 : l.stackTraces = false) (g : Int → Nat) (ρ : Sg) (i9 q9 : Int) (hI : CI G g ρ h) (hV : MC ρ) (r_i9 : -2147483648 ≤ i9 ∧ i9 < 2147483648) (r_q9 : -2147483648 ≤ q9 ∧ q9 < 2147483648) : CtX l G N0 yX8_lineAmount (Cond.code yX8_lineAmount cX8_lineAmount 3 (some FieldType.float) :: LW) ({ frames := 8, cells := 3, slots := 18, locals := 300 }) [vR (g 0), vI i9, vI q9] h (fun r h' => ¬ (¬ ((0 ≤ i9 ∧ i9 < ρ 16 0) ∧ (0 ≤ q9 ∧ q9 < ρ 17 i9))) ∧ ∃ ρ', r = some (vF (fb (ρ 22 (40 * i9 + q9)))) ∧ SA (ρ) ρ' ∧ CI G g ρ' h') (fun E h' => ∃ ρ', SA ρ ρ' ∧ CI G g ρ' h' ∧ ((E = "java/lang/IndexOutOfBoundsException" ∧ (¬ ((0 ≤ i9 ∧ i9 < ρ 16 0) ∧ (0 ≤ q9 ∧ q9 < ρ 17 i9)))))) := by
  refine ctX_of rfl rfl ?_
  intro p e s m args below meth c F hr htab
  have F : Fx p s m args meth c RX8 cX8_lineAmount 3 G N0 (cA h s.heap.size) := F
  obtain ⟨v0, v1, v2, v8, v16, v24, v39, vC, vE, vJ, vK, vB, vO⟩ := id hV
  have J9 := vJ i9
  have J8 := fun a b => (vJ i9 a b).2.2.2.2.2 q9
  show Z _ _ _ _ _ _ _ _ _ _ _ _ _ _ _ _ _ _ _ [(0, vR (g 0)), (1, vI i9), (2, vI q9)] []
  refine z_aload_n F dX8_lineAmount_0 rfl 0 rfl ?_
  refine z_iload_n F dX8_lineAmount_1 rfl 1 rfl ?_
  refine z_iload_n F dX8_lineAmount_2 rfl 2 rfl ?_
  refine z_xcallV (As := [vI i9, vI q9]) (st := []) F htab (mX8_lineAt l G N0 h hl9 g ρ i9 q9 hI hV (by omega) (by omega)) cvX8_289 (ci_0 hI) (fun r9 h9 => by cases h9; rfl) rfl rfl ⟨Nat.le_of_ble_eq_true rfl, Nat.le_of_ble_eq_true rfl⟩ rfl ⟨Nat.le_of_ble_eq_true rfl, Nat.le_of_ble_eq_true rfl⟩ dX8_lineAmount_3 (fun E h9 hx => by obtain ⟨e1, rfl⟩ := hx; refine ⟨ρ, SA.refl _, hI, ?_⟩; obtain ⟨rfl, e2⟩ := e1; first | exact ⟨rfl, by omega⟩) (Nat.le_of_ble_eq_true rfl) (Nat.le_of_ble_eq_true rfl) ?_
  rintro _ h9 ⟨f3_0, rfl, hh9⟩
  rw [hh9]
  clear hh9 h9
  show Z _ _ _ _ _ _ _ _ _ _ _ _ _ _ _ _ _ _ _ _ [vR (aN ρ (40 * i9 + q9))]
  refine z_get (v := vF (fb (ρ 22 (40 * i9 + q9)))) F (ci_n hI (show 0 ≤ i9 ∧ i9 < ρ 39 0 ∧ i9 < 8 from by omega) (show 0 ≤ q9 ∧ q9 < ρ 17 i9 ∧ q9 < 40 from by omega)) fX8_304 rfl dX8_lineAmount_6 ?_
  exact z_fretX F hr (Nat.le_of_ble_eq_true rfl) (Nat.le_of_ble_eq_true rfl) dX8_lineAmount_9 (⟨by omega, ρ, rfl, SA.refl _, hI⟩)
