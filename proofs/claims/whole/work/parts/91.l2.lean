theorem f2d_n {x : UInt32} (h : MG 255 x) : vf_n64 (FP.f2d x) := by
  have hf := FP.Core.fin_of_lt32 (a := x) h (Nat.le_refl _)
  have hc : FP.f2d x = FP.Core.f2d x := by
    obtain ⟨s, c, q, e⟩ := hf
    exact FP.f2d_core ((FP.Core.notNaN_iff32 x).mpr (by rw [e]; exact FP.Core.Datum.noConfusion))
  rw [hc]
  obtain ⟨s, c, q, e⟩ := FP.Core.f2d_fin hf
  exact n64_v (by rw [e]; exact FP.Core.Datum.noConfusion)
theorem MC.tot {ρ : Sg} (hV : MC ρ) {i : Int} (hi : 0 ≤ i ∧ i < ρ 16 0) : MG 255 (fb (ρ 23 i)) := by
  obtain ⟨v0, v1, v2, v8, v16, v24, v39, vC, vE, vJ, vK, vB, vO⟩ := hV
  have J := vJ i hi.1 hi.2
  rcases J.2.2.2.2.1 with z | z
  · rw [z]; unfold MG; decide
  · exact Nat.lt_of_lt_of_le z.2 (by decide)
theorem MC.am {ρ : Sg} (hV : MC ρ) {i q : Int} (hi : 0 ≤ i ∧ i < ρ 16 0) (hq : 0 ≤ q ∧ q < ρ 17 i) : MG 255 (fb (ρ 22 (40 * i + q))) := by
  obtain ⟨v0, v1, v2, v8, v16, v24, v39, vC, vE, vJ, vK, vB, vO⟩ := hV
  exact ((vJ i hi.1 hi.2).2.2.2.2.2 q hq.1 hq.2).2.2.le (by decide)
theorem MC.sh {ρ : Sg} (hV : MC ρ) {c : Int} (hc : 0 ≤ c ∧ c < ρ 2 0) (h7 : ρ 7 c ≠ 0) : MG 255 (shF ρ c) := by
  have hus := usS_b hV hc
  obtain ⟨v0, v1, v2, v8, v16, v24, v39, vC, vE, vJ, vK, vB, vO⟩ := hV
  have C := vC c hc.1 hc.2
  exact (mg_quo (by omega) (by omega) (by omega)).le (by decide)
set_option maxRecDepth 100000 in
set_option maxHeartbeats 4000000 in
theorem mL_total (l : Launch) (G : GG) (N0 : Nat) (h : Hp) (hl9 : l.stackTraces = false) (g : Int → Nat) (ρ : Sg) (h1 : Hp) (ao : Nat) (f0 : Int → UInt64) (i9 : Int) (hI : CI G g ρ h1) (hV : MC ρ) (hs : SB h1 h) (ho : h ao = some (eA 7 1 (fun j => vD (f0 j)))) (hoo : h1 ao = none) (r_i9 : -2147483648 ≤ i9 ∧ i9 < 2147483648) : Ct l G N0 yL_total (Cond.codeWith yL_total cL_total 4 (some FieldType.int) [(0, 9, 12, 29)] :: LW) ({ frames := 8, cells := 4, slots := 24, locals := 320 }) [vR (g 0), vI i9, vR ao] h (fun r h' => (¬ (¬ (0 ≤ i9 ∧ i9 < ρ 16 0)) ∧ r = some (vI 0) ∧ ∃ (ρp : Sg) (h1p : Hp), SA (ρ) ρp ∧ CI G g ρp h1p ∧ (∀ a, h1p a ≠ none → h1 a ≠ none ∨ h a = none) ∧ h' = hu (mgH h h1 h1p) ao (eA 7 1 (fun j => vD (if j = 0 then FP.f2d (fb (ρ 23 i9)) else f0 j)))) ∨ (((¬ (0 ≤ i9 ∧ i9 < ρ 16 0))) ∧ r = some (vI 1) ∧ ∃ (ρp : Sg) (h1p : Hp), SA ρ ρp ∧ CI G g ρp h1p ∧ (∀ a, h1p a ≠ none → h1 a ≠ none ∨ h a = none) ∧ h' = mgH h h1 h1p)) := by
  refine ctC_of rfl rfl ?_
  intro p e s m args below meth c F hr htab
  have F : Fx p s m args meth c RL cL_total 4 G N0 (cA h s.heap.size) := F
  show Z _ _ _ _ _ _ _ _ _ _ _ _ _ _ _ _ _ _ _ [(0, vR (g 0)), (1, vI i9), (2, vR ao)] []
  refine z_aload_n F dL_total_0 rfl 2 rfl ?_
  refine z_iconst F dL_total_1 ?_
  refine z_aload_n F dL_total_2 rfl 0 rfl ?_
  refine z_iload_n F dL_total_3 rfl 1 rfl ?_
  refine z_xcallC (As := [vI i9]) (st := [vI 0, vR ao]) F ((mX8_total l G N0 h1 hl9 g ρ i9 hI hV r_i9).frame hs) cvL_116 (hs _ _ (ci_0 hI)) (fun r9 h9 => by cases h9; rfl) rfl rfl ⟨Nat.le_of_ble_eq_true rfl, Nat.le_of_ble_eq_true rfl⟩ rfl ⟨Nat.le_of_ble_eq_true rfl, Nat.le_of_ble_eq_true rfl⟩ dL_total_4 ?_ ?_
  · intro E h9 hx
    obtain ⟨h1p, ⟨ρp, S1, I1, hd⟩, D1, rfl⟩ := hx
    obtain ⟨rfl, nc⟩ := hd
    · refine ⟨[], ⟨0, 9, 12, 29⟩, [], htab.trans rfl, (fun z hz => by
          exact absurd hz (List.not_mem_nil)), rfl, (by decide : 29 ≠ 0), "java/lang/IndexOutOfBoundsException", q828, List.mem_of_getElem? (i := 5) rfl, fun q => ?_⟩
      refine z_astore_n (lv' := [(3, vR q), (0, vR (g 0)), (1, vI i9), (2, vR ao)]) F dL_total_12 rfl (by decide) rfl ?_
      refine z_iconst F dL_total_13 ?_
      exact z_iret (nf_i _) F hr (Nat.le_of_ble_eq_true rfl) (Nat.le_of_ble_eq_true rfl) dL_total_14 (Or.inr (⟨nc, rfl, ρp, h1p, S1, I1, D1, rfl⟩))
  · rintro _ h9 ⟨h1p, ⟨n0, ρp, rfl, S1, I1⟩, D1, rfl⟩
    show Z _ _ _ _ _ _ _ _ _ _ _ _ _ _ _ _ _ _ _ _ [vF (fb (ρ 23 i9)), vI 0, vR ao]
    refine z_f2d F dL_total_7 (f2d_n (hV.tot (by omega))) ?_
    obtain ⟨h1, eh1⟩ : ∃ z : Hp, hu (mgH h h1 h1p) ao (eA 7 1 (fun j => vD (if j = 0 then FP.f2d (fb (ρ 23 i9)) else f0 j))) = z := ⟨_, rfl⟩
    refine z_dastore (N := 1) (f := fun j => f0 j) (h' := h1) F (mgH_out hoo ho) (by omega) (by omega) (by omega) dL_total_8 eh1 ?_
    have g2 : h1 ao = some (eA 7 1 (fun j => vD (if j = 0 then FP.f2d (fb (ρ 23 i9)) else f0 j))) := by rw [← eh1]; exact hu_s _ _ _
    refine z_goto (tgt := 15) F dL_total_9 (by decide) ?_
    refine z_iconst F dL_total_15 ?_
    exact z_iret (nf_i _) F hr (Nat.le_of_ble_eq_true rfl) (Nat.le_of_ble_eq_true rfl) dL_total_16 (Or.inl ⟨n0, rfl, ρp, h1p, S1, I1, D1, eh1.symm⟩)
set_option maxRecDepth 100000 in
set_option maxHeartbeats 4000000 in
theorem mL_lineAmount (l : Launch) (G : GG) (N0 : Nat) (h : Hp) (hl9 : l.stackTraces = false) (g : Int → Nat) (ρ : Sg) (h1 : Hp) (ao : Nat) (f0 : Int → UInt64) (i9 q9 : Int) (hI : CI G g ρ h1) (hV : MC ρ) (hs : SB h1 h) (ho : h ao = some (eA 7 1 (fun j => vD (f0 j)))) (hoo : h1 ao = none) (r_i9 : -2147483648 ≤ i9 ∧ i9 < 2147483648) (r_q9 : -2147483648 ≤ q9 ∧ q9 < 2147483648) : Ct l G N0 yL_lineAmount (Cond.codeWith yL_lineAmount cL_lineAmount 5 (some FieldType.int) [(0, 10, 13, 29)] :: LW) ({ frames := 9, cells := 3, slots := 18, locals := 360 }) [vR (g 0), vI i9, vI q9, vR ao] h (fun r h' => (¬ (¬ ((0 ≤ i9 ∧ i9 < ρ 16 0) ∧ (0 ≤ q9 ∧ q9 < ρ 17 i9))) ∧ r = some (vI 0) ∧ ∃ (ρp : Sg) (h1p : Hp), SA (ρ) ρp ∧ CI G g ρp h1p ∧ (∀ a, h1p a ≠ none → h1 a ≠ none ∨ h a = none) ∧ h' = hu (mgH h h1 h1p) ao (eA 7 1 (fun j => vD (if j = 0 then FP.f2d (fb (ρ 22 (40 * i9 + q9))) else f0 j)))) ∨ (((¬ ((0 ≤ i9 ∧ i9 < ρ 16 0) ∧ (0 ≤ q9 ∧ q9 < ρ 17 i9)))) ∧ r = some (vI 1) ∧ ∃ (ρp : Sg) (h1p : Hp), SA ρ ρp ∧ CI G g ρp h1p ∧ (∀ a, h1p a ≠ none → h1 a ≠ none ∨ h a = none) ∧ h' = mgH h h1 h1p)) := by
  refine ctC_of rfl rfl ?_
  intro p e s m args below meth c F hr htab
  have F : Fx p s m args meth c RL cL_lineAmount 5 G N0 (cA h s.heap.size) := F
  show Z _ _ _ _ _ _ _ _ _ _ _ _ _ _ _ _ _ _ _ [(0, vR (g 0)), (1, vI i9), (2, vI q9), (3, vR ao)] []
  refine z_aload_n F dL_lineAmount_0 rfl 3 rfl ?_
  refine z_iconst F dL_lineAmount_1 ?_
  refine z_aload_n F dL_lineAmount_2 rfl 0 rfl ?_
  refine z_iload_n F dL_lineAmount_3 rfl 1 rfl ?_
  refine z_iload_n F dL_lineAmount_4 rfl 2 rfl ?_
  refine z_xcallC (As := [vI i9, vI q9]) (st := [vI 0, vR ao]) F ((mX8_lineAmount l G N0 h1 hl9 g ρ i9 q9 hI hV r_i9 r_q9).frame hs) cvL_112 (hs _ _ (ci_0 hI)) (fun r9 h9 => by cases h9; rfl) rfl rfl ⟨Nat.le_of_ble_eq_true rfl, Nat.le_of_ble_eq_true rfl⟩ rfl ⟨Nat.le_of_ble_eq_true rfl, Nat.le_of_ble_eq_true rfl⟩ dL_lineAmount_5 ?_ ?_
  · intro E h9 hx
    obtain ⟨h1p, ⟨ρp, S1, I1, hd⟩, D1, rfl⟩ := hx
    obtain ⟨rfl, nc⟩ := hd
    · refine ⟨[], ⟨0, 10, 13, 29⟩, [], htab.trans rfl, (fun z hz => by
          exact absurd hz (List.not_mem_nil)), rfl, (by decide : 29 ≠ 0), "java/lang/IndexOutOfBoundsException", q828, List.mem_of_getElem? (i := 5) rfl, fun q => ?_⟩
      refine z_astore (lv' := [(4, vR q), (0, vR (g 0)), (1, vI i9), (2, vI q9), (3, vR ao)]) F dL_lineAmount_13 (by decide) rfl ?_
      refine z_iconst F dL_lineAmount_15 ?_
      exact z_iret (nf_i _) F hr (Nat.le_of_ble_eq_true rfl) (Nat.le_of_ble_eq_true rfl) dL_lineAmount_16 (Or.inr (⟨nc, rfl, ρp, h1p, S1, I1, D1, rfl⟩))
  · rintro _ h9 ⟨h1p, ⟨n0, ρp, rfl, S1, I1⟩, D1, rfl⟩
    show Z _ _ _ _ _ _ _ _ _ _ _ _ _ _ _ _ _ _ _ _ [vF (fb (ρ 22 (40 * i9 + q9))), vI 0, vR ao]
    refine z_f2d F dL_lineAmount_8 (f2d_n (hV.am (by omega) (by omega))) ?_
    obtain ⟨h1, eh1⟩ : ∃ z : Hp, hu (mgH h h1 h1p) ao (eA 7 1 (fun j => vD (if j = 0 then FP.f2d (fb (ρ 22 (40 * i9 + q9))) else f0 j))) = z := ⟨_, rfl⟩
    refine z_dastore (N := 1) (f := fun j => f0 j) (h' := h1) F (mgH_out hoo ho) (by omega) (by omega) (by omega) dL_lineAmount_9 eh1 ?_
    have g2 : h1 ao = some (eA 7 1 (fun j => vD (if j = 0 then FP.f2d (fb (ρ 22 (40 * i9 + q9))) else f0 j))) := by rw [← eh1]; exact hu_s _ _ _
    refine z_goto (tgt := 17) F dL_lineAmount_10 (by decide) ?_
    refine z_iconst F dL_lineAmount_17 ?_
    exact z_iret (nf_i _) F hr (Nat.le_of_ble_eq_true rfl) (Nat.le_of_ble_eq_true rfl) dL_lineAmount_18 (Or.inl ⟨n0, rfl, ρp, h1p, S1, I1, D1, eh1.symm⟩)
set_option maxRecDepth 100000 in
set_option maxHeartbeats 4000000 in
theorem mL_budgetShare (l : Launch) (G : GG) (N0 : Nat) (h : Hp) (hl9 : l.stackTraces = false) (g : Int → Nat) (ρ : Sg) (h1 : Hp) (ao : Nat) (f0 : Int → UInt64) (c9 : Int) (hI : CI G g ρ h1) (hV : MC ρ) (hs : SB h1 h) (ho : h ao = some (eA 7 1 (fun j => vD (f0 j)))) (hoo : h1 ao = none) (r_c9 : -2147483648 ≤ c9 ∧ c9 < 2147483648) : Ct l G N0 yL_budgetShare (Cond.codeWith yL_budgetShare cL_budgetShare 4 (some FieldType.int) [(0, 9, 12, 29), (0, 9, 15, 135)] :: LW) ({ frames := 11, cells := 29, slots := 2450, locals := 600 }) [vR (g 0), vI c9, vR ao] h (fun r h' => (¬ (¬ (0 ≤ c9 ∧ c9 < ρ 2 0)) ∧ ¬ (ρ 7 c9 = 0) ∧ r = some (vI 0) ∧ ∃ (ρp : Sg) (h1p : Hp), SA (ρ) ρp ∧ CI G g ρp h1p ∧ (∀ a, h1p a ≠ none → h1 a ≠ none ∨ h a = none) ∧ h' = hu (mgH h h1 h1p) ao (eA 7 1 (fun j => vD (if j = 0 then FP.f2d (shF ρ c9) else f0 j)))) ∨ (((¬ (0 ≤ c9 ∧ c9 < ρ 2 0))) ∧ r = some (vI 1) ∧ ∃ (ρp : Sg) (h1p : Hp), SA ρ ρp ∧ CI G g ρp h1p ∧ (∀ a, h1p a ≠ none → h1 a ≠ none ∨ h a = none) ∧ h' = mgH h h1 h1p) ∨ ((¬ (¬ (0 ≤ c9 ∧ c9 < ρ 2 0)) ∧ (ρ 7 c9 = 0)) ∧ r = some (vI 2) ∧ ∃ (ρp : Sg) (h1p : Hp), SA ρ ρp ∧ CI G g ρp h1p ∧ (∀ a, h1p a ≠ none → h1 a ≠ none ∨ h a = none) ∧ h' = mgH h h1 h1p)) := by
  refine ctC_of rfl rfl ?_
  intro p e s m args below meth c F hr htab
  have F : Fx p s m args meth c RL cL_budgetShare 4 G N0 (cA h s.heap.size) := F
  show Z _ _ _ _ _ _ _ _ _ _ _ _ _ _ _ _ _ _ _ [(0, vR (g 0)), (1, vI c9), (2, vR ao)] []
  refine z_aload_n F dL_budgetShare_0 rfl 2 rfl ?_
  refine z_iconst F dL_budgetShare_1 ?_
  refine z_aload_n F dL_budgetShare_2 rfl 0 rfl ?_
  refine z_iload_n F dL_budgetShare_3 rfl 1 rfl ?_
  refine z_xcallC (As := [vI c9]) (st := [vI 0, vR ao]) F ((mX8_budgetShare l G N0 h1 hl9 g ρ c9 hI hV r_c9).frame hs) cvL_132 (hs _ _ (ci_0 hI)) (fun r9 h9 => by cases h9; rfl) rfl rfl ⟨Nat.le_of_ble_eq_true rfl, Nat.le_of_ble_eq_true rfl⟩ rfl ⟨Nat.le_of_ble_eq_true rfl, Nat.le_of_ble_eq_true rfl⟩ dL_budgetShare_4 ?_ ?_
  · intro E h9 hx
    obtain ⟨h1p, ⟨ρp, S1, I1, hd⟩, D1, rfl⟩ := hx
    rcases hd with ⟨rfl, nc⟩ | ⟨rfl, nc⟩
    · refine ⟨[], ⟨0, 9, 12, 29⟩, [⟨0, 9, 15, 135⟩], htab.trans rfl, (fun z hz => by
          exact absurd hz (List.not_mem_nil)), rfl, (by decide : 29 ≠ 0), "java/lang/IndexOutOfBoundsException", q828, List.mem_of_getElem? (i := 5) rfl, fun q => ?_⟩
      refine z_astore_n (lv' := [(3, vR q), (0, vR (g 0)), (1, vI c9), (2, vR ao)]) F dL_budgetShare_12 rfl (by decide) rfl ?_
      refine z_iconst F dL_budgetShare_13 ?_
      exact z_iret (nf_i _) F hr (Nat.le_of_ble_eq_true rfl) (Nat.le_of_ble_eq_true rfl) dL_budgetShare_14 (Or.inr (Or.inl ⟨nc, rfl, ρp, h1p, S1, I1, D1, rfl⟩))
    · refine ⟨[⟨0, 9, 12, 29⟩], ⟨0, 9, 15, 135⟩, [], htab.trans rfl, (fun z hz => by
          rcases List.mem_cons.mp hz with z9 | hz
          · rw [z9]; exact ⟨(by decide : 29 ≠ 0), "java/lang/IndexOutOfBoundsException", q828, List.mem_of_getElem? (i := 2) rfl⟩
          exact absurd hz (List.not_mem_nil)), rfl, (by decide : 135 ≠ 0), "java/lang/ArithmeticException", q1410, List.mem_of_getElem? (i := 9) rfl, fun q => ?_⟩
      refine z_astore_n (lv' := [(3, vR q), (0, vR (g 0)), (1, vI c9), (2, vR ao)]) F dL_budgetShare_15 rfl (by decide) rfl ?_
      refine z_iconst F dL_budgetShare_16 ?_
      exact z_iret (nf_i _) F hr (Nat.le_of_ble_eq_true rfl) (Nat.le_of_ble_eq_true rfl) dL_budgetShare_17 (Or.inr (Or.inr (⟨nc, rfl, ρp, h1p, S1, I1, D1, rfl⟩)))
  · rintro _ h9 ⟨h1p, ⟨n0, n1, ρp, rfl, S1, I1⟩, D1, rfl⟩
    show Z _ _ _ _ _ _ _ _ _ _ _ _ _ _ _ _ _ _ _ _ [vF (shF ρ c9), vI 0, vR ao]
    refine z_f2d F dL_budgetShare_7 (f2d_n (hV.sh (by omega) (by omega))) ?_
    obtain ⟨h1, eh1⟩ : ∃ z : Hp, hu (mgH h h1 h1p) ao (eA 7 1 (fun j => vD (if j = 0 then FP.f2d (shF ρ c9) else f0 j))) = z := ⟨_, rfl⟩
    refine z_dastore (N := 1) (f := fun j => f0 j) (h' := h1) F (mgH_out hoo ho) (by omega) (by omega) (by omega) dL_budgetShare_8 eh1 ?_
    have g2 : h1 ao = some (eA 7 1 (fun j => vD (if j = 0 then FP.f2d (shF ρ c9) else f0 j))) := by rw [← eh1]; exact hu_s _ _ _
    refine z_goto (tgt := 18) F dL_budgetShare_9 (by decide) ?_
    refine z_iconst F dL_budgetShare_18 ?_
    exact z_iret (nf_i _) F hr (Nat.le_of_ble_eq_true rfl) (Nat.le_of_ble_eq_true rfl) dL_budgetShare_19 (Or.inl ⟨n0, n1, rfl, ρp, h1p, S1, I1, D1, eh1.symm⟩)
set_option maxRecDepth 100000 in
set_option maxHeartbeats 4000000 in
theorem mL_meanMinutes (l : Launch) (G : GG) (N0 : Nat) (h : Hp) (hl9 : l.stackTraces = false) (g : Int → Nat) (ρ : Sg) (h1 : Hp) (ao : Nat) (f0 : Int → UInt64) (hI : CI G g ρ h1) (hV : MC ρ) (hs : SB h1 h) (ho : h ao = some (eA 7 1 (fun j => vD (f0 j)))) (hoo : h1 ao = none) : Ct l G N0 yL_meanMinutes (Cond.codeWith yL_meanMinutes cL_meanMinutes 3 (some FieldType.int) [(0, 7, 10, 135)] :: LW) ({ frames := 8, cells := 4, slots := 24, locals := 320 }) [vR (g 0), vR ao] h (fun r h' => (¬ (keptS ρ = 0) ∧ r = some (vI 0) ∧ ∃ (ρp : Sg) (h1p : Hp), SA (ρ) ρp ∧ CI G g ρp h1p ∧ (∀ a, h1p a ≠ none → h1 a ≠ none ∨ h a = none) ∧ h' = hu (mgH h h1 h1p) ao (eA 7 1 (fun j => vD (if j = 0 then (meanS ρ) else f0 j)))) ∨ (((keptS ρ = 0)) ∧ r = some (vI 1) ∧ ∃ (ρp : Sg) (h1p : Hp), SA ρ ρp ∧ CI G g ρp h1p ∧ (∀ a, h1p a ≠ none → h1 a ≠ none ∨ h a = none) ∧ h' = mgH h h1 h1p)) := by
  refine ctC_of rfl rfl ?_
  intro p e s m args below meth c F hr htab
  have F : Fx p s m args meth c RL cL_meanMinutes 3 G N0 (cA h s.heap.size) := F
  show Z _ _ _ _ _ _ _ _ _ _ _ _ _ _ _ _ _ _ _ [(0, vR (g 0)), (1, vR ao)] []
  refine z_aload_n F dL_meanMinutes_0 rfl 1 rfl ?_
  refine z_iconst F dL_meanMinutes_1 ?_
  refine z_aload_n F dL_meanMinutes_2 rfl 0 rfl ?_
  refine z_xcallC (As := []) (st := [vI 0, vR ao]) F ((mX8_meanMinutes l G N0 h1 hl9 g ρ hI hV).frame hs) cvL_140 (hs _ _ (ci_0 hI)) (fun r9 h9 => by cases h9; rfl) rfl rfl ⟨Nat.le_of_ble_eq_true rfl, Nat.le_of_ble_eq_true rfl⟩ rfl ⟨Nat.le_of_ble_eq_true rfl, Nat.le_of_ble_eq_true rfl⟩ dL_meanMinutes_3 ?_ ?_
  · intro E h9 hx
    obtain ⟨h1p, ⟨ρp, S1, I1, hd⟩, D1, rfl⟩ := hx
    obtain ⟨rfl, nc⟩ := hd
    · refine ⟨[], ⟨0, 7, 10, 135⟩, [], htab.trans rfl, (fun z hz => by
          exact absurd hz (List.not_mem_nil)), rfl, (by decide : 135 ≠ 0), "java/lang/ArithmeticException", q1410, List.mem_of_getElem? (i := 9) rfl, fun q => ?_⟩
      refine z_astore_n (lv' := [(2, vR q), (0, vR (g 0)), (1, vR ao)]) F dL_meanMinutes_10 rfl (by decide) rfl ?_
      refine z_iconst F dL_meanMinutes_11 ?_
      exact z_iret (nf_i _) F hr (Nat.le_of_ble_eq_true rfl) (Nat.le_of_ble_eq_true rfl) dL_meanMinutes_12 (Or.inr (⟨nc, rfl, ρp, h1p, S1, I1, D1, rfl⟩))
  · rintro _ h9 ⟨h1p, ⟨n0, ρp, rfl, S1, I1⟩, D1, rfl⟩
    show Z _ _ _ _ _ _ _ _ _ _ _ _ _ _ _ _ _ _ _ _ [vD (meanS ρ), vI 0, vR ao]
    obtain ⟨h1, eh1⟩ : ∃ z : Hp, hu (mgH h h1 h1p) ao (eA 7 1 (fun j => vD (if j = 0 then (meanS ρ) else f0 j))) = z := ⟨_, rfl⟩
    refine z_dastore (N := 1) (f := fun j => f0 j) (h' := h1) F (mgH_out hoo ho) (by omega) (by omega) (by omega) dL_meanMinutes_6 eh1 ?_
    have g2 : h1 ao = some (eA 7 1 (fun j => vD (if j = 0 then (meanS ρ) else f0 j))) := by rw [← eh1]; exact hu_s _ _ _
    refine z_goto (tgt := 13) F dL_meanMinutes_7 (by decide) ?_
    refine z_iconst F dL_meanMinutes_13 ?_
    exact z_iret (nf_i _) F hr (Nat.le_of_ble_eq_true rfl) (Nat.le_of_ble_eq_true rfl) dL_meanMinutes_14 (Or.inl ⟨n0, rfl, ρp, h1p, S1, I1, D1, eh1.symm⟩)
set_option maxRecDepth 100000 in
set_option maxHeartbeats 4000000 in
theorem mL_writeEntry (l : Launch) (G : GG) (N0 : Nat) (h : Hp) (hl9 : l.stackTraces = false) (g : Int → Nat) (ρ : Sg) (h1 : Hp) (ao : Nat) (f0 : Int → Int) (e9 : Int) (hI : CI G g ρ h1) (hV : MC ρ) (hs : SB h1 h) (ho : h ao = some (eA 6 1 (fun j => vL (f0 j)))) (hoo : h1 ao = none) (r_e9 : -2147483648 ≤ e9 ∧ e9 < 2147483648) : Ct l G N0 yL_writeEntry (Cond.codeWith yL_writeEntry cL_writeEntry 4 (some FieldType.int) [(0, 9, 12, 29)] :: LW) ({ frames := 10, cells := 12, slots := 1000, locals := 520 }) [vR (g 0), vI e9, vR ao] h (fun r h' => (¬ (¬ (0 ≤ e9 ∧ e9 < ρ 8 0)) ∧ r = some (vI 0) ∧ ∃ (ρp : Sg) (h1p : Hp), ((∀ k, (scrB k || oB k) = false → ρp k = ρ k) ∧ OU ρp (weL ρ e9)) ∧ CI G g ρp h1p ∧ (∀ a, h1p a ≠ none → h1 a ≠ none ∨ h a = none) ∧ h' = hu (mgH h h1 h1p) ao (eA 6 1 (fun j => vL (if j = 0 then (iI ((weL ρ e9).length : Int)).toInt else f0 j)))) ∨ (((¬ (0 ≤ e9 ∧ e9 < ρ 8 0))) ∧ r = some (vI 1) ∧ ∃ (ρp : Sg) (h1p : Hp), SA ρ ρp ∧ CI G g ρp h1p ∧ (∀ a, h1p a ≠ none → h1 a ≠ none ∨ h a = none) ∧ h' = mgH h h1 h1p)) := by
  refine ctC_of rfl rfl ?_
  intro p e s m args below meth c F hr htab
  have F : Fx p s m args meth c RL cL_writeEntry 4 G N0 (cA h s.heap.size) := F
  show Z _ _ _ _ _ _ _ _ _ _ _ _ _ _ _ _ _ _ _ [(0, vR (g 0)), (1, vI e9), (2, vR ao)] []
  refine z_aload_n F dL_writeEntry_0 rfl 2 rfl ?_
  refine z_iconst F dL_writeEntry_1 ?_
  refine z_aload_n F dL_writeEntry_2 rfl 0 rfl ?_
  refine z_iload_n F dL_writeEntry_3 rfl 1 rfl ?_
  refine z_xcallC (As := [vI e9]) (st := [vI 0, vR ao]) F ((mX8_writeEntry l G N0 h1 hl9 g ρ e9 hI hV r_e9).frame hs) cvL_73 (hs _ _ (ci_0 hI)) (fun r9 h9 => by cases h9; rfl) rfl rfl ⟨Nat.le_of_ble_eq_true rfl, Nat.le_of_ble_eq_true rfl⟩ rfl ⟨Nat.le_of_ble_eq_true rfl, Nat.le_of_ble_eq_true rfl⟩ dL_writeEntry_4 ?_ ?_
  · intro E h9 hx
    obtain ⟨h1p, ⟨ρp, S1, I1, hd⟩, D1, rfl⟩ := hx
    obtain ⟨rfl, nc⟩ := hd
    · refine ⟨[], ⟨0, 9, 12, 29⟩, [], htab.trans rfl, (fun z hz => by
          exact absurd hz (List.not_mem_nil)), rfl, (by decide : 29 ≠ 0), "java/lang/IndexOutOfBoundsException", q828, List.mem_of_getElem? (i := 5) rfl, fun q => ?_⟩
      refine z_astore_n (lv' := [(3, vR q), (0, vR (g 0)), (1, vI e9), (2, vR ao)]) F dL_writeEntry_12 rfl (by decide) rfl ?_
      refine z_iconst F dL_writeEntry_13 ?_
      exact z_iret (nf_i _) F hr (Nat.le_of_ble_eq_true rfl) (Nat.le_of_ble_eq_true rfl) dL_writeEntry_14 (Or.inr (⟨nc, rfl, ρp, h1p, S1, I1, D1, rfl⟩))
  · rintro _ h9 ⟨h1p, ⟨n0, ρp, rfl, S1, O1, I1⟩, D1, rfl⟩
    show Z _ _ _ _ _ _ _ _ _ _ _ _ _ _ _ _ _ _ _ _ [vI ((weL ρ e9).length : Int), vI 0, vR ao]
    refine z_i2l2 F dL_writeEntry_7 ?_
    obtain ⟨h1, eh1⟩ : ∃ z : Hp, hu (mgH h h1 h1p) ao (eA 6 1 (fun j => vL (if j = 0 then (iI ((weL ρ e9).length : Int)).toInt else f0 j))) = z := ⟨_, rfl⟩
    refine z_lastore (N := 1) (f := fun j => f0 j) (h' := h1) F (mgH_out hoo ho) (by omega) (by omega) (by omega) dL_writeEntry_8 eh1 ?_
    have g2 : h1 ao = some (eA 6 1 (fun j => vL (if j = 0 then (iI ((weL ρ e9).length : Int)).toInt else f0 j))) := by rw [← eh1]; exact hu_s _ _ _
    refine z_goto (tgt := 15) F dL_writeEntry_9 (by decide) ?_
    refine z_iconst F dL_writeEntry_15 ?_
    exact z_iret (nf_i _) F hr (Nat.le_of_ble_eq_true rfl) (Nat.le_of_ble_eq_true rfl) dL_writeEntry_16 (Or.inl ⟨n0, rfl, ρp, h1p, ⟨S1, O1⟩, I1, D1, eh1.symm⟩)
set_option maxRecDepth 100000 in
set_option maxHeartbeats 4000000 in
theorem mL_meanBits (l : Launch) (G : GG) (N0 : Nat) (h : Hp) (hl9 : l.stackTraces = false) (g : Int → Nat) (ρ : Sg) (h1 : Hp) (ao : Nat) (f0 : Int → Int) (hI : CI G g ρ h1) (hV : MC ρ) (hs : SB h1 h) (ho : h ao = some (eA 6 1 (fun j => vL (f0 j)))) (hoo : h1 ao = none) : Ct l G N0 yL_meanBits (Cond.codeWith yL_meanBits cL_meanBits 3 (some FieldType.int) [(0, 7, 10, 135)] :: LW) ({ frames := 9, cells := 4, slots := 24, locals := 380 }) [vR (g 0), vR ao] h (fun r h' => (¬ (keptS ρ = 0) ∧ r = some (vI 0) ∧ ∃ (ρp : Sg) (h1p : Hp), SA (ρ) ρp ∧ CI G g ρp h1p ∧ (∀ a, h1p a ≠ none → h1 a ≠ none ∨ h a = none) ∧ h' = hu (mgH h h1 h1p) ao (eA 6 1 (fun j => vL (if j = 0 then (meanS ρ).toInt64.toInt else f0 j)))) ∨ (((keptS ρ = 0)) ∧ r = some (vI 1) ∧ ∃ (ρp : Sg) (h1p : Hp), SA ρ ρp ∧ CI G g ρp h1p ∧ (∀ a, h1p a ≠ none → h1 a ≠ none ∨ h a = none) ∧ h' = mgH h h1 h1p)) := by
  refine ctC_of rfl rfl ?_
  intro p e s m args below meth c F hr htab
  have F : Fx p s m args meth c RL cL_meanBits 3 G N0 (cA h s.heap.size) := F
  show Z _ _ _ _ _ _ _ _ _ _ _ _ _ _ _ _ _ _ _ [(0, vR (g 0)), (1, vR ao)] []
  refine z_aload_n F dL_meanBits_0 rfl 1 rfl ?_
  refine z_iconst F dL_meanBits_1 ?_
  refine z_aload_n F dL_meanBits_2 rfl 0 rfl ?_
  refine z_xcallC (As := []) (st := [vI 0, vR ao]) F ((mX8_meanBits l G N0 h1 hl9 g ρ hI hV).frame hs) cvL_144 (hs _ _ (ci_0 hI)) (fun r9 h9 => by cases h9; rfl) rfl rfl ⟨Nat.le_of_ble_eq_true rfl, Nat.le_of_ble_eq_true rfl⟩ rfl ⟨Nat.le_of_ble_eq_true rfl, Nat.le_of_ble_eq_true rfl⟩ dL_meanBits_3 ?_ ?_
  · intro E h9 hx
    obtain ⟨h1p, ⟨ρp, S1, I1, hd⟩, D1, rfl⟩ := hx
    obtain ⟨rfl, nc⟩ := hd
    · refine ⟨[], ⟨0, 7, 10, 135⟩, [], htab.trans rfl, (fun z hz => by
          exact absurd hz (List.not_mem_nil)), rfl, (by decide : 135 ≠ 0), "java/lang/ArithmeticException", q1410, List.mem_of_getElem? (i := 9) rfl, fun q => ?_⟩
      refine z_astore_n (lv' := [(2, vR q), (0, vR (g 0)), (1, vR ao)]) F dL_meanBits_10 rfl (by decide) rfl ?_
      refine z_iconst F dL_meanBits_11 ?_
      exact z_iret (nf_i _) F hr (Nat.le_of_ble_eq_true rfl) (Nat.le_of_ble_eq_true rfl) dL_meanBits_12 (Or.inr (⟨nc, rfl, ρp, h1p, S1, I1, D1, rfl⟩))
  · rintro _ h9 ⟨h1p, ⟨n0, ρp, rfl, S1, I1⟩, D1, rfl⟩
    show Z _ _ _ _ _ _ _ _ _ _ _ _ _ _ _ _ _ _ _ _ [vL ((meanS ρ).toInt64.toInt), vI 0, vR ao]
    obtain ⟨h1, eh1⟩ : ∃ z : Hp, hu (mgH h h1 h1p) ao (eA 6 1 (fun j => vL (if j = 0 then (meanS ρ).toInt64.toInt else f0 j))) = z := ⟨_, rfl⟩
    refine z_lastore (N := 1) (f := fun j => f0 j) (h' := h1) F (mgH_out hoo ho) (by omega) (by omega) (by omega) dL_meanBits_6 eh1 ?_
    have g2 : h1 ao = some (eA 6 1 (fun j => vL (if j = 0 then (meanS ρ).toInt64.toInt else f0 j))) := by rw [← eh1]; exact hu_s _ _ _
    refine z_goto (tgt := 13) F dL_meanBits_7 (by decide) ?_
    refine z_iconst F dL_meanBits_13 ?_
    exact z_iret (nf_i _) F hr (Nat.le_of_ble_eq_true rfl) (Nat.le_of_ble_eq_true rfl) dL_meanBits_14 (Or.inl ⟨n0, rfl, ρp, h1p, S1, I1, D1, eh1.symm⟩)
