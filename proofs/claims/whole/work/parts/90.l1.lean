theorem z_i2l2 {p : Program} {l : Launch} {e : Env} {R : Room} {s : State} {m : MethodId} {args : Array Value} {below : List Frame} {meth : Method} {c : Code} {own : String} {cc : ByteArray} {nL : Nat} {G : GG} {N0 : Nat} {A : Nat → Prop} {Q : State → Prop} {h : Hp} {k n pc : Nat} {lv : List (Nat × AV)} {st : List AV} (F : Fx p s m args meth c own cc nL G N0 A) {x : Int} (d : decode cc pc = .ok (.i2l, 1)) (K : Z p l e R s m args below meth c nL G N0 A Q h k n (pc + 1) lv (vL (iI x).toInt :: st)) : Z p l e R s m args below meth c nL G N0 A Q h k n pc lv (vI x :: st) := by
  have K1 := z_i2l (x := (iI x).toInt) F d (iI_rng _) K
  intro H locs ls hP hA hS hl
  have K2 := K1 H locs ls hP hA hS hl
  rw [List.map_cons, show cv (vI (iI x).toInt) = cv (vI x) from congrArg Value.int (iI_of _)] at K2
  exact K2
set_option maxRecDepth 100000 in
set_option maxHeartbeats 4000000 in
theorem mL_pass (l : Launch) (G : GG) (N0 : Nat) (h : Hp) (hl9 : l.stackTraces = false) (g : Int → Nat) (ρ : Sg) (h1 : Hp) (ao : Nat) (f0 : Int → Int) (m9 : Int) (hI : CI G g ρ h1) (hV : MC ρ) (hs : SB h1 h) (ho : h ao = some (eA 6 1 (fun j => vL (f0 j)))) (hoo : h1 ao = none) (r_m9 : -2147483648 ≤ m9 ∧ m9 < 2147483648) : Ct l G N0 yL_pass (Cond.codeWith yL_pass cL_pass 4 (some FieldType.int) [(0, 9, 12, 13), (0, 9, 15, 15)] :: LW) ({ frames := 8, cells := 4, slots := 24, locals := 320 }) [vR (g 0), vI m9, vR ao] h (fun r h' => (¬ (¬ (1 ≤ m9 ∧ m9 ≤ 600)) ∧ ¬ (2999 < ρ 0 0 + m9) ∧ r = some (vI 0) ∧ ∃ (ρp : Sg) (h1p : Hp), SA (sw (su ρ 0 0 (ρ 0 0 + m9)) 11 (fun e => if ρ 12 e = 114 then (ρ 0 0 + m9) else ρ 11 e)) ρp ∧ CI G g ρp h1p ∧ (∀ a, h1p a ≠ none → h1 a ≠ none ∨ h a = none) ∧ h' = hu (mgH h h1 h1p) ao (eA 6 1 (fun j => vL (if j = 0 then (iI (ρ 0 0 + m9)).toInt else f0 j)))) ∨ (((¬ (1 ≤ m9 ∧ m9 ≤ 600))) ∧ r = some (vI 1) ∧ ∃ (ρp : Sg) (h1p : Hp), SA ρ ρp ∧ CI G g ρp h1p ∧ (∀ a, h1p a ≠ none → h1 a ≠ none ∨ h a = none) ∧ h' = mgH h h1 h1p) ∨ ((¬ (¬ (1 ≤ m9 ∧ m9 ≤ 600)) ∧ (2999 < ρ 0 0 + m9)) ∧ r = some (vI 2) ∧ ∃ (ρp : Sg) (h1p : Hp), SA ρ ρp ∧ CI G g ρp h1p ∧ (∀ a, h1p a ≠ none → h1 a ≠ none ∨ h a = none) ∧ h' = mgH h h1 h1p)) := by
  refine ctC_of rfl rfl ?_
  intro p e s m args below meth c F hr htab
  have F : Fx p s m args meth c RL cL_pass 4 G N0 (cA h s.heap.size) := F
  show Z _ _ _ _ _ _ _ _ _ _ _ _ _ _ _ _ _ _ _ [(0, vR (g 0)), (1, vI m9), (2, vR ao)] []
  refine z_aload_n F dL_pass_0 rfl 2 rfl ?_
  refine z_iconst F dL_pass_1 ?_
  refine z_aload_n F dL_pass_2 rfl 0 rfl ?_
  refine z_iload_n F dL_pass_3 rfl 1 rfl ?_
  refine z_xcallC (As := [vI m9]) (st := [vI 0, vR ao]) F ((mX8_pass l G N0 h1 hl9 g ρ m9 hI hV r_m9).frame hs) cvL_7 (hs _ _ (ci_0 hI)) (fun r9 h9 => by cases h9; rfl) rfl rfl ⟨Nat.le_of_ble_eq_true rfl, Nat.le_of_ble_eq_true rfl⟩ rfl ⟨Nat.le_of_ble_eq_true rfl, Nat.le_of_ble_eq_true rfl⟩ dL_pass_4 ?_ ?_
  · intro E h9 hx
    obtain ⟨h1p, ⟨ρp, S1, I1, hd⟩, D1, rfl⟩ := hx
    rcases hd with ⟨rfl, nc⟩ | ⟨rfl, nc⟩
    · refine ⟨[], ⟨0, 9, 12, 13⟩, [⟨0, 9, 15, 15⟩], htab.trans rfl, (fun z hz => by
          exact absurd hz (List.not_mem_nil)), rfl, (by decide : 13 ≠ 0), "java/lang/IllegalArgumentException", q728, List.mem_of_getElem? (i := 6) rfl, fun q => ?_⟩
      refine z_astore_n (lv' := [(3, vR q), (0, vR (g 0)), (1, vI m9), (2, vR ao)]) F dL_pass_12 rfl (by decide) rfl ?_
      refine z_iconst F dL_pass_13 ?_
      exact z_iret (nf_i _) F hr (Nat.le_of_ble_eq_true rfl) (Nat.le_of_ble_eq_true rfl) dL_pass_14 (Or.inr (Or.inl ⟨nc, rfl, ρp, h1p, S1, I1, D1, rfl⟩))
    · refine ⟨[⟨0, 9, 12, 13⟩], ⟨0, 9, 15, 15⟩, [], htab.trans rfl, (fun z hz => by
          rcases List.mem_cons.mp hz with z9 | hz
          · rw [z9]; exact ⟨(by decide : 13 ≠ 0), "java/lang/IllegalArgumentException", q728, List.mem_of_getElem? (i := 9) rfl⟩
          exact absurd hz (List.not_mem_nil)), rfl, (by decide : 15 ≠ 0), "java/lang/IllegalStateException", q729, List.mem_of_getElem? (i := 7) rfl, fun q => ?_⟩
      refine z_astore_n (lv' := [(3, vR q), (0, vR (g 0)), (1, vI m9), (2, vR ao)]) F dL_pass_15 rfl (by decide) rfl ?_
      refine z_iconst F dL_pass_16 ?_
      exact z_iret (nf_i _) F hr (Nat.le_of_ble_eq_true rfl) (Nat.le_of_ble_eq_true rfl) dL_pass_17 (Or.inr (Or.inr (⟨nc, rfl, ρp, h1p, S1, I1, D1, rfl⟩)))
  · rintro _ h9 ⟨h1p, ⟨n0, n1, ρp, rfl, S1, I1⟩, D1, rfl⟩
    show Z _ _ _ _ _ _ _ _ _ _ _ _ _ _ _ _ _ _ _ _ [vI (ρ 0 0 + m9), vI 0, vR ao]
    refine z_i2l2 F dL_pass_7 ?_
    obtain ⟨h1, eh1⟩ : ∃ z : Hp, hu (mgH h h1 h1p) ao (eA 6 1 (fun j => vL (if j = 0 then (iI (ρ 0 0 + m9)).toInt else f0 j))) = z := ⟨_, rfl⟩
    refine z_lastore (N := 1) (f := fun j => f0 j) (h' := h1) F (mgH_out hoo ho) (by omega) (by omega) (by omega) dL_pass_8 eh1 ?_
    have g2 : h1 ao = some (eA 6 1 (fun j => vL (if j = 0 then (iI (ρ 0 0 + m9)).toInt else f0 j))) := by rw [← eh1]; exact hu_s _ _ _
    refine z_goto (tgt := 18) F dL_pass_9 (by decide) ?_
    refine z_iconst F dL_pass_18 ?_
    exact z_iret (nf_i _) F hr (Nat.le_of_ble_eq_true rfl) (Nat.le_of_ble_eq_true rfl) dL_pass_19 (Or.inl ⟨n0, n1, rfl, ρp, h1p, S1, I1, D1, eh1.symm⟩)
set_option maxRecDepth 100000 in
set_option maxHeartbeats 4000000 in
theorem mL_setRule (l : Launch) (G : GG) (N0 : Nat) (h : Hp) (hl9 : l.stackTraces = false) (g : Int → Nat) (ρ : Sg) (h1 : Hp) (ao : Nat) (f0 : Int → Int) (ru : Int) (hI : CI G g ρ h1) (hV : MC ρ) (hs : SB h1 h) (ho : h ao = some (eA 6 1 (fun j => vL (f0 j)))) (hoo : h1 ao = none) (r_ru : 0 ≤ ru ∧ ru < 65536) : Ct l G N0 yL_setRule (Cond.codeWith yL_setRule cL_setRule 4 (some FieldType.int) [(0, 9, 12, 13)] :: LW) ({ frames := 8, cells := 4, slots := 24, locals := 320 }) [vR (g 0), vI ru, vR ao] h (fun r h' => (¬ (ru ≠ 102 ∧ ru ≠ 108 ∧ ru ≠ 115) ∧ r = some (vI 0) ∧ ∃ (ρp : Sg) (h1p : Hp), SA (su ρ 1 0 ru) ρp ∧ CI G g ρp h1p ∧ (∀ a, h1p a ≠ none → h1 a ≠ none ∨ h a = none) ∧ h' = hu (mgH h h1 h1p) ao (eA 6 1 (fun j => vL (if j = 0 then (iI (ρ 1 0)).toInt else f0 j)))) ∨ (((ru ≠ 102 ∧ ru ≠ 108 ∧ ru ≠ 115)) ∧ r = some (vI 1) ∧ ∃ (ρp : Sg) (h1p : Hp), SA ρ ρp ∧ CI G g ρp h1p ∧ (∀ a, h1p a ≠ none → h1 a ≠ none ∨ h a = none) ∧ h' = mgH h h1 h1p)) := by
  refine ctC_of rfl rfl ?_
  intro p e s m args below meth c F hr htab
  have F : Fx p s m args meth c RL cL_setRule 4 G N0 (cA h s.heap.size) := F
  show Z _ _ _ _ _ _ _ _ _ _ _ _ _ _ _ _ _ _ _ [(0, vR (g 0)), (1, vI ru), (2, vR ao)] []
  refine z_aload_n F dL_setRule_0 rfl 2 rfl ?_
  refine z_iconst F dL_setRule_1 ?_
  refine z_aload_n F dL_setRule_2 rfl 0 rfl ?_
  refine z_iload_n F dL_setRule_3 rfl 1 rfl ?_
  refine z_xcallC (As := [vI ru]) (st := [vI 0, vR ao]) F ((mX8_setRule l G N0 h1 hl9 g ρ ru hI hV r_ru).frame hs) cvL_17 (hs _ _ (ci_0 hI)) (fun r9 h9 => by cases h9; rfl) rfl rfl ⟨Nat.le_of_ble_eq_true rfl, Nat.le_of_ble_eq_true rfl⟩ rfl ⟨Nat.le_of_ble_eq_true rfl, Nat.le_of_ble_eq_true rfl⟩ dL_setRule_4 ?_ ?_
  · intro E h9 hx
    obtain ⟨h1p, ⟨ρp, S1, I1, hd⟩, D1, rfl⟩ := hx
    obtain ⟨rfl, nc⟩ := hd
    · refine ⟨[], ⟨0, 9, 12, 13⟩, [], htab.trans rfl, (fun z hz => by
          exact absurd hz (List.not_mem_nil)), rfl, (by decide : 13 ≠ 0), "java/lang/IllegalArgumentException", q728, List.mem_of_getElem? (i := 6) rfl, fun q => ?_⟩
      refine z_astore_n (lv' := [(3, vR q), (0, vR (g 0)), (1, vI ru), (2, vR ao)]) F dL_setRule_12 rfl (by decide) rfl ?_
      refine z_iconst F dL_setRule_13 ?_
      exact z_iret (nf_i _) F hr (Nat.le_of_ble_eq_true rfl) (Nat.le_of_ble_eq_true rfl) dL_setRule_14 (Or.inr (⟨nc, rfl, ρp, h1p, S1, I1, D1, rfl⟩))
  · rintro _ h9 ⟨h1p, ⟨n0, ρp, rfl, S1, I1⟩, D1, rfl⟩
    show Z _ _ _ _ _ _ _ _ _ _ _ _ _ _ _ _ _ _ _ _ [vI (ρ 1 0), vI 0, vR ao]
    refine z_i2l2 F dL_setRule_7 ?_
    obtain ⟨h1, eh1⟩ : ∃ z : Hp, hu (mgH h h1 h1p) ao (eA 6 1 (fun j => vL (if j = 0 then (iI (ρ 1 0)).toInt else f0 j))) = z := ⟨_, rfl⟩
    refine z_lastore (N := 1) (f := fun j => f0 j) (h' := h1) F (mgH_out hoo ho) (by omega) (by omega) (by omega) dL_setRule_8 eh1 ?_
    have g2 : h1 ao = some (eA 6 1 (fun j => vL (if j = 0 then (iI (ρ 1 0)).toInt else f0 j))) := by rw [← eh1]; exact hu_s _ _ _
    refine z_goto (tgt := 15) F dL_setRule_9 (by decide) ?_
    refine z_iconst F dL_setRule_15 ?_
    exact z_iret (nf_i _) F hr (Nat.le_of_ble_eq_true rfl) (Nat.le_of_ble_eq_true rfl) dL_setRule_16 (Or.inl ⟨n0, rfl, ρp, h1p, S1, I1, D1, eh1.symm⟩)
set_option maxRecDepth 100000 in
set_option maxHeartbeats 4000000 in
theorem mL_setRounding (l : Launch) (G : GG) (N0 : Nat) (h : Hp) (hl9 : l.stackTraces = false) (g : Int → Nat) (ρ : Sg) (h1 : Hp) (ao : Nat) (f0 : Int → Int) (c9 u9 mo le : Int) (hI : CI G g ρ h1) (hV : MC ρ) (hs : SB h1 h) (ho : h ao = some (eA 6 1 (fun j => vL (f0 j)))) (hoo : h1 ao = none) (r_c9 : -2147483648 ≤ c9 ∧ c9 < 2147483648) (r_u9 : -2147483648 ≤ u9 ∧ u9 < 2147483648) (r_mo : 0 ≤ mo ∧ mo < 65536) (r_le : 0 ≤ le ∧ le < 65536) : Ct l G N0 yL_setRounding (Cond.codeWith yL_setRounding cL_setRounding 7 (some FieldType.int) [(0, 14, 17, 29), (0, 14, 21, 13)] :: LW) ({ frames := 8, cells := 4, slots := 24, locals := 320 }) [vR (g 0), vI c9, vI u9, vI mo, vI le, vR ao] h (fun r h' => (¬ (¬ (0 ≤ c9 ∧ c9 < ρ 2 0)) ∧ ¬ (¬ ((1 ≤ u9 ∧ u9 ≤ 60) ∧ (mo = 117 ∨ mo = 100 ∨ mo = 110) ∧ (le = 101 ∨ le = 100 ∨ le = 99))) ∧ r = some (vI 0) ∧ ∃ (ρp : Sg) (h1p : Hp), SA (su (su (su ρ 3 c9 u9) 4 c9 mo) 5 c9 le) ρp ∧ CI G g ρp h1p ∧ (∀ a, h1p a ≠ none → h1 a ≠ none ∨ h a = none) ∧ h' = hu (mgH h h1 h1p) ao (eA 6 1 (fun j => vL (if j = 0 then (iI (ρ 3 c9)).toInt else f0 j)))) ∨ (((¬ (0 ≤ c9 ∧ c9 < ρ 2 0))) ∧ r = some (vI 1) ∧ ∃ (ρp : Sg) (h1p : Hp), SA ρ ρp ∧ CI G g ρp h1p ∧ (∀ a, h1p a ≠ none → h1 a ≠ none ∨ h a = none) ∧ h' = mgH h h1 h1p) ∨ ((¬ (¬ (0 ≤ c9 ∧ c9 < ρ 2 0)) ∧ (¬ ((1 ≤ u9 ∧ u9 ≤ 60) ∧ (mo = 117 ∨ mo = 100 ∨ mo = 110) ∧ (le = 101 ∨ le = 100 ∨ le = 99)))) ∧ r = some (vI 2) ∧ ∃ (ρp : Sg) (h1p : Hp), SA ρ ρp ∧ CI G g ρp h1p ∧ (∀ a, h1p a ≠ none → h1 a ≠ none ∨ h a = none) ∧ h' = mgH h h1 h1p)) := by
  refine ctC_of rfl rfl ?_
  intro p e s m args below meth c F hr htab
  have F : Fx p s m args meth c RL cL_setRounding 7 G N0 (cA h s.heap.size) := F
  show Z _ _ _ _ _ _ _ _ _ _ _ _ _ _ _ _ _ _ _ [(0, vR (g 0)), (1, vI c9), (2, vI u9), (3, vI mo), (4, vI le), (5, vR ao)] []
  refine z_aload F dL_setRounding_0 5 rfl ?_
  refine z_iconst F dL_setRounding_2 ?_
  refine z_aload_n F dL_setRounding_3 rfl 0 rfl ?_
  refine z_iload_n F dL_setRounding_4 rfl 1 rfl ?_
  refine z_iload_n F dL_setRounding_5 rfl 2 rfl ?_
  refine z_iload_n F dL_setRounding_6 rfl 3 rfl ?_
  refine z_iload F dL_setRounding_7 4 rfl ?_
  refine z_xcallC (As := [vI c9, vI u9, vI mo, vI le]) (st := [vI 0, vR ao]) F ((mX8_setRounding l G N0 h1 hl9 g ρ c9 u9 mo le hI hV r_c9 r_u9 r_mo r_le).frame hs) cvL_25 (hs _ _ (ci_0 hI)) (fun r9 h9 => by cases h9; rfl) rfl rfl ⟨Nat.le_of_ble_eq_true rfl, Nat.le_of_ble_eq_true rfl⟩ rfl ⟨Nat.le_of_ble_eq_true rfl, Nat.le_of_ble_eq_true rfl⟩ dL_setRounding_9 ?_ ?_
  · intro E h9 hx
    obtain ⟨h1p, ⟨ρp, S1, I1, hd⟩, D1, rfl⟩ := hx
    rcases hd with ⟨rfl, nc⟩ | ⟨rfl, nc⟩
    · refine ⟨[], ⟨0, 14, 17, 29⟩, [⟨0, 14, 21, 13⟩], htab.trans rfl, (fun z hz => by
          exact absurd hz (List.not_mem_nil)), rfl, (by decide : 29 ≠ 0), "java/lang/IndexOutOfBoundsException", q828, List.mem_of_getElem? (i := 5) rfl, fun q => ?_⟩
      refine z_astore (lv' := [(6, vR q), (0, vR (g 0)), (1, vI c9), (2, vI u9), (3, vI mo), (4, vI le), (5, vR ao)]) F dL_setRounding_17 (by decide) rfl ?_
      refine z_iconst F dL_setRounding_19 ?_
      exact z_iret (nf_i _) F hr (Nat.le_of_ble_eq_true rfl) (Nat.le_of_ble_eq_true rfl) dL_setRounding_20 (Or.inr (Or.inl ⟨nc, rfl, ρp, h1p, S1, I1, D1, rfl⟩))
    · refine ⟨[⟨0, 14, 17, 29⟩], ⟨0, 14, 21, 13⟩, [], htab.trans rfl, (fun z hz => by
          rcases List.mem_cons.mp hz with z9 | hz
          · rw [z9]; exact ⟨(by decide : 29 ≠ 0), "java/lang/IndexOutOfBoundsException", q828, List.mem_of_getElem? (i := 6) rfl⟩
          exact absurd hz (List.not_mem_nil)), rfl, (by decide : 13 ≠ 0), "java/lang/IllegalArgumentException", q728, List.mem_of_getElem? (i := 6) rfl, fun q => ?_⟩
      refine z_astore (lv' := [(6, vR q), (0, vR (g 0)), (1, vI c9), (2, vI u9), (3, vI mo), (4, vI le), (5, vR ao)]) F dL_setRounding_21 (by decide) rfl ?_
      refine z_iconst F dL_setRounding_23 ?_
      exact z_iret (nf_i _) F hr (Nat.le_of_ble_eq_true rfl) (Nat.le_of_ble_eq_true rfl) dL_setRounding_24 (Or.inr (Or.inr (⟨nc, rfl, ρp, h1p, S1, I1, D1, rfl⟩)))
  · rintro _ h9 ⟨h1p, ⟨n0, n1, ρp, rfl, S1, I1⟩, D1, rfl⟩
    show Z _ _ _ _ _ _ _ _ _ _ _ _ _ _ _ _ _ _ _ _ [vI (ρ 3 c9), vI 0, vR ao]
    refine z_i2l2 F dL_setRounding_12 ?_
    obtain ⟨h1, eh1⟩ : ∃ z : Hp, hu (mgH h h1 h1p) ao (eA 6 1 (fun j => vL (if j = 0 then (iI (ρ 3 c9)).toInt else f0 j))) = z := ⟨_, rfl⟩
    refine z_lastore (N := 1) (f := fun j => f0 j) (h' := h1) F (mgH_out hoo ho) (by omega) (by omega) (by omega) dL_setRounding_13 eh1 ?_
    have g2 : h1 ao = some (eA 6 1 (fun j => vL (if j = 0 then (iI (ρ 3 c9)).toInt else f0 j))) := by rw [← eh1]; exact hu_s _ _ _
    refine z_goto (tgt := 25) F dL_setRounding_14 (by decide) ?_
    refine z_iconst F dL_setRounding_25 ?_
    exact z_iret (nf_i _) F hr (Nat.le_of_ble_eq_true rfl) (Nat.le_of_ble_eq_true rfl) dL_setRounding_26 (Or.inl ⟨n0, n1, rfl, ρp, h1p, S1, I1, D1, eh1.symm⟩)
set_option maxRecDepth 100000 in
set_option maxHeartbeats 4000000 in
theorem mL_setRate (l : Launch) (G : GG) (N0 : Nat) (h : Hp) (hl9 : l.stackTraces = false) (g : Int → Nat) (ρ : Sg) (h1 : Hp) (ao : Nat) (f0 : Int → Int) (c9 ra : Int) (hI : CI G g ρ h1) (hV : MC ρ) (hs : SB h1 h) (ho : h ao = some (eA 6 1 (fun j => vL (f0 j)))) (hoo : h1 ao = none) (r_c9 : -2147483648 ≤ c9 ∧ c9 < 2147483648) (r_ra : -2147483648 ≤ ra ∧ ra < 2147483648) : Ct l G N0 yL_setRate (Cond.codeWith yL_setRate cL_setRate 5 (some FieldType.int) [(0, 10, 13, 29), (0, 10, 17, 13)] :: LW) ({ frames := 8, cells := 4, slots := 24, locals := 320 }) [vR (g 0), vI c9, vI ra, vR ao] h (fun r h' => (¬ (¬ (0 ≤ c9 ∧ c9 < ρ 2 0)) ∧ ¬ (¬ (0 ≤ ra ∧ ra ≤ 50000)) ∧ r = some (vI 0) ∧ ∃ (ρp : Sg) (h1p : Hp), SA (su ρ 6 c9 ra) ρp ∧ CI G g ρp h1p ∧ (∀ a, h1p a ≠ none → h1 a ≠ none ∨ h a = none) ∧ h' = hu (mgH h h1 h1p) ao (eA 6 1 (fun j => vL (if j = 0 then (iI (ρ 6 c9)).toInt else f0 j)))) ∨ (((¬ (0 ≤ c9 ∧ c9 < ρ 2 0))) ∧ r = some (vI 1) ∧ ∃ (ρp : Sg) (h1p : Hp), SA ρ ρp ∧ CI G g ρp h1p ∧ (∀ a, h1p a ≠ none → h1 a ≠ none ∨ h a = none) ∧ h' = mgH h h1 h1p) ∨ ((¬ (¬ (0 ≤ c9 ∧ c9 < ρ 2 0)) ∧ (¬ (0 ≤ ra ∧ ra ≤ 50000))) ∧ r = some (vI 2) ∧ ∃ (ρp : Sg) (h1p : Hp), SA ρ ρp ∧ CI G g ρp h1p ∧ (∀ a, h1p a ≠ none → h1 a ≠ none ∨ h a = none) ∧ h' = mgH h h1 h1p)) := by
  refine ctC_of rfl rfl ?_
  intro p e s m args below meth c F hr htab
  have F : Fx p s m args meth c RL cL_setRate 5 G N0 (cA h s.heap.size) := F
  show Z _ _ _ _ _ _ _ _ _ _ _ _ _ _ _ _ _ _ _ [(0, vR (g 0)), (1, vI c9), (2, vI ra), (3, vR ao)] []
  refine z_aload_n F dL_setRate_0 rfl 3 rfl ?_
  refine z_iconst F dL_setRate_1 ?_
  refine z_aload_n F dL_setRate_2 rfl 0 rfl ?_
  refine z_iload_n F dL_setRate_3 rfl 1 rfl ?_
  refine z_iload_n F dL_setRate_4 rfl 2 rfl ?_
  refine z_xcallC (As := [vI c9, vI ra]) (st := [vI 0, vR ao]) F ((mX8_setRate l G N0 h1 hl9 g ρ c9 ra hI hV r_c9 r_ra).frame hs) cvL_31 (hs _ _ (ci_0 hI)) (fun r9 h9 => by cases h9; rfl) rfl rfl ⟨Nat.le_of_ble_eq_true rfl, Nat.le_of_ble_eq_true rfl⟩ rfl ⟨Nat.le_of_ble_eq_true rfl, Nat.le_of_ble_eq_true rfl⟩ dL_setRate_5 ?_ ?_
  · intro E h9 hx
    obtain ⟨h1p, ⟨ρp, S1, I1, hd⟩, D1, rfl⟩ := hx
    rcases hd with ⟨rfl, nc⟩ | ⟨rfl, nc⟩
    · refine ⟨[], ⟨0, 10, 13, 29⟩, [⟨0, 10, 17, 13⟩], htab.trans rfl, (fun z hz => by
          exact absurd hz (List.not_mem_nil)), rfl, (by decide : 29 ≠ 0), "java/lang/IndexOutOfBoundsException", q828, List.mem_of_getElem? (i := 5) rfl, fun q => ?_⟩
      refine z_astore (lv' := [(4, vR q), (0, vR (g 0)), (1, vI c9), (2, vI ra), (3, vR ao)]) F dL_setRate_13 (by decide) rfl ?_
      refine z_iconst F dL_setRate_15 ?_
      exact z_iret (nf_i _) F hr (Nat.le_of_ble_eq_true rfl) (Nat.le_of_ble_eq_true rfl) dL_setRate_16 (Or.inr (Or.inl ⟨nc, rfl, ρp, h1p, S1, I1, D1, rfl⟩))
    · refine ⟨[⟨0, 10, 13, 29⟩], ⟨0, 10, 17, 13⟩, [], htab.trans rfl, (fun z hz => by
          rcases List.mem_cons.mp hz with z9 | hz
          · rw [z9]; exact ⟨(by decide : 29 ≠ 0), "java/lang/IndexOutOfBoundsException", q828, List.mem_of_getElem? (i := 6) rfl⟩
          exact absurd hz (List.not_mem_nil)), rfl, (by decide : 13 ≠ 0), "java/lang/IllegalArgumentException", q728, List.mem_of_getElem? (i := 6) rfl, fun q => ?_⟩
      refine z_astore (lv' := [(4, vR q), (0, vR (g 0)), (1, vI c9), (2, vI ra), (3, vR ao)]) F dL_setRate_17 (by decide) rfl ?_
      refine z_iconst F dL_setRate_19 ?_
      exact z_iret (nf_i _) F hr (Nat.le_of_ble_eq_true rfl) (Nat.le_of_ble_eq_true rfl) dL_setRate_20 (Or.inr (Or.inr (⟨nc, rfl, ρp, h1p, S1, I1, D1, rfl⟩)))
  · rintro _ h9 ⟨h1p, ⟨n0, n1, ρp, rfl, S1, I1⟩, D1, rfl⟩
    show Z _ _ _ _ _ _ _ _ _ _ _ _ _ _ _ _ _ _ _ _ [vI (ρ 6 c9), vI 0, vR ao]
    refine z_i2l2 F dL_setRate_8 ?_
    obtain ⟨h1, eh1⟩ : ∃ z : Hp, hu (mgH h h1 h1p) ao (eA 6 1 (fun j => vL (if j = 0 then (iI (ρ 6 c9)).toInt else f0 j))) = z := ⟨_, rfl⟩
    refine z_lastore (N := 1) (f := fun j => f0 j) (h' := h1) F (mgH_out hoo ho) (by omega) (by omega) (by omega) dL_setRate_9 eh1 ?_
    have g2 : h1 ao = some (eA 6 1 (fun j => vL (if j = 0 then (iI (ρ 6 c9)).toInt else f0 j))) := by rw [← eh1]; exact hu_s _ _ _
    refine z_goto (tgt := 21) F dL_setRate_10 (by decide) ?_
    refine z_iconst F dL_setRate_21 ?_
    exact z_iret (nf_i _) F hr (Nat.le_of_ble_eq_true rfl) (Nat.le_of_ble_eq_true rfl) dL_setRate_22 (Or.inl ⟨n0, n1, rfl, ρp, h1p, S1, I1, D1, eh1.symm⟩)
set_option maxRecDepth 100000 in
set_option maxHeartbeats 4000000 in
theorem mL_setBudget (l : Launch) (G : GG) (N0 : Nat) (h : Hp) (hl9 : l.stackTraces = false) (g : Int → Nat) (ρ : Sg) (h1 : Hp) (ao : Nat) (f0 : Int → Int) (c9 ra : Int) (hI : CI G g ρ h1) (hV : MC ρ) (hs : SB h1 h) (ho : h ao = some (eA 6 1 (fun j => vL (f0 j)))) (hoo : h1 ao = none) (r_c9 : -2147483648 ≤ c9 ∧ c9 < 2147483648) (r_ra : -2147483648 ≤ ra ∧ ra < 2147483648) : Ct l G N0 yL_setBudget (Cond.codeWith yL_setBudget cL_setBudget 5 (some FieldType.int) [(0, 10, 13, 29), (0, 10, 17, 13)] :: LW) ({ frames := 8, cells := 4, slots := 24, locals := 320 }) [vR (g 0), vI c9, vI ra, vR ao] h (fun r h' => (¬ (¬ (0 ≤ c9 ∧ c9 < ρ 2 0)) ∧ ¬ (¬ (0 ≤ ra ∧ ra ≤ 9999)) ∧ r = some (vI 0) ∧ ∃ (ρp : Sg) (h1p : Hp), SA (su ρ 7 c9 ra) ρp ∧ CI G g ρp h1p ∧ (∀ a, h1p a ≠ none → h1 a ≠ none ∨ h a = none) ∧ h' = hu (mgH h h1 h1p) ao (eA 6 1 (fun j => vL (if j = 0 then (iI (ρ 7 c9)).toInt else f0 j)))) ∨ (((¬ (0 ≤ c9 ∧ c9 < ρ 2 0))) ∧ r = some (vI 1) ∧ ∃ (ρp : Sg) (h1p : Hp), SA ρ ρp ∧ CI G g ρp h1p ∧ (∀ a, h1p a ≠ none → h1 a ≠ none ∨ h a = none) ∧ h' = mgH h h1 h1p) ∨ ((¬ (¬ (0 ≤ c9 ∧ c9 < ρ 2 0)) ∧ (¬ (0 ≤ ra ∧ ra ≤ 9999))) ∧ r = some (vI 2) ∧ ∃ (ρp : Sg) (h1p : Hp), SA ρ ρp ∧ CI G g ρp h1p ∧ (∀ a, h1p a ≠ none → h1 a ≠ none ∨ h a = none) ∧ h' = mgH h h1 h1p)) := by
  refine ctC_of rfl rfl ?_
  intro p e s m args below meth c F hr htab
  have F : Fx p s m args meth c RL cL_setBudget 5 G N0 (cA h s.heap.size) := F
  show Z _ _ _ _ _ _ _ _ _ _ _ _ _ _ _ _ _ _ _ [(0, vR (g 0)), (1, vI c9), (2, vI ra), (3, vR ao)] []
  refine z_aload_n F dL_setBudget_0 rfl 3 rfl ?_
  refine z_iconst F dL_setBudget_1 ?_
  refine z_aload_n F dL_setBudget_2 rfl 0 rfl ?_
  refine z_iload_n F dL_setBudget_3 rfl 1 rfl ?_
  refine z_iload_n F dL_setBudget_4 rfl 2 rfl ?_
  refine z_xcallC (As := [vI c9, vI ra]) (st := [vI 0, vR ao]) F ((mX8_setBudget l G N0 h1 hl9 g ρ c9 ra hI hV r_c9 r_ra).frame hs) cvL_35 (hs _ _ (ci_0 hI)) (fun r9 h9 => by cases h9; rfl) rfl rfl ⟨Nat.le_of_ble_eq_true rfl, Nat.le_of_ble_eq_true rfl⟩ rfl ⟨Nat.le_of_ble_eq_true rfl, Nat.le_of_ble_eq_true rfl⟩ dL_setBudget_5 ?_ ?_
  · intro E h9 hx
    obtain ⟨h1p, ⟨ρp, S1, I1, hd⟩, D1, rfl⟩ := hx
    rcases hd with ⟨rfl, nc⟩ | ⟨rfl, nc⟩
    · refine ⟨[], ⟨0, 10, 13, 29⟩, [⟨0, 10, 17, 13⟩], htab.trans rfl, (fun z hz => by
          exact absurd hz (List.not_mem_nil)), rfl, (by decide : 29 ≠ 0), "java/lang/IndexOutOfBoundsException", q828, List.mem_of_getElem? (i := 5) rfl, fun q => ?_⟩
      refine z_astore (lv' := [(4, vR q), (0, vR (g 0)), (1, vI c9), (2, vI ra), (3, vR ao)]) F dL_setBudget_13 (by decide) rfl ?_
      refine z_iconst F dL_setBudget_15 ?_
      exact z_iret (nf_i _) F hr (Nat.le_of_ble_eq_true rfl) (Nat.le_of_ble_eq_true rfl) dL_setBudget_16 (Or.inr (Or.inl ⟨nc, rfl, ρp, h1p, S1, I1, D1, rfl⟩))
    · refine ⟨[⟨0, 10, 13, 29⟩], ⟨0, 10, 17, 13⟩, [], htab.trans rfl, (fun z hz => by
          rcases List.mem_cons.mp hz with z9 | hz
          · rw [z9]; exact ⟨(by decide : 29 ≠ 0), "java/lang/IndexOutOfBoundsException", q828, List.mem_of_getElem? (i := 6) rfl⟩
          exact absurd hz (List.not_mem_nil)), rfl, (by decide : 13 ≠ 0), "java/lang/IllegalArgumentException", q728, List.mem_of_getElem? (i := 6) rfl, fun q => ?_⟩
      refine z_astore (lv' := [(4, vR q), (0, vR (g 0)), (1, vI c9), (2, vI ra), (3, vR ao)]) F dL_setBudget_17 (by decide) rfl ?_
      refine z_iconst F dL_setBudget_19 ?_
      exact z_iret (nf_i _) F hr (Nat.le_of_ble_eq_true rfl) (Nat.le_of_ble_eq_true rfl) dL_setBudget_20 (Or.inr (Or.inr (⟨nc, rfl, ρp, h1p, S1, I1, D1, rfl⟩)))
  · rintro _ h9 ⟨h1p, ⟨n0, n1, ρp, rfl, S1, I1⟩, D1, rfl⟩
    show Z _ _ _ _ _ _ _ _ _ _ _ _ _ _ _ _ _ _ _ _ [vI (ρ 7 c9), vI 0, vR ao]
    refine z_i2l2 F dL_setBudget_8 ?_
    obtain ⟨h1, eh1⟩ : ∃ z : Hp, hu (mgH h h1 h1p) ao (eA 6 1 (fun j => vL (if j = 0 then (iI (ρ 7 c9)).toInt else f0 j))) = z := ⟨_, rfl⟩
    refine z_lastore (N := 1) (f := fun j => f0 j) (h' := h1) F (mgH_out hoo ho) (by omega) (by omega) (by omega) dL_setBudget_9 eh1 ?_
    have g2 : h1 ao = some (eA 6 1 (fun j => vL (if j = 0 then (iI (ρ 7 c9)).toInt else f0 j))) := by rw [← eh1]; exact hu_s _ _ _
    refine z_goto (tgt := 21) F dL_setBudget_10 (by decide) ?_
    refine z_iconst F dL_setBudget_21 ?_
    exact z_iret (nf_i _) F hr (Nat.le_of_ble_eq_true rfl) (Nat.le_of_ble_eq_true rfl) dL_setBudget_22 (Or.inl ⟨n0, n1, rfl, ρp, h1p, S1, I1, D1, eh1.symm⟩)
set_option maxRecDepth 100000 in
set_option maxHeartbeats 4000000 in
theorem mL_stop (l : Launch) (G : GG) (N0 : Nat) (h : Hp) (hl9 : l.stackTraces = false) (g : Int → Nat) (ρ : Sg) (h1 : Hp) (ao : Nat) (f0 : Int → Int) (e9 : Int) (hI : CI G g ρ h1) (hV : MC ρ) (hs : SB h1 h) (ho : h ao = some (eA 6 1 (fun j => vL (f0 j)))) (hoo : h1 ao = none) (r_e9 : -2147483648 ≤ e9 ∧ e9 < 2147483648) : Ct l G N0 yL_stop (Cond.codeWith yL_stop cL_stop 4 (some FieldType.int) [(0, 9, 12, 29), (0, 9, 15, 15)] :: LW) ({ frames := 8, cells := 4, slots := 24, locals := 320 }) [vR (g 0), vI e9, vR ao] h (fun r h' => (¬ (¬ (0 ≤ e9 ∧ e9 < ρ 8 0)) ∧ ¬ (ρ 12 e9 ≠ 114) ∧ r = some (vI 0) ∧ ∃ (ρp : Sg) (h1p : Hp), SA (su ρ 12 e9 101) ρp ∧ CI G g ρp h1p ∧ (∀ a, h1p a ≠ none → h1 a ≠ none ∨ h a = none) ∧ h' = hu (mgH h h1 h1p) ao (eA 6 1 (fun j => vL (if j = 0 then (iI (ρ 11 e9 - ρ 10 e9)).toInt else f0 j)))) ∨ (((¬ (0 ≤ e9 ∧ e9 < ρ 8 0))) ∧ r = some (vI 1) ∧ ∃ (ρp : Sg) (h1p : Hp), SA ρ ρp ∧ CI G g ρp h1p ∧ (∀ a, h1p a ≠ none → h1 a ≠ none ∨ h a = none) ∧ h' = mgH h h1 h1p) ∨ ((¬ (¬ (0 ≤ e9 ∧ e9 < ρ 8 0)) ∧ (ρ 12 e9 ≠ 114)) ∧ r = some (vI 2) ∧ ∃ (ρp : Sg) (h1p : Hp), SA ρ ρp ∧ CI G g ρp h1p ∧ (∀ a, h1p a ≠ none → h1 a ≠ none ∨ h a = none) ∧ h' = mgH h h1 h1p)) := by
  refine ctC_of rfl rfl ?_
  intro p e s m args below meth c F hr htab
  have F : Fx p s m args meth c RL cL_stop 4 G N0 (cA h s.heap.size) := F
  show Z _ _ _ _ _ _ _ _ _ _ _ _ _ _ _ _ _ _ _ [(0, vR (g 0)), (1, vI e9), (2, vR ao)] []
  refine z_aload_n F dL_stop_0 rfl 2 rfl ?_
  refine z_iconst F dL_stop_1 ?_
  refine z_aload_n F dL_stop_2 rfl 0 rfl ?_
  refine z_iload_n F dL_stop_3 rfl 1 rfl ?_
  refine z_xcallC (As := [vI e9]) (st := [vI 0, vR ao]) F ((mX8_stop l G N0 h1 hl9 g ρ e9 hI hV r_e9).frame hs) cvL_41 (hs _ _ (ci_0 hI)) (fun r9 h9 => by cases h9; rfl) rfl rfl ⟨Nat.le_of_ble_eq_true rfl, Nat.le_of_ble_eq_true rfl⟩ rfl ⟨Nat.le_of_ble_eq_true rfl, Nat.le_of_ble_eq_true rfl⟩ dL_stop_4 ?_ ?_
  · intro E h9 hx
    obtain ⟨h1p, ⟨ρp, S1, I1, hd⟩, D1, rfl⟩ := hx
    rcases hd with ⟨rfl, nc⟩ | ⟨rfl, nc⟩
    · refine ⟨[], ⟨0, 9, 12, 29⟩, [⟨0, 9, 15, 15⟩], htab.trans rfl, (fun z hz => by
          exact absurd hz (List.not_mem_nil)), rfl, (by decide : 29 ≠ 0), "java/lang/IndexOutOfBoundsException", q828, List.mem_of_getElem? (i := 5) rfl, fun q => ?_⟩
      refine z_astore_n (lv' := [(3, vR q), (0, vR (g 0)), (1, vI e9), (2, vR ao)]) F dL_stop_12 rfl (by decide) rfl ?_
      refine z_iconst F dL_stop_13 ?_
      exact z_iret (nf_i _) F hr (Nat.le_of_ble_eq_true rfl) (Nat.le_of_ble_eq_true rfl) dL_stop_14 (Or.inr (Or.inl ⟨nc, rfl, ρp, h1p, S1, I1, D1, rfl⟩))
    · refine ⟨[⟨0, 9, 12, 29⟩], ⟨0, 9, 15, 15⟩, [], htab.trans rfl, (fun z hz => by
          rcases List.mem_cons.mp hz with z9 | hz
          · rw [z9]; exact ⟨(by decide : 29 ≠ 0), "java/lang/IndexOutOfBoundsException", q828, List.mem_of_getElem? (i := 10) rfl⟩
          exact absurd hz (List.not_mem_nil)), rfl, (by decide : 15 ≠ 0), "java/lang/IllegalStateException", q729, List.mem_of_getElem? (i := 7) rfl, fun q => ?_⟩
      refine z_astore_n (lv' := [(3, vR q), (0, vR (g 0)), (1, vI e9), (2, vR ao)]) F dL_stop_15 rfl (by decide) rfl ?_
      refine z_iconst F dL_stop_16 ?_
      exact z_iret (nf_i _) F hr (Nat.le_of_ble_eq_true rfl) (Nat.le_of_ble_eq_true rfl) dL_stop_17 (Or.inr (Or.inr (⟨nc, rfl, ρp, h1p, S1, I1, D1, rfl⟩)))
  · rintro _ h9 ⟨h1p, ⟨n0, n1, ρp, rfl, S1, I1⟩, D1, rfl⟩
    show Z _ _ _ _ _ _ _ _ _ _ _ _ _ _ _ _ _ _ _ _ [vI (ρ 11 e9 - ρ 10 e9), vI 0, vR ao]
    refine z_i2l2 F dL_stop_7 ?_
    obtain ⟨h1, eh1⟩ : ∃ z : Hp, hu (mgH h h1 h1p) ao (eA 6 1 (fun j => vL (if j = 0 then (iI (ρ 11 e9 - ρ 10 e9)).toInt else f0 j))) = z := ⟨_, rfl⟩
    refine z_lastore (N := 1) (f := fun j => f0 j) (h' := h1) F (mgH_out hoo ho) (by omega) (by omega) (by omega) dL_stop_8 eh1 ?_
    have g2 : h1 ao = some (eA 6 1 (fun j => vL (if j = 0 then (iI (ρ 11 e9 - ρ 10 e9)).toInt else f0 j))) := by rw [← eh1]; exact hu_s _ _ _
    refine z_goto (tgt := 18) F dL_stop_9 (by decide) ?_
    refine z_iconst F dL_stop_18 ?_
    exact z_iret (nf_i _) F hr (Nat.le_of_ble_eq_true rfl) (Nat.le_of_ble_eq_true rfl) dL_stop_19 (Or.inl ⟨n0, n1, rfl, ρp, h1p, S1, I1, D1, eh1.symm⟩)
set_option maxRecDepth 100000 in
set_option maxHeartbeats 4000000 in
theorem mL_setStart (l : Launch) (G : GG) (N0 : Nat) (h : Hp) (hl9 : l.stackTraces = false) (g : Int → Nat) (ρ : Sg) (h1 : Hp) (ao : Nat) (f0 : Int → Int) (e9 m9 : Int) (hI : CI G g ρ h1) (hV : MC ρ) (hs : SB h1 h) (ho : h ao = some (eA 6 1 (fun j => vL (f0 j)))) (hoo : h1 ao = none) (r_e9 : -2147483648 ≤ e9 ∧ e9 < 2147483648) (r_m9 : -2147483648 ≤ m9 ∧ m9 < 2147483648) : Ct l G N0 yL_setStart (Cond.codeWith yL_setStart cL_setStart 5 (some FieldType.int) [(0, 10, 13, 29), (0, 10, 17, 15), (0, 10, 21, 13)] :: LW) ({ frames := 8, cells := 4, slots := 24, locals := 320 }) [vR (g 0), vI e9, vI m9, vR ao] h (fun r h' => (¬ (¬ (0 ≤ e9 ∧ e9 < ρ 8 0)) ∧ ¬ (¬ (ρ 12 e9 = 114 ∨ ρ 12 e9 = 101)) ∧ ¬ (¬ (0 ≤ m9 ∧ m9 ≤ ρ 11 e9)) ∧ r = some (vI 0) ∧ ∃ (ρp : Sg) (h1p : Hp), SA (su ρ 10 e9 m9) ρp ∧ CI G g ρp h1p ∧ (∀ a, h1p a ≠ none → h1 a ≠ none ∨ h a = none) ∧ h' = hu (mgH h h1 h1p) ao (eA 6 1 (fun j => vL (if j = 0 then (iI (ρ 10 e9)).toInt else f0 j)))) ∨ (((¬ (0 ≤ e9 ∧ e9 < ρ 8 0))) ∧ r = some (vI 1) ∧ ∃ (ρp : Sg) (h1p : Hp), SA ρ ρp ∧ CI G g ρp h1p ∧ (∀ a, h1p a ≠ none → h1 a ≠ none ∨ h a = none) ∧ h' = mgH h h1 h1p) ∨ ((¬ (¬ (0 ≤ e9 ∧ e9 < ρ 8 0)) ∧ (¬ (ρ 12 e9 = 114 ∨ ρ 12 e9 = 101))) ∧ r = some (vI 2) ∧ ∃ (ρp : Sg) (h1p : Hp), SA ρ ρp ∧ CI G g ρp h1p ∧ (∀ a, h1p a ≠ none → h1 a ≠ none ∨ h a = none) ∧ h' = mgH h h1 h1p) ∨ ((¬ (¬ (0 ≤ e9 ∧ e9 < ρ 8 0)) ∧ ¬ (¬ (ρ 12 e9 = 114 ∨ ρ 12 e9 = 101)) ∧ (¬ (0 ≤ m9 ∧ m9 ≤ ρ 11 e9))) ∧ r = some (vI 3) ∧ ∃ (ρp : Sg) (h1p : Hp), SA ρ ρp ∧ CI G g ρp h1p ∧ (∀ a, h1p a ≠ none → h1 a ≠ none ∨ h a = none) ∧ h' = mgH h h1 h1p)) := by
  refine ctC_of rfl rfl ?_
  intro p e s m args below meth c F hr htab
  have F : Fx p s m args meth c RL cL_setStart 5 G N0 (cA h s.heap.size) := F
  show Z _ _ _ _ _ _ _ _ _ _ _ _ _ _ _ _ _ _ _ [(0, vR (g 0)), (1, vI e9), (2, vI m9), (3, vR ao)] []
  refine z_aload_n F dL_setStart_0 rfl 3 rfl ?_
  refine z_iconst F dL_setStart_1 ?_
  refine z_aload_n F dL_setStart_2 rfl 0 rfl ?_
  refine z_iload_n F dL_setStart_3 rfl 1 rfl ?_
  refine z_iload_n F dL_setStart_4 rfl 2 rfl ?_
  refine z_xcallC (As := [vI e9, vI m9]) (st := [vI 0, vR ao]) F ((mX8_setStart l G N0 h1 hl9 g ρ e9 m9 hI hV r_e9 r_m9).frame hs) cvL_48 (hs _ _ (ci_0 hI)) (fun r9 h9 => by cases h9; rfl) rfl rfl ⟨Nat.le_of_ble_eq_true rfl, Nat.le_of_ble_eq_true rfl⟩ rfl ⟨Nat.le_of_ble_eq_true rfl, Nat.le_of_ble_eq_true rfl⟩ dL_setStart_5 ?_ ?_
  · intro E h9 hx
    obtain ⟨h1p, ⟨ρp, S1, I1, hd⟩, D1, rfl⟩ := hx
    rcases hd with ⟨rfl, nc⟩ | ⟨rfl, nc⟩ | ⟨rfl, nc⟩
    · refine ⟨[], ⟨0, 10, 13, 29⟩, [⟨0, 10, 17, 15⟩, ⟨0, 10, 21, 13⟩], htab.trans rfl, (fun z hz => by
          exact absurd hz (List.not_mem_nil)), rfl, (by decide : 29 ≠ 0), "java/lang/IndexOutOfBoundsException", q828, List.mem_of_getElem? (i := 5) rfl, fun q => ?_⟩
      refine z_astore (lv' := [(4, vR q), (0, vR (g 0)), (1, vI e9), (2, vI m9), (3, vR ao)]) F dL_setStart_13 (by decide) rfl ?_
      refine z_iconst F dL_setStart_15 ?_
      exact z_iret (nf_i _) F hr (Nat.le_of_ble_eq_true rfl) (Nat.le_of_ble_eq_true rfl) dL_setStart_16 (Or.inr (Or.inl ⟨nc, rfl, ρp, h1p, S1, I1, D1, rfl⟩))
    · refine ⟨[⟨0, 10, 13, 29⟩], ⟨0, 10, 17, 15⟩, [⟨0, 10, 21, 13⟩], htab.trans rfl, (fun z hz => by
          rcases List.mem_cons.mp hz with z9 | hz
          · rw [z9]; exact ⟨(by decide : 29 ≠ 0), "java/lang/IndexOutOfBoundsException", q828, List.mem_of_getElem? (i := 10) rfl⟩
          exact absurd hz (List.not_mem_nil)), rfl, (by decide : 15 ≠ 0), "java/lang/IllegalStateException", q729, List.mem_of_getElem? (i := 7) rfl, fun q => ?_⟩
      refine z_astore (lv' := [(4, vR q), (0, vR (g 0)), (1, vI e9), (2, vI m9), (3, vR ao)]) F dL_setStart_17 (by decide) rfl ?_
      refine z_iconst F dL_setStart_19 ?_
      exact z_iret (nf_i _) F hr (Nat.le_of_ble_eq_true rfl) (Nat.le_of_ble_eq_true rfl) dL_setStart_20 (Or.inr (Or.inr (Or.inl ⟨nc, rfl, ρp, h1p, S1, I1, D1, rfl⟩)))
    · refine ⟨[⟨0, 10, 13, 29⟩, ⟨0, 10, 17, 15⟩], ⟨0, 10, 21, 13⟩, [], htab.trans rfl, (fun z hz => by
          rcases List.mem_cons.mp hz with z9 | hz
          · rw [z9]; exact ⟨(by decide : 29 ≠ 0), "java/lang/IndexOutOfBoundsException", q828, List.mem_of_getElem? (i := 6) rfl⟩
          rcases List.mem_cons.mp hz with z9 | hz
          · rw [z9]; exact ⟨(by decide : 15 ≠ 0), "java/lang/IllegalStateException", q729, List.mem_of_getElem? (i := 5) rfl⟩
          exact absurd hz (List.not_mem_nil)), rfl, (by decide : 13 ≠ 0), "java/lang/IllegalArgumentException", q728, List.mem_of_getElem? (i := 6) rfl, fun q => ?_⟩
      refine z_astore (lv' := [(4, vR q), (0, vR (g 0)), (1, vI e9), (2, vI m9), (3, vR ao)]) F dL_setStart_21 (by decide) rfl ?_
      refine z_iconst F dL_setStart_23 ?_
      exact z_iret (nf_i _) F hr (Nat.le_of_ble_eq_true rfl) (Nat.le_of_ble_eq_true rfl) dL_setStart_24 (Or.inr (Or.inr (Or.inr (⟨nc, rfl, ρp, h1p, S1, I1, D1, rfl⟩))))
  · rintro _ h9 ⟨h1p, ⟨n0, n1, n2, ρp, rfl, S1, I1⟩, D1, rfl⟩
    show Z _ _ _ _ _ _ _ _ _ _ _ _ _ _ _ _ _ _ _ _ [vI (ρ 10 e9), vI 0, vR ao]
    refine z_i2l2 F dL_setStart_8 ?_
    obtain ⟨h1, eh1⟩ : ∃ z : Hp, hu (mgH h h1 h1p) ao (eA 6 1 (fun j => vL (if j = 0 then (iI (ρ 10 e9)).toInt else f0 j))) = z := ⟨_, rfl⟩
    refine z_lastore (N := 1) (f := fun j => f0 j) (h' := h1) F (mgH_out hoo ho) (by omega) (by omega) (by omega) dL_setStart_9 eh1 ?_
    have g2 : h1 ao = some (eA 6 1 (fun j => vL (if j = 0 then (iI (ρ 10 e9)).toInt else f0 j))) := by rw [← eh1]; exact hu_s _ _ _
    refine z_goto (tgt := 25) F dL_setStart_10 (by decide) ?_
    refine z_iconst F dL_setStart_25 ?_
    exact z_iret (nf_i _) F hr (Nat.le_of_ble_eq_true rfl) (Nat.le_of_ble_eq_true rfl) dL_setStart_26 (Or.inl ⟨n0, n1, n2, rfl, ρp, h1p, S1, I1, D1, eh1.symm⟩)
set_option maxRecDepth 100000 in
set_option maxHeartbeats 4000000 in
theorem mL_setEnd (l : Launch) (G : GG) (N0 : Nat) (h : Hp) (hl9 : l.stackTraces = false) (g : Int → Nat) (ρ : Sg) (h1 : Hp) (ao : Nat) (f0 : Int → Int) (e9 m9 : Int) (hI : CI G g ρ h1) (hV : MC ρ) (hs : SB h1 h) (ho : h ao = some (eA 6 1 (fun j => vL (f0 j)))) (hoo : h1 ao = none) (r_e9 : -2147483648 ≤ e9 ∧ e9 < 2147483648) (r_m9 : -2147483648 ≤ m9 ∧ m9 < 2147483648) : Ct l G N0 yL_setEnd (Cond.codeWith yL_setEnd cL_setEnd 5 (some FieldType.int) [(0, 10, 13, 29), (0, 10, 17, 15), (0, 10, 21, 13)] :: LW) ({ frames := 8, cells := 4, slots := 24, locals := 320 }) [vR (g 0), vI e9, vI m9, vR ao] h (fun r h' => (¬ (¬ (0 ≤ e9 ∧ e9 < ρ 8 0)) ∧ ¬ (ρ 12 e9 ≠ 101) ∧ ¬ (¬ (ρ 10 e9 ≤ m9 ∧ m9 ≤ ρ 0 0)) ∧ r = some (vI 0) ∧ ∃ (ρp : Sg) (h1p : Hp), SA (su ρ 11 e9 m9) ρp ∧ CI G g ρp h1p ∧ (∀ a, h1p a ≠ none → h1 a ≠ none ∨ h a = none) ∧ h' = hu (mgH h h1 h1p) ao (eA 6 1 (fun j => vL (if j = 0 then (iI (ρ 11 e9)).toInt else f0 j)))) ∨ (((¬ (0 ≤ e9 ∧ e9 < ρ 8 0))) ∧ r = some (vI 1) ∧ ∃ (ρp : Sg) (h1p : Hp), SA ρ ρp ∧ CI G g ρp h1p ∧ (∀ a, h1p a ≠ none → h1 a ≠ none ∨ h a = none) ∧ h' = mgH h h1 h1p) ∨ ((¬ (¬ (0 ≤ e9 ∧ e9 < ρ 8 0)) ∧ (ρ 12 e9 ≠ 101)) ∧ r = some (vI 2) ∧ ∃ (ρp : Sg) (h1p : Hp), SA ρ ρp ∧ CI G g ρp h1p ∧ (∀ a, h1p a ≠ none → h1 a ≠ none ∨ h a = none) ∧ h' = mgH h h1 h1p) ∨ ((¬ (¬ (0 ≤ e9 ∧ e9 < ρ 8 0)) ∧ ¬ (ρ 12 e9 ≠ 101) ∧ (¬ (ρ 10 e9 ≤ m9 ∧ m9 ≤ ρ 0 0))) ∧ r = some (vI 3) ∧ ∃ (ρp : Sg) (h1p : Hp), SA ρ ρp ∧ CI G g ρp h1p ∧ (∀ a, h1p a ≠ none → h1 a ≠ none ∨ h a = none) ∧ h' = mgH h h1 h1p)) := by
  refine ctC_of rfl rfl ?_
  intro p e s m args below meth c F hr htab
  have F : Fx p s m args meth c RL cL_setEnd 5 G N0 (cA h s.heap.size) := F
  show Z _ _ _ _ _ _ _ _ _ _ _ _ _ _ _ _ _ _ _ [(0, vR (g 0)), (1, vI e9), (2, vI m9), (3, vR ao)] []
  refine z_aload_n F dL_setEnd_0 rfl 3 rfl ?_
  refine z_iconst F dL_setEnd_1 ?_
  refine z_aload_n F dL_setEnd_2 rfl 0 rfl ?_
  refine z_iload_n F dL_setEnd_3 rfl 1 rfl ?_
  refine z_iload_n F dL_setEnd_4 rfl 2 rfl ?_
  refine z_xcallC (As := [vI e9, vI m9]) (st := [vI 0, vR ao]) F ((mX8_setEnd l G N0 h1 hl9 g ρ e9 m9 hI hV r_e9 r_m9).frame hs) cvL_51 (hs _ _ (ci_0 hI)) (fun r9 h9 => by cases h9; rfl) rfl rfl ⟨Nat.le_of_ble_eq_true rfl, Nat.le_of_ble_eq_true rfl⟩ rfl ⟨Nat.le_of_ble_eq_true rfl, Nat.le_of_ble_eq_true rfl⟩ dL_setEnd_5 ?_ ?_
  · intro E h9 hx
    obtain ⟨h1p, ⟨ρp, S1, I1, hd⟩, D1, rfl⟩ := hx
    rcases hd with ⟨rfl, nc⟩ | ⟨rfl, nc⟩ | ⟨rfl, nc⟩
    · refine ⟨[], ⟨0, 10, 13, 29⟩, [⟨0, 10, 17, 15⟩, ⟨0, 10, 21, 13⟩], htab.trans rfl, (fun z hz => by
          exact absurd hz (List.not_mem_nil)), rfl, (by decide : 29 ≠ 0), "java/lang/IndexOutOfBoundsException", q828, List.mem_of_getElem? (i := 5) rfl, fun q => ?_⟩
      refine z_astore (lv' := [(4, vR q), (0, vR (g 0)), (1, vI e9), (2, vI m9), (3, vR ao)]) F dL_setEnd_13 (by decide) rfl ?_
      refine z_iconst F dL_setEnd_15 ?_
      exact z_iret (nf_i _) F hr (Nat.le_of_ble_eq_true rfl) (Nat.le_of_ble_eq_true rfl) dL_setEnd_16 (Or.inr (Or.inl ⟨nc, rfl, ρp, h1p, S1, I1, D1, rfl⟩))
    · refine ⟨[⟨0, 10, 13, 29⟩], ⟨0, 10, 17, 15⟩, [⟨0, 10, 21, 13⟩], htab.trans rfl, (fun z hz => by
          rcases List.mem_cons.mp hz with z9 | hz
          · rw [z9]; exact ⟨(by decide : 29 ≠ 0), "java/lang/IndexOutOfBoundsException", q828, List.mem_of_getElem? (i := 10) rfl⟩
          exact absurd hz (List.not_mem_nil)), rfl, (by decide : 15 ≠ 0), "java/lang/IllegalStateException", q729, List.mem_of_getElem? (i := 7) rfl, fun q => ?_⟩
      refine z_astore (lv' := [(4, vR q), (0, vR (g 0)), (1, vI e9), (2, vI m9), (3, vR ao)]) F dL_setEnd_17 (by decide) rfl ?_
      refine z_iconst F dL_setEnd_19 ?_
      exact z_iret (nf_i _) F hr (Nat.le_of_ble_eq_true rfl) (Nat.le_of_ble_eq_true rfl) dL_setEnd_20 (Or.inr (Or.inr (Or.inl ⟨nc, rfl, ρp, h1p, S1, I1, D1, rfl⟩)))
    · refine ⟨[⟨0, 10, 13, 29⟩, ⟨0, 10, 17, 15⟩], ⟨0, 10, 21, 13⟩, [], htab.trans rfl, (fun z hz => by
          rcases List.mem_cons.mp hz with z9 | hz
          · rw [z9]; exact ⟨(by decide : 29 ≠ 0), "java/lang/IndexOutOfBoundsException", q828, List.mem_of_getElem? (i := 6) rfl⟩
          rcases List.mem_cons.mp hz with z9 | hz
          · rw [z9]; exact ⟨(by decide : 15 ≠ 0), "java/lang/IllegalStateException", q729, List.mem_of_getElem? (i := 5) rfl⟩
          exact absurd hz (List.not_mem_nil)), rfl, (by decide : 13 ≠ 0), "java/lang/IllegalArgumentException", q728, List.mem_of_getElem? (i := 6) rfl, fun q => ?_⟩
      refine z_astore (lv' := [(4, vR q), (0, vR (g 0)), (1, vI e9), (2, vI m9), (3, vR ao)]) F dL_setEnd_21 (by decide) rfl ?_
      refine z_iconst F dL_setEnd_23 ?_
      exact z_iret (nf_i _) F hr (Nat.le_of_ble_eq_true rfl) (Nat.le_of_ble_eq_true rfl) dL_setEnd_24 (Or.inr (Or.inr (Or.inr (⟨nc, rfl, ρp, h1p, S1, I1, D1, rfl⟩))))
  · rintro _ h9 ⟨h1p, ⟨n0, n1, n2, ρp, rfl, S1, I1⟩, D1, rfl⟩
    show Z _ _ _ _ _ _ _ _ _ _ _ _ _ _ _ _ _ _ _ _ [vI (ρ 11 e9), vI 0, vR ao]
    refine z_i2l2 F dL_setEnd_8 ?_
    obtain ⟨h1, eh1⟩ : ∃ z : Hp, hu (mgH h h1 h1p) ao (eA 6 1 (fun j => vL (if j = 0 then (iI (ρ 11 e9)).toInt else f0 j))) = z := ⟨_, rfl⟩
    refine z_lastore (N := 1) (f := fun j => f0 j) (h' := h1) F (mgH_out hoo ho) (by omega) (by omega) (by omega) dL_setEnd_9 eh1 ?_
    have g2 : h1 ao = some (eA 6 1 (fun j => vL (if j = 0 then (iI (ρ 11 e9)).toInt else f0 j))) := by rw [← eh1]; exact hu_s _ _ _
    refine z_goto (tgt := 25) F dL_setEnd_10 (by decide) ?_
    refine z_iconst F dL_setEnd_25 ?_
    exact z_iret (nf_i _) F hr (Nat.le_of_ble_eq_true rfl) (Nat.le_of_ble_eq_true rfl) dL_setEnd_26 (Or.inl ⟨n0, n1, n2, rfl, ρp, h1p, S1, I1, D1, eh1.symm⟩)
set_option maxRecDepth 100000 in
set_option maxHeartbeats 4000000 in
theorem mL_state (l : Launch) (G : GG) (N0 : Nat) (h : Hp) (hl9 : l.stackTraces = false) (g : Int → Nat) (ρ : Sg) (h1 : Hp) (ao : Nat) (f0 : Int → Int) (e9 : Int) (hI : CI G g ρ h1) (hV : MC ρ) (hs : SB h1 h) (ho : h ao = some (eA 6 1 (fun j => vL (f0 j)))) (hoo : h1 ao = none) (r_e9 : -2147483648 ≤ e9 ∧ e9 < 2147483648) : Ct l G N0 yL_state (Cond.codeWith yL_state cL_state 4 (some FieldType.int) [(0, 9, 12, 29)] :: LW) ({ frames := 8, cells := 4, slots := 24, locals := 320 }) [vR (g 0), vI e9, vR ao] h (fun r h' => (¬ (¬ (0 ≤ e9 ∧ e9 < ρ 8 0)) ∧ r = some (vI 0) ∧ ∃ (ρp : Sg) (h1p : Hp), SA (ρ) ρp ∧ CI G g ρp h1p ∧ (∀ a, h1p a ≠ none → h1 a ≠ none ∨ h a = none) ∧ h' = hu (mgH h h1 h1p) ao (eA 6 1 (fun j => vL (if j = 0 then (iI (ρ 12 e9)).toInt else f0 j)))) ∨ (((¬ (0 ≤ e9 ∧ e9 < ρ 8 0))) ∧ r = some (vI 1) ∧ ∃ (ρp : Sg) (h1p : Hp), SA ρ ρp ∧ CI G g ρp h1p ∧ (∀ a, h1p a ≠ none → h1 a ≠ none ∨ h a = none) ∧ h' = mgH h h1 h1p)) := by
  refine ctC_of rfl rfl ?_
  intro p e s m args below meth c F hr htab
  have F : Fx p s m args meth c RL cL_state 4 G N0 (cA h s.heap.size) := F
  show Z _ _ _ _ _ _ _ _ _ _ _ _ _ _ _ _ _ _ _ [(0, vR (g 0)), (1, vI e9), (2, vR ao)] []
  refine z_aload_n F dL_state_0 rfl 2 rfl ?_
  refine z_iconst F dL_state_1 ?_
  refine z_aload_n F dL_state_2 rfl 0 rfl ?_
  refine z_iload_n F dL_state_3 rfl 1 rfl ?_
  refine z_xcallC (As := [vI e9]) (st := [vI 0, vR ao]) F ((mX8_state l G N0 h1 hl9 g ρ e9 hI hV r_e9).frame hs) cvL_57 (hs _ _ (ci_0 hI)) (fun r9 h9 => by cases h9; rfl) rfl rfl ⟨Nat.le_of_ble_eq_true rfl, Nat.le_of_ble_eq_true rfl⟩ rfl ⟨Nat.le_of_ble_eq_true rfl, Nat.le_of_ble_eq_true rfl⟩ dL_state_4 ?_ ?_
  · intro E h9 hx
    obtain ⟨h1p, ⟨ρp, S1, I1, hd⟩, D1, rfl⟩ := hx
    obtain ⟨rfl, nc⟩ := hd
    · refine ⟨[], ⟨0, 9, 12, 29⟩, [], htab.trans rfl, (fun z hz => by
          exact absurd hz (List.not_mem_nil)), rfl, (by decide : 29 ≠ 0), "java/lang/IndexOutOfBoundsException", q828, List.mem_of_getElem? (i := 5) rfl, fun q => ?_⟩
      refine z_astore_n (lv' := [(3, vR q), (0, vR (g 0)), (1, vI e9), (2, vR ao)]) F dL_state_12 rfl (by decide) rfl ?_
      refine z_iconst F dL_state_13 ?_
      exact z_iret (nf_i _) F hr (Nat.le_of_ble_eq_true rfl) (Nat.le_of_ble_eq_true rfl) dL_state_14 (Or.inr (⟨nc, rfl, ρp, h1p, S1, I1, D1, rfl⟩))
  · rintro _ h9 ⟨h1p, ⟨n0, ρp, rfl, S1, I1⟩, D1, rfl⟩
    show Z _ _ _ _ _ _ _ _ _ _ _ _ _ _ _ _ _ _ _ _ [vI (ρ 12 e9), vI 0, vR ao]
    refine z_i2l2 F dL_state_7 ?_
    obtain ⟨h1, eh1⟩ : ∃ z : Hp, hu (mgH h h1 h1p) ao (eA 6 1 (fun j => vL (if j = 0 then (iI (ρ 12 e9)).toInt else f0 j))) = z := ⟨_, rfl⟩
    refine z_lastore (N := 1) (f := fun j => f0 j) (h' := h1) F (mgH_out hoo ho) (by omega) (by omega) (by omega) dL_state_8 eh1 ?_
    have g2 : h1 ao = some (eA 6 1 (fun j => vL (if j = 0 then (iI (ρ 12 e9)).toInt else f0 j))) := by rw [← eh1]; exact hu_s _ _ _
    refine z_goto (tgt := 15) F dL_state_9 (by decide) ?_
    refine z_iconst F dL_state_15 ?_
    exact z_iret (nf_i _) F hr (Nat.le_of_ble_eq_true rfl) (Nat.le_of_ble_eq_true rfl) dL_state_16 (Or.inl ⟨n0, rfl, ρp, h1p, S1, I1, D1, eh1.symm⟩)
set_option maxRecDepth 100000 in
set_option maxHeartbeats 4000000 in
theorem mL_startOf (l : Launch) (G : GG) (N0 : Nat) (h : Hp) (hl9 : l.stackTraces = false) (g : Int → Nat) (ρ : Sg) (h1 : Hp) (ao : Nat) (f0 : Int → Int) (e9 : Int) (hI : CI G g ρ h1) (hV : MC ρ) (hs : SB h1 h) (ho : h ao = some (eA 6 1 (fun j => vL (f0 j)))) (hoo : h1 ao = none) (r_e9 : -2147483648 ≤ e9 ∧ e9 < 2147483648) : Ct l G N0 yL_startOf (Cond.codeWith yL_startOf cL_startOf 4 (some FieldType.int) [(0, 9, 12, 29)] :: LW) ({ frames := 8, cells := 4, slots := 24, locals := 320 }) [vR (g 0), vI e9, vR ao] h (fun r h' => (¬ (¬ (0 ≤ e9 ∧ e9 < ρ 8 0)) ∧ r = some (vI 0) ∧ ∃ (ρp : Sg) (h1p : Hp), SA (ρ) ρp ∧ CI G g ρp h1p ∧ (∀ a, h1p a ≠ none → h1 a ≠ none ∨ h a = none) ∧ h' = hu (mgH h h1 h1p) ao (eA 6 1 (fun j => vL (if j = 0 then (iI (ρ 10 e9)).toInt else f0 j)))) ∨ (((¬ (0 ≤ e9 ∧ e9 < ρ 8 0))) ∧ r = some (vI 1) ∧ ∃ (ρp : Sg) (h1p : Hp), SA ρ ρp ∧ CI G g ρp h1p ∧ (∀ a, h1p a ≠ none → h1 a ≠ none ∨ h a = none) ∧ h' = mgH h h1 h1p)) := by
  refine ctC_of rfl rfl ?_
  intro p e s m args below meth c F hr htab
  have F : Fx p s m args meth c RL cL_startOf 4 G N0 (cA h s.heap.size) := F
  show Z _ _ _ _ _ _ _ _ _ _ _ _ _ _ _ _ _ _ _ [(0, vR (g 0)), (1, vI e9), (2, vR ao)] []
  refine z_aload_n F dL_startOf_0 rfl 2 rfl ?_
  refine z_iconst F dL_startOf_1 ?_
  refine z_aload_n F dL_startOf_2 rfl 0 rfl ?_
  refine z_iload_n F dL_startOf_3 rfl 1 rfl ?_
  refine z_xcallC (As := [vI e9]) (st := [vI 0, vR ao]) F ((mX8_startOf l G N0 h1 hl9 g ρ e9 hI hV r_e9).frame hs) cvL_61 (hs _ _ (ci_0 hI)) (fun r9 h9 => by cases h9; rfl) rfl rfl ⟨Nat.le_of_ble_eq_true rfl, Nat.le_of_ble_eq_true rfl⟩ rfl ⟨Nat.le_of_ble_eq_true rfl, Nat.le_of_ble_eq_true rfl⟩ dL_startOf_4 ?_ ?_
  · intro E h9 hx
    obtain ⟨h1p, ⟨ρp, S1, I1, hd⟩, D1, rfl⟩ := hx
    obtain ⟨rfl, nc⟩ := hd
    · refine ⟨[], ⟨0, 9, 12, 29⟩, [], htab.trans rfl, (fun z hz => by
          exact absurd hz (List.not_mem_nil)), rfl, (by decide : 29 ≠ 0), "java/lang/IndexOutOfBoundsException", q828, List.mem_of_getElem? (i := 5) rfl, fun q => ?_⟩
      refine z_astore_n (lv' := [(3, vR q), (0, vR (g 0)), (1, vI e9), (2, vR ao)]) F dL_startOf_12 rfl (by decide) rfl ?_
      refine z_iconst F dL_startOf_13 ?_
      exact z_iret (nf_i _) F hr (Nat.le_of_ble_eq_true rfl) (Nat.le_of_ble_eq_true rfl) dL_startOf_14 (Or.inr (⟨nc, rfl, ρp, h1p, S1, I1, D1, rfl⟩))
  · rintro _ h9 ⟨h1p, ⟨n0, ρp, rfl, S1, I1⟩, D1, rfl⟩
    show Z _ _ _ _ _ _ _ _ _ _ _ _ _ _ _ _ _ _ _ _ [vI (ρ 10 e9), vI 0, vR ao]
    refine z_i2l2 F dL_startOf_7 ?_
    obtain ⟨h1, eh1⟩ : ∃ z : Hp, hu (mgH h h1 h1p) ao (eA 6 1 (fun j => vL (if j = 0 then (iI (ρ 10 e9)).toInt else f0 j))) = z := ⟨_, rfl⟩
    refine z_lastore (N := 1) (f := fun j => f0 j) (h' := h1) F (mgH_out hoo ho) (by omega) (by omega) (by omega) dL_startOf_8 eh1 ?_
    have g2 : h1 ao = some (eA 6 1 (fun j => vL (if j = 0 then (iI (ρ 10 e9)).toInt else f0 j))) := by rw [← eh1]; exact hu_s _ _ _
    refine z_goto (tgt := 15) F dL_startOf_9 (by decide) ?_
    refine z_iconst F dL_startOf_15 ?_
    exact z_iret (nf_i _) F hr (Nat.le_of_ble_eq_true rfl) (Nat.le_of_ble_eq_true rfl) dL_startOf_16 (Or.inl ⟨n0, rfl, ρp, h1p, S1, I1, D1, eh1.symm⟩)
set_option maxRecDepth 100000 in
set_option maxHeartbeats 4000000 in
theorem mL_endOf (l : Launch) (G : GG) (N0 : Nat) (h : Hp) (hl9 : l.stackTraces = false) (g : Int → Nat) (ρ : Sg) (h1 : Hp) (ao : Nat) (f0 : Int → Int) (e9 : Int) (hI : CI G g ρ h1) (hV : MC ρ) (hs : SB h1 h) (ho : h ao = some (eA 6 1 (fun j => vL (f0 j)))) (hoo : h1 ao = none) (r_e9 : -2147483648 ≤ e9 ∧ e9 < 2147483648) : Ct l G N0 yL_endOf (Cond.codeWith yL_endOf cL_endOf 4 (some FieldType.int) [(0, 9, 12, 29)] :: LW) ({ frames := 8, cells := 4, slots := 24, locals := 320 }) [vR (g 0), vI e9, vR ao] h (fun r h' => (¬ (¬ (0 ≤ e9 ∧ e9 < ρ 8 0)) ∧ r = some (vI 0) ∧ ∃ (ρp : Sg) (h1p : Hp), SA (ρ) ρp ∧ CI G g ρp h1p ∧ (∀ a, h1p a ≠ none → h1 a ≠ none ∨ h a = none) ∧ h' = hu (mgH h h1 h1p) ao (eA 6 1 (fun j => vL (if j = 0 then (iI (ρ 11 e9)).toInt else f0 j)))) ∨ (((¬ (0 ≤ e9 ∧ e9 < ρ 8 0))) ∧ r = some (vI 1) ∧ ∃ (ρp : Sg) (h1p : Hp), SA ρ ρp ∧ CI G g ρp h1p ∧ (∀ a, h1p a ≠ none → h1 a ≠ none ∨ h a = none) ∧ h' = mgH h h1 h1p)) := by
  refine ctC_of rfl rfl ?_
  intro p e s m args below meth c F hr htab
  have F : Fx p s m args meth c RL cL_endOf 4 G N0 (cA h s.heap.size) := F
  show Z _ _ _ _ _ _ _ _ _ _ _ _ _ _ _ _ _ _ _ [(0, vR (g 0)), (1, vI e9), (2, vR ao)] []
  refine z_aload_n F dL_endOf_0 rfl 2 rfl ?_
  refine z_iconst F dL_endOf_1 ?_
  refine z_aload_n F dL_endOf_2 rfl 0 rfl ?_
  refine z_iload_n F dL_endOf_3 rfl 1 rfl ?_
  refine z_xcallC (As := [vI e9]) (st := [vI 0, vR ao]) F ((mX8_endOf l G N0 h1 hl9 g ρ e9 hI hV r_e9).frame hs) cvL_64 (hs _ _ (ci_0 hI)) (fun r9 h9 => by cases h9; rfl) rfl rfl ⟨Nat.le_of_ble_eq_true rfl, Nat.le_of_ble_eq_true rfl⟩ rfl ⟨Nat.le_of_ble_eq_true rfl, Nat.le_of_ble_eq_true rfl⟩ dL_endOf_4 ?_ ?_
  · intro E h9 hx
    obtain ⟨h1p, ⟨ρp, S1, I1, hd⟩, D1, rfl⟩ := hx
    obtain ⟨rfl, nc⟩ := hd
    · refine ⟨[], ⟨0, 9, 12, 29⟩, [], htab.trans rfl, (fun z hz => by
          exact absurd hz (List.not_mem_nil)), rfl, (by decide : 29 ≠ 0), "java/lang/IndexOutOfBoundsException", q828, List.mem_of_getElem? (i := 5) rfl, fun q => ?_⟩
      refine z_astore_n (lv' := [(3, vR q), (0, vR (g 0)), (1, vI e9), (2, vR ao)]) F dL_endOf_12 rfl (by decide) rfl ?_
      refine z_iconst F dL_endOf_13 ?_
      exact z_iret (nf_i _) F hr (Nat.le_of_ble_eq_true rfl) (Nat.le_of_ble_eq_true rfl) dL_endOf_14 (Or.inr (⟨nc, rfl, ρp, h1p, S1, I1, D1, rfl⟩))
  · rintro _ h9 ⟨h1p, ⟨n0, ρp, rfl, S1, I1⟩, D1, rfl⟩
    show Z _ _ _ _ _ _ _ _ _ _ _ _ _ _ _ _ _ _ _ _ [vI (ρ 11 e9), vI 0, vR ao]
    refine z_i2l2 F dL_endOf_7 ?_
    obtain ⟨h1, eh1⟩ : ∃ z : Hp, hu (mgH h h1 h1p) ao (eA 6 1 (fun j => vL (if j = 0 then (iI (ρ 11 e9)).toInt else f0 j))) = z := ⟨_, rfl⟩
    refine z_lastore (N := 1) (f := fun j => f0 j) (h' := h1) F (mgH_out hoo ho) (by omega) (by omega) (by omega) dL_endOf_8 eh1 ?_
    have g2 : h1 ao = some (eA 6 1 (fun j => vL (if j = 0 then (iI (ρ 11 e9)).toInt else f0 j))) := by rw [← eh1]; exact hu_s _ _ _
    refine z_goto (tgt := 15) F dL_endOf_9 (by decide) ?_
    refine z_iconst F dL_endOf_15 ?_
    exact z_iret (nf_i _) F hr (Nat.le_of_ble_eq_true rfl) (Nat.le_of_ble_eq_true rfl) dL_endOf_16 (Or.inl ⟨n0, rfl, ρp, h1p, S1, I1, D1, eh1.symm⟩)
set_option maxRecDepth 100000 in
set_option maxHeartbeats 4000000 in
theorem mL_lines (l : Launch) (G : GG) (N0 : Nat) (h : Hp) (hl9 : l.stackTraces = false) (g : Int → Nat) (ρ : Sg) (h1 : Hp) (ao : Nat) (f0 : Int → Int) (i9 : Int) (hI : CI G g ρ h1) (hV : MC ρ) (hs : SB h1 h) (ho : h ao = some (eA 6 1 (fun j => vL (f0 j)))) (hoo : h1 ao = none) (r_i9 : -2147483648 ≤ i9 ∧ i9 < 2147483648) : Ct l G N0 yL_lines (Cond.codeWith yL_lines cL_lines 4 (some FieldType.int) [(0, 9, 12, 29)] :: LW) ({ frames := 8, cells := 4, slots := 24, locals := 320 }) [vR (g 0), vI i9, vR ao] h (fun r h' => (¬ (¬ (0 ≤ i9 ∧ i9 < ρ 16 0)) ∧ r = some (vI 0) ∧ ∃ (ρp : Sg) (h1p : Hp), SA (ρ) ρp ∧ CI G g ρp h1p ∧ (∀ a, h1p a ≠ none → h1 a ≠ none ∨ h a = none) ∧ h' = hu (mgH h h1 h1p) ao (eA 6 1 (fun j => vL (if j = 0 then (iI (ρ 17 i9)).toInt else f0 j)))) ∨ (((¬ (0 ≤ i9 ∧ i9 < ρ 16 0))) ∧ r = some (vI 1) ∧ ∃ (ρp : Sg) (h1p : Hp), SA ρ ρp ∧ CI G g ρp h1p ∧ (∀ a, h1p a ≠ none → h1 a ≠ none ∨ h a = none) ∧ h' = mgH h h1 h1p)) := by
  refine ctC_of rfl rfl ?_
  intro p e s m args below meth c F hr htab
  have F : Fx p s m args meth c RL cL_lines 4 G N0 (cA h s.heap.size) := F
  show Z _ _ _ _ _ _ _ _ _ _ _ _ _ _ _ _ _ _ _ [(0, vR (g 0)), (1, vI i9), (2, vR ao)] []
  refine z_aload_n F dL_lines_0 rfl 2 rfl ?_
  refine z_iconst F dL_lines_1 ?_
  refine z_aload_n F dL_lines_2 rfl 0 rfl ?_
  refine z_iload_n F dL_lines_3 rfl 1 rfl ?_
  refine z_xcallC (As := [vI i9]) (st := [vI 0, vR ao]) F ((mX8_lines l G N0 h1 hl9 g ρ i9 hI hV r_i9).frame hs) cvL_99 (hs _ _ (ci_0 hI)) (fun r9 h9 => by cases h9; rfl) rfl rfl ⟨Nat.le_of_ble_eq_true rfl, Nat.le_of_ble_eq_true rfl⟩ rfl ⟨Nat.le_of_ble_eq_true rfl, Nat.le_of_ble_eq_true rfl⟩ dL_lines_4 ?_ ?_
  · intro E h9 hx
    obtain ⟨h1p, ⟨ρp, S1, I1, hd⟩, D1, rfl⟩ := hx
    obtain ⟨rfl, nc⟩ := hd
    · refine ⟨[], ⟨0, 9, 12, 29⟩, [], htab.trans rfl, (fun z hz => by
          exact absurd hz (List.not_mem_nil)), rfl, (by decide : 29 ≠ 0), "java/lang/IndexOutOfBoundsException", q828, List.mem_of_getElem? (i := 5) rfl, fun q => ?_⟩
      refine z_astore_n (lv' := [(3, vR q), (0, vR (g 0)), (1, vI i9), (2, vR ao)]) F dL_lines_12 rfl (by decide) rfl ?_
      refine z_iconst F dL_lines_13 ?_
      exact z_iret (nf_i _) F hr (Nat.le_of_ble_eq_true rfl) (Nat.le_of_ble_eq_true rfl) dL_lines_14 (Or.inr (⟨nc, rfl, ρp, h1p, S1, I1, D1, rfl⟩))
  · rintro _ h9 ⟨h1p, ⟨n0, ρp, rfl, S1, I1⟩, D1, rfl⟩
    show Z _ _ _ _ _ _ _ _ _ _ _ _ _ _ _ _ _ _ _ _ [vI (ρ 17 i9), vI 0, vR ao]
    refine z_i2l2 F dL_lines_7 ?_
    obtain ⟨h1, eh1⟩ : ∃ z : Hp, hu (mgH h h1 h1p) ao (eA 6 1 (fun j => vL (if j = 0 then (iI (ρ 17 i9)).toInt else f0 j))) = z := ⟨_, rfl⟩
    refine z_lastore (N := 1) (f := fun j => f0 j) (h' := h1) F (mgH_out hoo ho) (by omega) (by omega) (by omega) dL_lines_8 eh1 ?_
    have g2 : h1 ao = some (eA 6 1 (fun j => vL (if j = 0 then (iI (ρ 17 i9)).toInt else f0 j))) := by rw [← eh1]; exact hu_s _ _ _
    refine z_goto (tgt := 15) F dL_lines_9 (by decide) ?_
    refine z_iconst F dL_lines_15 ?_
    exact z_iret (nf_i _) F hr (Nat.le_of_ble_eq_true rfl) (Nat.le_of_ble_eq_true rfl) dL_lines_16 (Or.inl ⟨n0, rfl, ρp, h1p, S1, I1, D1, eh1.symm⟩)
set_option maxRecDepth 100000 in
set_option maxHeartbeats 4000000 in
theorem mL_totalCents (l : Launch) (G : GG) (N0 : Nat) (h : Hp) (hl9 : l.stackTraces = false) (g : Int → Nat) (ρ : Sg) (h1 : Hp) (ao : Nat) (f0 : Int → Int) (i9 : Int) (hI : CI G g ρ h1) (hV : MC ρ) (hs : SB h1 h) (ho : h ao = some (eA 6 1 (fun j => vL (f0 j)))) (hoo : h1 ao = none) (r_i9 : -2147483648 ≤ i9 ∧ i9 < 2147483648) : Ct l G N0 yL_totalCents (Cond.codeWith yL_totalCents cL_totalCents 4 (some FieldType.int) [(0, 9, 12, 29)] :: LW) ({ frames := 8, cells := 4, slots := 24, locals := 320 }) [vR (g 0), vI i9, vR ao] h (fun r h' => (¬ (¬ (0 ≤ i9 ∧ i9 < ρ 16 0)) ∧ r = some (vI 0) ∧ ∃ (ρp : Sg) (h1p : Hp), SA (ρ) ρp ∧ CI G g ρp h1p ∧ (∀ a, h1p a ≠ none → h1 a ≠ none ∨ h a = none) ∧ h' = hu (mgH h h1 h1p) ao (eA 6 1 (fun j => vL (if j = 0 then (iI ((FP.f2i (fb (ρ 23 i9))).toInt)).toInt else f0 j)))) ∨ (((¬ (0 ≤ i9 ∧ i9 < ρ 16 0))) ∧ r = some (vI 1) ∧ ∃ (ρp : Sg) (h1p : Hp), SA ρ ρp ∧ CI G g ρp h1p ∧ (∀ a, h1p a ≠ none → h1 a ≠ none ∨ h a = none) ∧ h' = mgH h h1 h1p)) := by
  refine ctC_of rfl rfl ?_
  intro p e s m args below meth c F hr htab
  have F : Fx p s m args meth c RL cL_totalCents 4 G N0 (cA h s.heap.size) := F
  show Z _ _ _ _ _ _ _ _ _ _ _ _ _ _ _ _ _ _ _ [(0, vR (g 0)), (1, vI i9), (2, vR ao)] []
  refine z_aload_n F dL_totalCents_0 rfl 2 rfl ?_
  refine z_iconst F dL_totalCents_1 ?_
  refine z_aload_n F dL_totalCents_2 rfl 0 rfl ?_
  refine z_iload_n F dL_totalCents_3 rfl 1 rfl ?_
  refine z_xcallC (As := [vI i9]) (st := [vI 0, vR ao]) F ((mX8_totalCents l G N0 h1 hl9 g ρ i9 hI hV r_i9).frame hs) cvL_123 (hs _ _ (ci_0 hI)) (fun r9 h9 => by cases h9; rfl) rfl rfl ⟨Nat.le_of_ble_eq_true rfl, Nat.le_of_ble_eq_true rfl⟩ rfl ⟨Nat.le_of_ble_eq_true rfl, Nat.le_of_ble_eq_true rfl⟩ dL_totalCents_4 ?_ ?_
  · intro E h9 hx
    obtain ⟨h1p, ⟨ρp, S1, I1, hd⟩, D1, rfl⟩ := hx
    obtain ⟨rfl, nc⟩ := hd
    · refine ⟨[], ⟨0, 9, 12, 29⟩, [], htab.trans rfl, (fun z hz => by
          exact absurd hz (List.not_mem_nil)), rfl, (by decide : 29 ≠ 0), "java/lang/IndexOutOfBoundsException", q828, List.mem_of_getElem? (i := 5) rfl, fun q => ?_⟩
      refine z_astore_n (lv' := [(3, vR q), (0, vR (g 0)), (1, vI i9), (2, vR ao)]) F dL_totalCents_12 rfl (by decide) rfl ?_
      refine z_iconst F dL_totalCents_13 ?_
      exact z_iret (nf_i _) F hr (Nat.le_of_ble_eq_true rfl) (Nat.le_of_ble_eq_true rfl) dL_totalCents_14 (Or.inr (⟨nc, rfl, ρp, h1p, S1, I1, D1, rfl⟩))
  · rintro _ h9 ⟨h1p, ⟨n0, ρp, rfl, S1, I1⟩, D1, rfl⟩
    show Z _ _ _ _ _ _ _ _ _ _ _ _ _ _ _ _ _ _ _ _ [vI ((FP.f2i (fb (ρ 23 i9))).toInt), vI 0, vR ao]
    refine z_i2l2 F dL_totalCents_7 ?_
    obtain ⟨h1, eh1⟩ : ∃ z : Hp, hu (mgH h h1 h1p) ao (eA 6 1 (fun j => vL (if j = 0 then (iI ((FP.f2i (fb (ρ 23 i9))).toInt)).toInt else f0 j))) = z := ⟨_, rfl⟩
    refine z_lastore (N := 1) (f := fun j => f0 j) (h' := h1) F (mgH_out hoo ho) (by omega) (by omega) (by omega) dL_totalCents_8 eh1 ?_
    have g2 : h1 ao = some (eA 6 1 (fun j => vL (if j = 0 then (iI ((FP.f2i (fb (ρ 23 i9))).toInt)).toInt else f0 j))) := by rw [← eh1]; exact hu_s _ _ _
    refine z_goto (tgt := 15) F dL_totalCents_9 (by decide) ?_
    refine z_iconst F dL_totalCents_15 ?_
    exact z_iret (nf_i _) F hr (Nat.le_of_ble_eq_true rfl) (Nat.le_of_ble_eq_true rfl) dL_totalCents_16 (Or.inl ⟨n0, rfl, ρp, h1p, S1, I1, D1, eh1.symm⟩)
set_option maxRecDepth 100000 in
set_option maxHeartbeats 4000000 in
theorem mL_lineKind (l : Launch) (G : GG) (N0 : Nat) (h : Hp) (hl9 : l.stackTraces = false) (g : Int → Nat) (ρ : Sg) (h1 : Hp) (ao : Nat) (f0 : Int → Int) (i9 q9 : Int) (hI : CI G g ρ h1) (hV : MC ρ) (hs : SB h1 h) (ho : h ao = some (eA 6 1 (fun j => vL (f0 j)))) (hoo : h1 ao = none) (r_i9 : -2147483648 ≤ i9 ∧ i9 < 2147483648) (r_q9 : -2147483648 ≤ q9 ∧ q9 < 2147483648) : Ct l G N0 yL_lineKind (Cond.codeWith yL_lineKind cL_lineKind 5 (some FieldType.int) [(0, 10, 13, 29)] :: LW) ({ frames := 9, cells := 3, slots := 18, locals := 360 }) [vR (g 0), vI i9, vI q9, vR ao] h (fun r h' => (¬ (¬ ((0 ≤ i9 ∧ i9 < ρ 16 0) ∧ (0 ≤ q9 ∧ q9 < ρ 17 i9))) ∧ r = some (vI 0) ∧ ∃ (ρp : Sg) (h1p : Hp), SA (ρ) ρp ∧ CI G g ρp h1p ∧ (∀ a, h1p a ≠ none → h1 a ≠ none ∨ h a = none) ∧ h' = hu (mgH h h1 h1p) ao (eA 6 1 (fun j => vL (if j = 0 then (iI (ρ 19 (40 * i9 + q9))).toInt else f0 j)))) ∨ (((¬ ((0 ≤ i9 ∧ i9 < ρ 16 0) ∧ (0 ≤ q9 ∧ q9 < ρ 17 i9)))) ∧ r = some (vI 1) ∧ ∃ (ρp : Sg) (h1p : Hp), SA ρ ρp ∧ CI G g ρp h1p ∧ (∀ a, h1p a ≠ none → h1 a ≠ none ∨ h a = none) ∧ h' = mgH h h1 h1p)) := by
  refine ctC_of rfl rfl ?_
  intro p e s m args below meth c F hr htab
  have F : Fx p s m args meth c RL cL_lineKind 5 G N0 (cA h s.heap.size) := F
  show Z _ _ _ _ _ _ _ _ _ _ _ _ _ _ _ _ _ _ _ [(0, vR (g 0)), (1, vI i9), (2, vI q9), (3, vR ao)] []
  refine z_aload_n F dL_lineKind_0 rfl 3 rfl ?_
  refine z_iconst F dL_lineKind_1 ?_
  refine z_aload_n F dL_lineKind_2 rfl 0 rfl ?_
  refine z_iload_n F dL_lineKind_3 rfl 1 rfl ?_
  refine z_iload_n F dL_lineKind_4 rfl 2 rfl ?_
  refine z_xcallC (As := [vI i9, vI q9]) (st := [vI 0, vR ao]) F ((mX8_lineKind l G N0 h1 hl9 g ρ i9 q9 hI hV r_i9 r_q9).frame hs) cvL_102 (hs _ _ (ci_0 hI)) (fun r9 h9 => by cases h9; rfl) rfl rfl ⟨Nat.le_of_ble_eq_true rfl, Nat.le_of_ble_eq_true rfl⟩ rfl ⟨Nat.le_of_ble_eq_true rfl, Nat.le_of_ble_eq_true rfl⟩ dL_lineKind_5 ?_ ?_
  · intro E h9 hx
    obtain ⟨h1p, ⟨ρp, S1, I1, hd⟩, D1, rfl⟩ := hx
    obtain ⟨rfl, nc⟩ := hd
    · refine ⟨[], ⟨0, 10, 13, 29⟩, [], htab.trans rfl, (fun z hz => by
          exact absurd hz (List.not_mem_nil)), rfl, (by decide : 29 ≠ 0), "java/lang/IndexOutOfBoundsException", q828, List.mem_of_getElem? (i := 5) rfl, fun q => ?_⟩
      refine z_astore (lv' := [(4, vR q), (0, vR (g 0)), (1, vI i9), (2, vI q9), (3, vR ao)]) F dL_lineKind_13 (by decide) rfl ?_
      refine z_iconst F dL_lineKind_15 ?_
      exact z_iret (nf_i _) F hr (Nat.le_of_ble_eq_true rfl) (Nat.le_of_ble_eq_true rfl) dL_lineKind_16 (Or.inr (⟨nc, rfl, ρp, h1p, S1, I1, D1, rfl⟩))
  · rintro _ h9 ⟨h1p, ⟨n0, ρp, rfl, S1, I1⟩, D1, rfl⟩
    show Z _ _ _ _ _ _ _ _ _ _ _ _ _ _ _ _ _ _ _ _ [vI (ρ 19 (40 * i9 + q9)), vI 0, vR ao]
    refine z_i2l2 F dL_lineKind_8 ?_
    obtain ⟨h1, eh1⟩ : ∃ z : Hp, hu (mgH h h1 h1p) ao (eA 6 1 (fun j => vL (if j = 0 then (iI (ρ 19 (40 * i9 + q9))).toInt else f0 j))) = z := ⟨_, rfl⟩
    refine z_lastore (N := 1) (f := fun j => f0 j) (h' := h1) F (mgH_out hoo ho) (by omega) (by omega) (by omega) dL_lineKind_9 eh1 ?_
    have g2 : h1 ao = some (eA 6 1 (fun j => vL (if j = 0 then (iI (ρ 19 (40 * i9 + q9))).toInt else f0 j))) := by rw [← eh1]; exact hu_s _ _ _
    refine z_goto (tgt := 17) F dL_lineKind_10 (by decide) ?_
    refine z_iconst F dL_lineKind_17 ?_
    exact z_iret (nf_i _) F hr (Nat.le_of_ble_eq_true rfl) (Nat.le_of_ble_eq_true rfl) dL_lineKind_18 (Or.inl ⟨n0, rfl, ρp, h1p, S1, I1, D1, eh1.symm⟩)
set_option maxRecDepth 100000 in
set_option maxHeartbeats 4000000 in
theorem mL_lineMinutes (l : Launch) (G : GG) (N0 : Nat) (h : Hp) (hl9 : l.stackTraces = false) (g : Int → Nat) (ρ : Sg) (h1 : Hp) (ao : Nat) (f0 : Int → Int) (i9 q9 : Int) (hI : CI G g ρ h1) (hV : MC ρ) (hs : SB h1 h) (ho : h ao = some (eA 6 1 (fun j => vL (f0 j)))) (hoo : h1 ao = none) (r_i9 : -2147483648 ≤ i9 ∧ i9 < 2147483648) (r_q9 : -2147483648 ≤ q9 ∧ q9 < 2147483648) : Ct l G N0 yL_lineMinutes (Cond.codeWith yL_lineMinutes cL_lineMinutes 5 (some FieldType.int) [(0, 10, 13, 29)] :: LW) ({ frames := 9, cells := 3, slots := 18, locals := 360 }) [vR (g 0), vI i9, vI q9, vR ao] h (fun r h' => (¬ (¬ ((0 ≤ i9 ∧ i9 < ρ 16 0) ∧ (0 ≤ q9 ∧ q9 < ρ 17 i9))) ∧ r = some (vI 0) ∧ ∃ (ρp : Sg) (h1p : Hp), SA (ρ) ρp ∧ CI G g ρp h1p ∧ (∀ a, h1p a ≠ none → h1 a ≠ none ∨ h a = none) ∧ h' = hu (mgH h h1 h1p) ao (eA 6 1 (fun j => vL (if j = 0 then (iI (ρ 20 (40 * i9 + q9))).toInt else f0 j)))) ∨ (((¬ ((0 ≤ i9 ∧ i9 < ρ 16 0) ∧ (0 ≤ q9 ∧ q9 < ρ 17 i9)))) ∧ r = some (vI 1) ∧ ∃ (ρp : Sg) (h1p : Hp), SA ρ ρp ∧ CI G g ρp h1p ∧ (∀ a, h1p a ≠ none → h1 a ≠ none ∨ h a = none) ∧ h' = mgH h h1 h1p)) := by
  refine ctC_of rfl rfl ?_
  intro p e s m args below meth c F hr htab
  have F : Fx p s m args meth c RL cL_lineMinutes 5 G N0 (cA h s.heap.size) := F
  show Z _ _ _ _ _ _ _ _ _ _ _ _ _ _ _ _ _ _ _ [(0, vR (g 0)), (1, vI i9), (2, vI q9), (3, vR ao)] []
  refine z_aload_n F dL_lineMinutes_0 rfl 3 rfl ?_
  refine z_iconst F dL_lineMinutes_1 ?_
  refine z_aload_n F dL_lineMinutes_2 rfl 0 rfl ?_
  refine z_iload_n F dL_lineMinutes_3 rfl 1 rfl ?_
  refine z_iload_n F dL_lineMinutes_4 rfl 2 rfl ?_
  refine z_xcallC (As := [vI i9, vI q9]) (st := [vI 0, vR ao]) F ((mX8_lineMinutes l G N0 h1 hl9 g ρ i9 q9 hI hV r_i9 r_q9).frame hs) cvL_106 (hs _ _ (ci_0 hI)) (fun r9 h9 => by cases h9; rfl) rfl rfl ⟨Nat.le_of_ble_eq_true rfl, Nat.le_of_ble_eq_true rfl⟩ rfl ⟨Nat.le_of_ble_eq_true rfl, Nat.le_of_ble_eq_true rfl⟩ dL_lineMinutes_5 ?_ ?_
  · intro E h9 hx
    obtain ⟨h1p, ⟨ρp, S1, I1, hd⟩, D1, rfl⟩ := hx
    obtain ⟨rfl, nc⟩ := hd
    · refine ⟨[], ⟨0, 10, 13, 29⟩, [], htab.trans rfl, (fun z hz => by
          exact absurd hz (List.not_mem_nil)), rfl, (by decide : 29 ≠ 0), "java/lang/IndexOutOfBoundsException", q828, List.mem_of_getElem? (i := 5) rfl, fun q => ?_⟩
      refine z_astore (lv' := [(4, vR q), (0, vR (g 0)), (1, vI i9), (2, vI q9), (3, vR ao)]) F dL_lineMinutes_13 (by decide) rfl ?_
      refine z_iconst F dL_lineMinutes_15 ?_
      exact z_iret (nf_i _) F hr (Nat.le_of_ble_eq_true rfl) (Nat.le_of_ble_eq_true rfl) dL_lineMinutes_16 (Or.inr (⟨nc, rfl, ρp, h1p, S1, I1, D1, rfl⟩))
  · rintro _ h9 ⟨h1p, ⟨n0, ρp, rfl, S1, I1⟩, D1, rfl⟩
    show Z _ _ _ _ _ _ _ _ _ _ _ _ _ _ _ _ _ _ _ _ [vI (ρ 20 (40 * i9 + q9)), vI 0, vR ao]
    refine z_i2l2 F dL_lineMinutes_8 ?_
    obtain ⟨h1, eh1⟩ : ∃ z : Hp, hu (mgH h h1 h1p) ao (eA 6 1 (fun j => vL (if j = 0 then (iI (ρ 20 (40 * i9 + q9))).toInt else f0 j))) = z := ⟨_, rfl⟩
    refine z_lastore (N := 1) (f := fun j => f0 j) (h' := h1) F (mgH_out hoo ho) (by omega) (by omega) (by omega) dL_lineMinutes_9 eh1 ?_
    have g2 : h1 ao = some (eA 6 1 (fun j => vL (if j = 0 then (iI (ρ 20 (40 * i9 + q9))).toInt else f0 j))) := by rw [← eh1]; exact hu_s _ _ _
    refine z_goto (tgt := 17) F dL_lineMinutes_10 (by decide) ?_
    refine z_iconst F dL_lineMinutes_17 ?_
    exact z_iret (nf_i _) F hr (Nat.le_of_ble_eq_true rfl) (Nat.le_of_ble_eq_true rfl) dL_lineMinutes_18 (Or.inl ⟨n0, rfl, ρp, h1p, S1, I1, D1, eh1.symm⟩)
set_option maxRecDepth 100000 in
set_option maxHeartbeats 4000000 in
theorem mL_lineSubject (l : Launch) (G : GG) (N0 : Nat) (h : Hp) (hl9 : l.stackTraces = false) (g : Int → Nat) (ρ : Sg) (h1 : Hp) (ao : Nat) (f0 : Int → Int) (i9 q9 : Int) (hI : CI G g ρ h1) (hV : MC ρ) (hs : SB h1 h) (ho : h ao = some (eA 6 1 (fun j => vL (f0 j)))) (hoo : h1 ao = none) (r_i9 : -2147483648 ≤ i9 ∧ i9 < 2147483648) (r_q9 : -2147483648 ≤ q9 ∧ q9 < 2147483648) : Ct l G N0 yL_lineSubject (Cond.codeWith yL_lineSubject cL_lineSubject 5 (some FieldType.int) [(0, 10, 13, 29)] :: LW) ({ frames := 9, cells := 3, slots := 18, locals := 360 }) [vR (g 0), vI i9, vI q9, vR ao] h (fun r h' => (¬ (¬ ((0 ≤ i9 ∧ i9 < ρ 16 0) ∧ (0 ≤ q9 ∧ q9 < ρ 17 i9))) ∧ r = some (vI 0) ∧ ∃ (ρp : Sg) (h1p : Hp), SA (ρ) ρp ∧ CI G g ρp h1p ∧ (∀ a, h1p a ≠ none → h1 a ≠ none ∨ h a = none) ∧ h' = hu (mgH h h1 h1p) ao (eA 6 1 (fun j => vL (if j = 0 then (iI (ρ 21 (40 * i9 + q9))).toInt else f0 j)))) ∨ (((¬ ((0 ≤ i9 ∧ i9 < ρ 16 0) ∧ (0 ≤ q9 ∧ q9 < ρ 17 i9)))) ∧ r = some (vI 1) ∧ ∃ (ρp : Sg) (h1p : Hp), SA ρ ρp ∧ CI G g ρp h1p ∧ (∀ a, h1p a ≠ none → h1 a ≠ none ∨ h a = none) ∧ h' = mgH h h1 h1p)) := by
  refine ctC_of rfl rfl ?_
  intro p e s m args below meth c F hr htab
  have F : Fx p s m args meth c RL cL_lineSubject 5 G N0 (cA h s.heap.size) := F
  show Z _ _ _ _ _ _ _ _ _ _ _ _ _ _ _ _ _ _ _ [(0, vR (g 0)), (1, vI i9), (2, vI q9), (3, vR ao)] []
  refine z_aload_n F dL_lineSubject_0 rfl 3 rfl ?_
  refine z_iconst F dL_lineSubject_1 ?_
  refine z_aload_n F dL_lineSubject_2 rfl 0 rfl ?_
  refine z_iload_n F dL_lineSubject_3 rfl 1 rfl ?_
  refine z_iload_n F dL_lineSubject_4 rfl 2 rfl ?_
  refine z_xcallC (As := [vI i9, vI q9]) (st := [vI 0, vR ao]) F ((mX8_lineSubject l G N0 h1 hl9 g ρ i9 q9 hI hV r_i9 r_q9).frame hs) cvL_109 (hs _ _ (ci_0 hI)) (fun r9 h9 => by cases h9; rfl) rfl rfl ⟨Nat.le_of_ble_eq_true rfl, Nat.le_of_ble_eq_true rfl⟩ rfl ⟨Nat.le_of_ble_eq_true rfl, Nat.le_of_ble_eq_true rfl⟩ dL_lineSubject_5 ?_ ?_
  · intro E h9 hx
    obtain ⟨h1p, ⟨ρp, S1, I1, hd⟩, D1, rfl⟩ := hx
    obtain ⟨rfl, nc⟩ := hd
    · refine ⟨[], ⟨0, 10, 13, 29⟩, [], htab.trans rfl, (fun z hz => by
          exact absurd hz (List.not_mem_nil)), rfl, (by decide : 29 ≠ 0), "java/lang/IndexOutOfBoundsException", q828, List.mem_of_getElem? (i := 5) rfl, fun q => ?_⟩
      refine z_astore (lv' := [(4, vR q), (0, vR (g 0)), (1, vI i9), (2, vI q9), (3, vR ao)]) F dL_lineSubject_13 (by decide) rfl ?_
      refine z_iconst F dL_lineSubject_15 ?_
      exact z_iret (nf_i _) F hr (Nat.le_of_ble_eq_true rfl) (Nat.le_of_ble_eq_true rfl) dL_lineSubject_16 (Or.inr (⟨nc, rfl, ρp, h1p, S1, I1, D1, rfl⟩))
  · rintro _ h9 ⟨h1p, ⟨n0, ρp, rfl, S1, I1⟩, D1, rfl⟩
    show Z _ _ _ _ _ _ _ _ _ _ _ _ _ _ _ _ _ _ _ _ [vI (ρ 21 (40 * i9 + q9)), vI 0, vR ao]
    refine z_i2l2 F dL_lineSubject_8 ?_
    obtain ⟨h1, eh1⟩ : ∃ z : Hp, hu (mgH h h1 h1p) ao (eA 6 1 (fun j => vL (if j = 0 then (iI (ρ 21 (40 * i9 + q9))).toInt else f0 j))) = z := ⟨_, rfl⟩
    refine z_lastore (N := 1) (f := fun j => f0 j) (h' := h1) F (mgH_out hoo ho) (by omega) (by omega) (by omega) dL_lineSubject_9 eh1 ?_
    have g2 : h1 ao = some (eA 6 1 (fun j => vL (if j = 0 then (iI (ρ 21 (40 * i9 + q9))).toInt else f0 j))) := by rw [← eh1]; exact hu_s _ _ _
    refine z_goto (tgt := 17) F dL_lineSubject_10 (by decide) ?_
    refine z_iconst F dL_lineSubject_17 ?_
    exact z_iret (nf_i _) F hr (Nat.le_of_ble_eq_true rfl) (Nat.le_of_ble_eq_true rfl) dL_lineSubject_18 (Or.inl ⟨n0, rfl, ρp, h1p, S1, I1, D1, eh1.symm⟩)
set_option maxRecDepth 100000 in
set_option maxHeartbeats 4000000 in
theorem mL_counted (l : Launch) (G : GG) (N0 : Nat) (h : Hp) (hl9 : l.stackTraces = false) (g : Int → Nat) (ρ : Sg) (h1 : Hp) (ao : Nat) (f0 : Int → Int) (e9 : Int) (hI : CI G g ρ h1) (hV : MC ρ) (hs : SB h1 h) (ho : h ao = some (eA 6 1 (fun j => vL (f0 j)))) (hoo : h1 ao = none) (r_e9 : -2147483648 ≤ e9 ∧ e9 < 2147483648) : Ct l G N0 yL_counted (Cond.codeWith yL_counted cL_counted 4 (some FieldType.int) [(0, 9, 12, 29)] :: LW) ({ frames := 8, cells := 4, slots := 24, locals := 320 }) [vR (g 0), vI e9, vR ao] h (fun r h' => (¬ (¬ (0 ≤ e9 ∧ e9 < ρ 8 0)) ∧ r = some (vI 0) ∧ ∃ (ρp : Sg) (h1p : Hp), SA (ρ) ρp ∧ CI G g ρp h1p ∧ (∀ a, h1p a ≠ none → h1 a ≠ none ∨ h a = none) ∧ h' = hu (mgH h h1 h1p) ao (eA 6 1 (fun j => vL (if j = 0 then (iI (secS ρ e9)).toInt else f0 j)))) ∨ (((¬ (0 ≤ e9 ∧ e9 < ρ 8 0))) ∧ r = some (vI 1) ∧ ∃ (ρp : Sg) (h1p : Hp), SA ρ ρp ∧ CI G g ρp h1p ∧ (∀ a, h1p a ≠ none → h1 a ≠ none ∨ h a = none) ∧ h' = mgH h h1 h1p)) := by
  refine ctC_of rfl rfl ?_
  intro p e s m args below meth c F hr htab
  have F : Fx p s m args meth c RL cL_counted 4 G N0 (cA h s.heap.size) := F
  show Z _ _ _ _ _ _ _ _ _ _ _ _ _ _ _ _ _ _ _ [(0, vR (g 0)), (1, vI e9), (2, vR ao)] []
  refine z_aload_n F dL_counted_0 rfl 2 rfl ?_
  refine z_iconst F dL_counted_1 ?_
  refine z_aload_n F dL_counted_2 rfl 0 rfl ?_
  refine z_iload_n F dL_counted_3 rfl 1 rfl ?_
  refine z_xcallC (As := [vI e9]) (st := [vI 0, vR ao]) F ((mX8_counted l G N0 h1 hl9 g ρ e9 hI hV r_e9).frame hs) cvL_67 (hs _ _ (ci_0 hI)) (fun r9 h9 => by cases h9; rfl) rfl rfl ⟨Nat.le_of_ble_eq_true rfl, Nat.le_of_ble_eq_true rfl⟩ rfl ⟨Nat.le_of_ble_eq_true rfl, Nat.le_of_ble_eq_true rfl⟩ dL_counted_4 ?_ ?_
  · intro E h9 hx
    obtain ⟨h1p, ⟨ρp, S1, I1, hd⟩, D1, rfl⟩ := hx
    obtain ⟨rfl, nc⟩ := hd
    · refine ⟨[], ⟨0, 9, 12, 29⟩, [], htab.trans rfl, (fun z hz => by
          exact absurd hz (List.not_mem_nil)), rfl, (by decide : 29 ≠ 0), "java/lang/IndexOutOfBoundsException", q828, List.mem_of_getElem? (i := 5) rfl, fun q => ?_⟩
      refine z_astore_n (lv' := [(3, vR q), (0, vR (g 0)), (1, vI e9), (2, vR ao)]) F dL_counted_12 rfl (by decide) rfl ?_
      refine z_iconst F dL_counted_13 ?_
      exact z_iret (nf_i _) F hr (Nat.le_of_ble_eq_true rfl) (Nat.le_of_ble_eq_true rfl) dL_counted_14 (Or.inr (⟨nc, rfl, ρp, h1p, S1, I1, D1, rfl⟩))
  · rintro _ h9 ⟨h1p, ⟨n0, ρp, rfl, S1, I1⟩, D1, rfl⟩
    show Z _ _ _ _ _ _ _ _ _ _ _ _ _ _ _ _ _ _ _ _ [vI (secS ρ e9), vI 0, vR ao]
    refine z_i2l2 F dL_counted_7 ?_
    obtain ⟨h1, eh1⟩ : ∃ z : Hp, hu (mgH h h1 h1p) ao (eA 6 1 (fun j => vL (if j = 0 then (iI (secS ρ e9)).toInt else f0 j))) = z := ⟨_, rfl⟩
    refine z_lastore (N := 1) (f := fun j => f0 j) (h' := h1) F (mgH_out hoo ho) (by omega) (by omega) (by omega) dL_counted_8 eh1 ?_
    have g2 : h1 ao = some (eA 6 1 (fun j => vL (if j = 0 then (iI (secS ρ e9)).toInt else f0 j))) := by rw [← eh1]; exact hu_s _ _ _
    refine z_goto (tgt := 15) F dL_counted_9 (by decide) ?_
    refine z_iconst F dL_counted_15 ?_
    exact z_iret (nf_i _) F hr (Nat.le_of_ble_eq_true rfl) (Nat.le_of_ble_eq_true rfl) dL_counted_16 (Or.inl ⟨n0, rfl, ρp, h1p, S1, I1, D1, eh1.symm⟩)
set_option maxRecDepth 100000 in
set_option maxHeartbeats 4000000 in
theorem mL_countedByMinutes (l : Launch) (G : GG) (N0 : Nat) (h : Hp) (hl9 : l.stackTraces = false) (g : Int → Nat) (ρ : Sg) (h1 : Hp) (ao : Nat) (f0 : Int → Int) (e9 : Int) (hI : CI G g ρ h1) (hV : MC ρ) (hs : SB h1 h) (ho : h ao = some (eA 6 1 (fun j => vL (f0 j)))) (hoo : h1 ao = none) (r_e9 : -2147483648 ≤ e9 ∧ e9 < 2147483648) : Ct l G N0 yL_countedByMinutes (Cond.codeWith yL_countedByMinutes cL_countedByMinutes 4 (some FieldType.int) [(0, 9, 12, 29)] :: LW) ({ frames := 8, cells := 4, slots := 24, locals := 320 }) [vR (g 0), vI e9, vR ao] h (fun r h' => (¬ (¬ (0 ≤ e9 ∧ e9 < ρ 8 0)) ∧ r = some (vI 0) ∧ ∃ (ρp : Sg) (h1p : Hp), SA (ρ) ρp ∧ CI G g ρp h1p ∧ (∀ a, h1p a ≠ none → h1 a ≠ none ∨ h a = none) ∧ h' = hu (mgH h h1 h1p) ao (eA 6 1 (fun j => vL (if j = 0 then (iI (secS ρ e9)).toInt else f0 j)))) ∨ (((¬ (0 ≤ e9 ∧ e9 < ρ 8 0))) ∧ r = some (vI 1) ∧ ∃ (ρp : Sg) (h1p : Hp), SA ρ ρp ∧ CI G g ρp h1p ∧ (∀ a, h1p a ≠ none → h1 a ≠ none ∨ h a = none) ∧ h' = mgH h h1 h1p)) := by
  refine ctC_of rfl rfl ?_
  intro p e s m args below meth c F hr htab
  have F : Fx p s m args meth c RL cL_countedByMinutes 4 G N0 (cA h s.heap.size) := F
  show Z _ _ _ _ _ _ _ _ _ _ _ _ _ _ _ _ _ _ _ [(0, vR (g 0)), (1, vI e9), (2, vR ao)] []
  refine z_aload_n F dL_countedByMinutes_0 rfl 2 rfl ?_
  refine z_iconst F dL_countedByMinutes_1 ?_
  refine z_aload_n F dL_countedByMinutes_2 rfl 0 rfl ?_
  refine z_iload_n F dL_countedByMinutes_3 rfl 1 rfl ?_
  refine z_xcallC (As := [vI e9]) (st := [vI 0, vR ao]) F ((mX8_countedByMinutes l G N0 h1 hl9 g ρ e9 hI hV r_e9).frame hs) cvL_70 (hs _ _ (ci_0 hI)) (fun r9 h9 => by cases h9; rfl) rfl rfl ⟨Nat.le_of_ble_eq_true rfl, Nat.le_of_ble_eq_true rfl⟩ rfl ⟨Nat.le_of_ble_eq_true rfl, Nat.le_of_ble_eq_true rfl⟩ dL_countedByMinutes_4 ?_ ?_
  · intro E h9 hx
    obtain ⟨h1p, ⟨ρp, S1, I1, hd⟩, D1, rfl⟩ := hx
    obtain ⟨rfl, nc⟩ := hd
    · refine ⟨[], ⟨0, 9, 12, 29⟩, [], htab.trans rfl, (fun z hz => by
          exact absurd hz (List.not_mem_nil)), rfl, (by decide : 29 ≠ 0), "java/lang/IndexOutOfBoundsException", q828, List.mem_of_getElem? (i := 5) rfl, fun q => ?_⟩
      refine z_astore_n (lv' := [(3, vR q), (0, vR (g 0)), (1, vI e9), (2, vR ao)]) F dL_countedByMinutes_12 rfl (by decide) rfl ?_
      refine z_iconst F dL_countedByMinutes_13 ?_
      exact z_iret (nf_i _) F hr (Nat.le_of_ble_eq_true rfl) (Nat.le_of_ble_eq_true rfl) dL_countedByMinutes_14 (Or.inr (⟨nc, rfl, ρp, h1p, S1, I1, D1, rfl⟩))
  · rintro _ h9 ⟨h1p, ⟨n0, ρp, rfl, S1, I1⟩, D1, rfl⟩
    show Z _ _ _ _ _ _ _ _ _ _ _ _ _ _ _ _ _ _ _ _ [vI (secS ρ e9), vI 0, vR ao]
    refine z_i2l2 F dL_countedByMinutes_7 ?_
    obtain ⟨h1, eh1⟩ : ∃ z : Hp, hu (mgH h h1 h1p) ao (eA 6 1 (fun j => vL (if j = 0 then (iI (secS ρ e9)).toInt else f0 j))) = z := ⟨_, rfl⟩
    refine z_lastore (N := 1) (f := fun j => f0 j) (h' := h1) F (mgH_out hoo ho) (by omega) (by omega) (by omega) dL_countedByMinutes_8 eh1 ?_
    have g2 : h1 ao = some (eA 6 1 (fun j => vL (if j = 0 then (iI (secS ρ e9)).toInt else f0 j))) := by rw [← eh1]; exact hu_s _ _ _
    refine z_goto (tgt := 15) F dL_countedByMinutes_9 (by decide) ?_
    refine z_iconst F dL_countedByMinutes_15 ?_
    exact z_iret (nf_i _) F hr (Nat.le_of_ble_eq_true rfl) (Nat.le_of_ble_eq_true rfl) dL_countedByMinutes_16 (Or.inl ⟨n0, rfl, ρp, h1p, S1, I1, D1, eh1.symm⟩)
set_option maxRecDepth 100000 in
set_option maxHeartbeats 4000000 in
theorem mL_daySeconds (l : Launch) (G : GG) (N0 : Nat) (h : Hp) (hl9 : l.stackTraces = false) (g : Int → Nat) (ρ : Sg) (h1 : Hp) (ao : Nat) (f0 : Int → Int) (c9 d9 : Int) (hI : CI G g ρ h1) (hV : MC ρ) (hs : SB h1 h) (ho : h ao = some (eA 6 1 (fun j => vL (f0 j)))) (hoo : h1 ao = none) (r_c9 : -2147483648 ≤ c9 ∧ c9 < 2147483648) (r_d9 : -2147483648 ≤ d9 ∧ d9 < 2147483648) : Ct l G N0 yL_daySeconds (Cond.codeWith yL_daySeconds cL_daySeconds 5 (some FieldType.int) [(0, 10, 13, 29), (0, 10, 17, 13)] :: LW) ({ frames := 8, cells := 4, slots := 24, locals := 320 }) [vR (g 0), vI c9, vI d9, vR ao] h (fun r h' => (¬ (¬ (0 ≤ c9 ∧ c9 < ρ 2 0)) ∧ ¬ (¬ (0 ≤ d9 ∧ d9 ≤ 4)) ∧ r = some (vI 0) ∧ ∃ (ρp : Sg) (h1p : Hp), SA (ρ) ρp ∧ CI G g ρp h1p ∧ (∀ a, h1p a ≠ none → h1 a ≠ none ∨ h a = none) ∧ h' = hu (mgH h h1 h1p) ao (eA 6 1 (fun j => vL (if j = 0 then (iI (dyO (ρ 9) (ρ 12) (dyF ρ) c9 d9 1 (ρ 8 0).toNat)).toInt else f0 j)))) ∨ (((¬ (0 ≤ c9 ∧ c9 < ρ 2 0))) ∧ r = some (vI 1) ∧ ∃ (ρp : Sg) (h1p : Hp), SA ρ ρp ∧ CI G g ρp h1p ∧ (∀ a, h1p a ≠ none → h1 a ≠ none ∨ h a = none) ∧ h' = mgH h h1 h1p) ∨ ((¬ (¬ (0 ≤ c9 ∧ c9 < ρ 2 0)) ∧ (¬ (0 ≤ d9 ∧ d9 ≤ 4))) ∧ r = some (vI 2) ∧ ∃ (ρp : Sg) (h1p : Hp), SA ρ ρp ∧ CI G g ρp h1p ∧ (∀ a, h1p a ≠ none → h1 a ≠ none ∨ h a = none) ∧ h' = mgH h h1 h1p)) := by
  refine ctC_of rfl rfl ?_
  intro p e s m args below meth c F hr htab
  have F : Fx p s m args meth c RL cL_daySeconds 5 G N0 (cA h s.heap.size) := F
  show Z _ _ _ _ _ _ _ _ _ _ _ _ _ _ _ _ _ _ _ [(0, vR (g 0)), (1, vI c9), (2, vI d9), (3, vR ao)] []
  refine z_aload_n F dL_daySeconds_0 rfl 3 rfl ?_
  refine z_iconst F dL_daySeconds_1 ?_
  refine z_aload_n F dL_daySeconds_2 rfl 0 rfl ?_
  refine z_iload_n F dL_daySeconds_3 rfl 1 rfl ?_
  refine z_iload_n F dL_daySeconds_4 rfl 2 rfl ?_
  refine z_xcallC (As := [vI c9, vI d9]) (st := [vI 0, vR ao]) F ((mX8_daySeconds l G N0 h1 hl9 g ρ c9 d9 hI hV r_c9 r_d9).frame hs) cvL_84 (hs _ _ (ci_0 hI)) (fun r9 h9 => by cases h9; rfl) rfl rfl ⟨Nat.le_of_ble_eq_true rfl, Nat.le_of_ble_eq_true rfl⟩ rfl ⟨Nat.le_of_ble_eq_true rfl, Nat.le_of_ble_eq_true rfl⟩ dL_daySeconds_5 ?_ ?_
  · intro E h9 hx
    obtain ⟨h1p, ⟨ρp, S1, I1, hd⟩, D1, rfl⟩ := hx
    rcases hd with ⟨rfl, nc⟩ | ⟨rfl, nc⟩
    · refine ⟨[], ⟨0, 10, 13, 29⟩, [⟨0, 10, 17, 13⟩], htab.trans rfl, (fun z hz => by
          exact absurd hz (List.not_mem_nil)), rfl, (by decide : 29 ≠ 0), "java/lang/IndexOutOfBoundsException", q828, List.mem_of_getElem? (i := 5) rfl, fun q => ?_⟩
      refine z_astore (lv' := [(4, vR q), (0, vR (g 0)), (1, vI c9), (2, vI d9), (3, vR ao)]) F dL_daySeconds_13 (by decide) rfl ?_
      refine z_iconst F dL_daySeconds_15 ?_
      exact z_iret (nf_i _) F hr (Nat.le_of_ble_eq_true rfl) (Nat.le_of_ble_eq_true rfl) dL_daySeconds_16 (Or.inr (Or.inl ⟨nc, rfl, ρp, h1p, S1, I1, D1, rfl⟩))
    · refine ⟨[⟨0, 10, 13, 29⟩], ⟨0, 10, 17, 13⟩, [], htab.trans rfl, (fun z hz => by
          rcases List.mem_cons.mp hz with z9 | hz
          · rw [z9]; exact ⟨(by decide : 29 ≠ 0), "java/lang/IndexOutOfBoundsException", q828, List.mem_of_getElem? (i := 6) rfl⟩
          exact absurd hz (List.not_mem_nil)), rfl, (by decide : 13 ≠ 0), "java/lang/IllegalArgumentException", q728, List.mem_of_getElem? (i := 6) rfl, fun q => ?_⟩
      refine z_astore (lv' := [(4, vR q), (0, vR (g 0)), (1, vI c9), (2, vI d9), (3, vR ao)]) F dL_daySeconds_17 (by decide) rfl ?_
      refine z_iconst F dL_daySeconds_19 ?_
      exact z_iret (nf_i _) F hr (Nat.le_of_ble_eq_true rfl) (Nat.le_of_ble_eq_true rfl) dL_daySeconds_20 (Or.inr (Or.inr (⟨nc, rfl, ρp, h1p, S1, I1, D1, rfl⟩)))
  · rintro _ h9 ⟨h1p, ⟨n0, n1, ρp, rfl, S1, I1⟩, D1, rfl⟩
    show Z _ _ _ _ _ _ _ _ _ _ _ _ _ _ _ _ _ _ _ _ [vI (dyO (ρ 9) (ρ 12) (dyF ρ) c9 d9 1 (ρ 8 0).toNat), vI 0, vR ao]
    refine z_i2l2 F dL_daySeconds_8 ?_
    obtain ⟨h1, eh1⟩ : ∃ z : Hp, hu (mgH h h1 h1p) ao (eA 6 1 (fun j => vL (if j = 0 then (iI (dyO (ρ 9) (ρ 12) (dyF ρ) c9 d9 1 (ρ 8 0).toNat)).toInt else f0 j))) = z := ⟨_, rfl⟩
    refine z_lastore (N := 1) (f := fun j => f0 j) (h' := h1) F (mgH_out hoo ho) (by omega) (by omega) (by omega) dL_daySeconds_9 eh1 ?_
    have g2 : h1 ao = some (eA 6 1 (fun j => vL (if j = 0 then (iI (dyO (ρ 9) (ρ 12) (dyF ρ) c9 d9 1 (ρ 8 0).toNat)).toInt else f0 j))) := by rw [← eh1]; exact hu_s _ _ _
    refine z_goto (tgt := 21) F dL_daySeconds_10 (by decide) ?_
    refine z_iconst F dL_daySeconds_21 ?_
    exact z_iret (nf_i _) F hr (Nat.le_of_ble_eq_true rfl) (Nat.le_of_ble_eq_true rfl) dL_daySeconds_22 (Or.inl ⟨n0, n1, rfl, ρp, h1p, S1, I1, D1, eh1.symm⟩)
set_option maxRecDepth 100000 in
set_option maxHeartbeats 4000000 in
theorem mL_daySecondsByMinutes (l : Launch) (G : GG) (N0 : Nat) (h : Hp) (hl9 : l.stackTraces = false) (g : Int → Nat) (ρ : Sg) (h1 : Hp) (ao : Nat) (f0 : Int → Int) (c9 d9 : Int) (hI : CI G g ρ h1) (hV : MC ρ) (hs : SB h1 h) (ho : h ao = some (eA 6 1 (fun j => vL (f0 j)))) (hoo : h1 ao = none) (r_c9 : -2147483648 ≤ c9 ∧ c9 < 2147483648) (r_d9 : -2147483648 ≤ d9 ∧ d9 < 2147483648) : Ct l G N0 yL_daySecondsByMinutes (Cond.codeWith yL_daySecondsByMinutes cL_daySecondsByMinutes 5 (some FieldType.int) [(0, 10, 13, 29), (0, 10, 17, 13)] :: LW) ({ frames := 8, cells := 4, slots := 24, locals := 320 }) [vR (g 0), vI c9, vI d9, vR ao] h (fun r h' => (¬ (¬ (0 ≤ c9 ∧ c9 < ρ 2 0)) ∧ ¬ (¬ (0 ≤ d9 ∧ d9 ≤ 4)) ∧ r = some (vI 0) ∧ ∃ (ρp : Sg) (h1p : Hp), SA (ρ) ρp ∧ CI G g ρp h1p ∧ (∀ a, h1p a ≠ none → h1 a ≠ none ∨ h a = none) ∧ h' = hu (mgH h h1 h1p) ao (eA 6 1 (fun j => vL (if j = 0 then (iI (dyO (ρ 9) (ρ 12) (dyF ρ) c9 d9 1 (ρ 8 0).toNat)).toInt else f0 j)))) ∨ (((¬ (0 ≤ c9 ∧ c9 < ρ 2 0))) ∧ r = some (vI 1) ∧ ∃ (ρp : Sg) (h1p : Hp), SA ρ ρp ∧ CI G g ρp h1p ∧ (∀ a, h1p a ≠ none → h1 a ≠ none ∨ h a = none) ∧ h' = mgH h h1 h1p) ∨ ((¬ (¬ (0 ≤ c9 ∧ c9 < ρ 2 0)) ∧ (¬ (0 ≤ d9 ∧ d9 ≤ 4))) ∧ r = some (vI 2) ∧ ∃ (ρp : Sg) (h1p : Hp), SA ρ ρp ∧ CI G g ρp h1p ∧ (∀ a, h1p a ≠ none → h1 a ≠ none ∨ h a = none) ∧ h' = mgH h h1 h1p)) := by
  refine ctC_of rfl rfl ?_
  intro p e s m args below meth c F hr htab
  have F : Fx p s m args meth c RL cL_daySecondsByMinutes 5 G N0 (cA h s.heap.size) := F
  show Z _ _ _ _ _ _ _ _ _ _ _ _ _ _ _ _ _ _ _ [(0, vR (g 0)), (1, vI c9), (2, vI d9), (3, vR ao)] []
  refine z_aload_n F dL_daySecondsByMinutes_0 rfl 3 rfl ?_
  refine z_iconst F dL_daySecondsByMinutes_1 ?_
  refine z_aload_n F dL_daySecondsByMinutes_2 rfl 0 rfl ?_
  refine z_iload_n F dL_daySecondsByMinutes_3 rfl 1 rfl ?_
  refine z_iload_n F dL_daySecondsByMinutes_4 rfl 2 rfl ?_
  refine z_xcallC (As := [vI c9, vI d9]) (st := [vI 0, vR ao]) F ((mX8_daySecondsByMinutes l G N0 h1 hl9 g ρ c9 d9 hI hV r_c9 r_d9).frame hs) cvL_87 (hs _ _ (ci_0 hI)) (fun r9 h9 => by cases h9; rfl) rfl rfl ⟨Nat.le_of_ble_eq_true rfl, Nat.le_of_ble_eq_true rfl⟩ rfl ⟨Nat.le_of_ble_eq_true rfl, Nat.le_of_ble_eq_true rfl⟩ dL_daySecondsByMinutes_5 ?_ ?_
  · intro E h9 hx
    obtain ⟨h1p, ⟨ρp, S1, I1, hd⟩, D1, rfl⟩ := hx
    rcases hd with ⟨rfl, nc⟩ | ⟨rfl, nc⟩
    · refine ⟨[], ⟨0, 10, 13, 29⟩, [⟨0, 10, 17, 13⟩], htab.trans rfl, (fun z hz => by
          exact absurd hz (List.not_mem_nil)), rfl, (by decide : 29 ≠ 0), "java/lang/IndexOutOfBoundsException", q828, List.mem_of_getElem? (i := 5) rfl, fun q => ?_⟩
      refine z_astore (lv' := [(4, vR q), (0, vR (g 0)), (1, vI c9), (2, vI d9), (3, vR ao)]) F dL_daySecondsByMinutes_13 (by decide) rfl ?_
      refine z_iconst F dL_daySecondsByMinutes_15 ?_
      exact z_iret (nf_i _) F hr (Nat.le_of_ble_eq_true rfl) (Nat.le_of_ble_eq_true rfl) dL_daySecondsByMinutes_16 (Or.inr (Or.inl ⟨nc, rfl, ρp, h1p, S1, I1, D1, rfl⟩))
    · refine ⟨[⟨0, 10, 13, 29⟩], ⟨0, 10, 17, 13⟩, [], htab.trans rfl, (fun z hz => by
          rcases List.mem_cons.mp hz with z9 | hz
          · rw [z9]; exact ⟨(by decide : 29 ≠ 0), "java/lang/IndexOutOfBoundsException", q828, List.mem_of_getElem? (i := 6) rfl⟩
          exact absurd hz (List.not_mem_nil)), rfl, (by decide : 13 ≠ 0), "java/lang/IllegalArgumentException", q728, List.mem_of_getElem? (i := 6) rfl, fun q => ?_⟩
      refine z_astore (lv' := [(4, vR q), (0, vR (g 0)), (1, vI c9), (2, vI d9), (3, vR ao)]) F dL_daySecondsByMinutes_17 (by decide) rfl ?_
      refine z_iconst F dL_daySecondsByMinutes_19 ?_
      exact z_iret (nf_i _) F hr (Nat.le_of_ble_eq_true rfl) (Nat.le_of_ble_eq_true rfl) dL_daySecondsByMinutes_20 (Or.inr (Or.inr (⟨nc, rfl, ρp, h1p, S1, I1, D1, rfl⟩)))
  · rintro _ h9 ⟨h1p, ⟨n0, n1, ρp, rfl, S1, I1⟩, D1, rfl⟩
    show Z _ _ _ _ _ _ _ _ _ _ _ _ _ _ _ _ _ _ _ _ [vI (dyO (ρ 9) (ρ 12) (dyF ρ) c9 d9 1 (ρ 8 0).toNat), vI 0, vR ao]
    refine z_i2l2 F dL_daySecondsByMinutes_8 ?_
    obtain ⟨h1, eh1⟩ : ∃ z : Hp, hu (mgH h h1 h1p) ao (eA 6 1 (fun j => vL (if j = 0 then (iI (dyO (ρ 9) (ρ 12) (dyF ρ) c9 d9 1 (ρ 8 0).toNat)).toInt else f0 j))) = z := ⟨_, rfl⟩
    refine z_lastore (N := 1) (f := fun j => f0 j) (h' := h1) F (mgH_out hoo ho) (by omega) (by omega) (by omega) dL_daySecondsByMinutes_9 eh1 ?_
    have g2 : h1 ao = some (eA 6 1 (fun j => vL (if j = 0 then (iI (dyO (ρ 9) (ρ 12) (dyF ρ) c9 d9 1 (ρ 8 0).toNat)).toInt else f0 j))) := by rw [← eh1]; exact hu_s _ _ _
    refine z_goto (tgt := 21) F dL_daySecondsByMinutes_10 (by decide) ?_
    refine z_iconst F dL_daySecondsByMinutes_21 ?_
    exact z_iret (nf_i _) F hr (Nat.le_of_ble_eq_true rfl) (Nat.le_of_ble_eq_true rfl) dL_daySecondsByMinutes_22 (Or.inl ⟨n0, n1, rfl, ρp, h1p, S1, I1, D1, eh1.symm⟩)
set_option maxRecDepth 100000 in
set_option maxHeartbeats 4000000 in
theorem mL_openMinutes (l : Launch) (G : GG) (N0 : Nat) (h : Hp) (hl9 : l.stackTraces = false) (g : Int → Nat) (ρ : Sg) (h1 : Hp) (ao : Nat) (f0 : Int → Int) (c9 : Int) (hI : CI G g ρ h1) (hV : MC ρ) (hs : SB h1 h) (ho : h ao = some (eA 6 1 (fun j => vL (f0 j)))) (hoo : h1 ao = none) (r_c9 : -2147483648 ≤ c9 ∧ c9 < 2147483648) : Ct l G N0 yL_openMinutes (Cond.codeWith yL_openMinutes cL_openMinutes 4 (some FieldType.int) [(0, 9, 12, 29)] :: LW) ({ frames := 10, cells := 27, slots := 2430, locals := 560 }) [vR (g 0), vI c9, vR ao] h (fun r h' => (¬ (¬ (0 ≤ c9 ∧ c9 < ρ 2 0)) ∧ r = some (vI 0) ∧ ∃ (ρp : Sg) (h1p : Hp), SA (ρ) ρp ∧ CI G g ρp h1p ∧ (∀ a, h1p a ≠ none → h1 a ≠ none ∨ h a = none) ∧ h' = hu (mgH h h1 h1p) ao (eA 6 1 (fun j => vL (if j = 0 then (iI (opS ρ c9)).toInt else f0 j)))) ∨ (((¬ (0 ≤ c9 ∧ c9 < ρ 2 0))) ∧ r = some (vI 1) ∧ ∃ (ρp : Sg) (h1p : Hp), SA ρ ρp ∧ CI G g ρp h1p ∧ (∀ a, h1p a ≠ none → h1 a ≠ none ∨ h a = none) ∧ h' = mgH h h1 h1p)) := by
  refine ctC_of rfl rfl ?_
  intro p e s m args below meth c F hr htab
  have F : Fx p s m args meth c RL cL_openMinutes 4 G N0 (cA h s.heap.size) := F
  show Z _ _ _ _ _ _ _ _ _ _ _ _ _ _ _ _ _ _ _ [(0, vR (g 0)), (1, vI c9), (2, vR ao)] []
  refine z_aload_n F dL_openMinutes_0 rfl 2 rfl ?_
  refine z_iconst F dL_openMinutes_1 ?_
  refine z_aload_n F dL_openMinutes_2 rfl 0 rfl ?_
  refine z_iload_n F dL_openMinutes_3 rfl 1 rfl ?_
  refine z_xcallC (As := [vI c9]) (st := [vI 0, vR ao]) F ((mX8_openMinutes l G N0 h1 hl9 g ρ c9 hI hV r_c9).frame hs) cvL_90 (hs _ _ (ci_0 hI)) (fun r9 h9 => by cases h9; rfl) rfl rfl ⟨Nat.le_of_ble_eq_true rfl, Nat.le_of_ble_eq_true rfl⟩ rfl ⟨Nat.le_of_ble_eq_true rfl, Nat.le_of_ble_eq_true rfl⟩ dL_openMinutes_4 ?_ ?_
  · intro E h9 hx
    obtain ⟨h1p, ⟨ρp, S1, I1, hd⟩, D1, rfl⟩ := hx
    obtain ⟨rfl, nc⟩ := hd
    · refine ⟨[], ⟨0, 9, 12, 29⟩, [], htab.trans rfl, (fun z hz => by
          exact absurd hz (List.not_mem_nil)), rfl, (by decide : 29 ≠ 0), "java/lang/IndexOutOfBoundsException", q828, List.mem_of_getElem? (i := 5) rfl, fun q => ?_⟩
      refine z_astore_n (lv' := [(3, vR q), (0, vR (g 0)), (1, vI c9), (2, vR ao)]) F dL_openMinutes_12 rfl (by decide) rfl ?_
      refine z_iconst F dL_openMinutes_13 ?_
      exact z_iret (nf_i _) F hr (Nat.le_of_ble_eq_true rfl) (Nat.le_of_ble_eq_true rfl) dL_openMinutes_14 (Or.inr (⟨nc, rfl, ρp, h1p, S1, I1, D1, rfl⟩))
  · rintro _ h9 ⟨h1p, ⟨n0, ρp, rfl, S1, I1⟩, D1, rfl⟩
    show Z _ _ _ _ _ _ _ _ _ _ _ _ _ _ _ _ _ _ _ _ [vI (opS ρ c9), vI 0, vR ao]
    refine z_i2l2 F dL_openMinutes_7 ?_
    obtain ⟨h1, eh1⟩ : ∃ z : Hp, hu (mgH h h1 h1p) ao (eA 6 1 (fun j => vL (if j = 0 then (iI (opS ρ c9)).toInt else f0 j))) = z := ⟨_, rfl⟩
    refine z_lastore (N := 1) (f := fun j => f0 j) (h' := h1) F (mgH_out hoo ho) (by omega) (by omega) (by omega) dL_openMinutes_8 eh1 ?_
    have g2 : h1 ao = some (eA 6 1 (fun j => vL (if j = 0 then (iI (opS ρ c9)).toInt else f0 j))) := by rw [← eh1]; exact hu_s _ _ _
    refine z_goto (tgt := 15) F dL_openMinutes_9 (by decide) ?_
    refine z_iconst F dL_openMinutes_15 ?_
    exact z_iret (nf_i _) F hr (Nat.le_of_ble_eq_true rfl) (Nat.le_of_ble_eq_true rfl) dL_openMinutes_16 (Or.inl ⟨n0, rfl, ρp, h1p, S1, I1, D1, eh1.symm⟩)
set_option maxRecDepth 100000 in
set_option maxHeartbeats 4000000 in
theorem mL_openMinutesByLines (l : Launch) (G : GG) (N0 : Nat) (h : Hp) (hl9 : l.stackTraces = false) (g : Int → Nat) (ρ : Sg) (h1 : Hp) (ao : Nat) (f0 : Int → Int) (c9 : Int) (hI : CI G g ρ h1) (hV : MC ρ) (hs : SB h1 h) (ho : h ao = some (eA 6 1 (fun j => vL (f0 j)))) (hoo : h1 ao = none) (r_c9 : -2147483648 ≤ c9 ∧ c9 < 2147483648) : Ct l G N0 yL_openMinutesByLines (Cond.codeWith yL_openMinutesByLines cL_openMinutesByLines 4 (some FieldType.int) [(0, 9, 12, 29)] :: LW) ({ frames := 10, cells := 27, slots := 2430, locals := 560 }) [vR (g 0), vI c9, vR ao] h (fun r h' => (¬ (¬ (0 ≤ c9 ∧ c9 < ρ 2 0)) ∧ r = some (vI 0) ∧ ∃ (ρp : Sg) (h1p : Hp), SA (ρ) ρp ∧ CI G g ρp h1p ∧ (∀ a, h1p a ≠ none → h1 a ≠ none ∨ h a = none) ∧ h' = hu (mgH h h1 h1p) ao (eA 6 1 (fun j => vL (if j = 0 then (iI (opS ρ c9)).toInt else f0 j)))) ∨ (((¬ (0 ≤ c9 ∧ c9 < ρ 2 0))) ∧ r = some (vI 1) ∧ ∃ (ρp : Sg) (h1p : Hp), SA ρ ρp ∧ CI G g ρp h1p ∧ (∀ a, h1p a ≠ none → h1 a ≠ none ∨ h a = none) ∧ h' = mgH h h1 h1p)) := by
  refine ctC_of rfl rfl ?_
  intro p e s m args below meth c F hr htab
  have F : Fx p s m args meth c RL cL_openMinutesByLines 4 G N0 (cA h s.heap.size) := F
  show Z _ _ _ _ _ _ _ _ _ _ _ _ _ _ _ _ _ _ _ [(0, vR (g 0)), (1, vI c9), (2, vR ao)] []
  refine z_aload_n F dL_openMinutesByLines_0 rfl 2 rfl ?_
  refine z_iconst F dL_openMinutesByLines_1 ?_
  refine z_aload_n F dL_openMinutesByLines_2 rfl 0 rfl ?_
  refine z_iload_n F dL_openMinutesByLines_3 rfl 1 rfl ?_
  refine z_xcallC (As := [vI c9]) (st := [vI 0, vR ao]) F ((mX8_openMinutesByLines l G N0 h1 hl9 g ρ c9 hI hV r_c9).frame hs) cvL_93 (hs _ _ (ci_0 hI)) (fun r9 h9 => by cases h9; rfl) rfl rfl ⟨Nat.le_of_ble_eq_true rfl, Nat.le_of_ble_eq_true rfl⟩ rfl ⟨Nat.le_of_ble_eq_true rfl, Nat.le_of_ble_eq_true rfl⟩ dL_openMinutesByLines_4 ?_ ?_
  · intro E h9 hx
    obtain ⟨h1p, ⟨ρp, S1, I1, hd⟩, D1, rfl⟩ := hx
    obtain ⟨rfl, nc⟩ := hd
    · refine ⟨[], ⟨0, 9, 12, 29⟩, [], htab.trans rfl, (fun z hz => by
          exact absurd hz (List.not_mem_nil)), rfl, (by decide : 29 ≠ 0), "java/lang/IndexOutOfBoundsException", q828, List.mem_of_getElem? (i := 5) rfl, fun q => ?_⟩
      refine z_astore_n (lv' := [(3, vR q), (0, vR (g 0)), (1, vI c9), (2, vR ao)]) F dL_openMinutesByLines_12 rfl (by decide) rfl ?_
      refine z_iconst F dL_openMinutesByLines_13 ?_
      exact z_iret (nf_i _) F hr (Nat.le_of_ble_eq_true rfl) (Nat.le_of_ble_eq_true rfl) dL_openMinutesByLines_14 (Or.inr (⟨nc, rfl, ρp, h1p, S1, I1, D1, rfl⟩))
  · rintro _ h9 ⟨h1p, ⟨n0, ρp, rfl, S1, I1⟩, D1, rfl⟩
    show Z _ _ _ _ _ _ _ _ _ _ _ _ _ _ _ _ _ _ _ _ [vI (opS ρ c9), vI 0, vR ao]
    refine z_i2l2 F dL_openMinutesByLines_7 ?_
    obtain ⟨h1, eh1⟩ : ∃ z : Hp, hu (mgH h h1 h1p) ao (eA 6 1 (fun j => vL (if j = 0 then (iI (opS ρ c9)).toInt else f0 j))) = z := ⟨_, rfl⟩
    refine z_lastore (N := 1) (f := fun j => f0 j) (h' := h1) F (mgH_out hoo ho) (by omega) (by omega) (by omega) dL_openMinutesByLines_8 eh1 ?_
    have g2 : h1 ao = some (eA 6 1 (fun j => vL (if j = 0 then (iI (opS ρ c9)).toInt else f0 j))) := by rw [← eh1]; exact hu_s _ _ _
    refine z_goto (tgt := 15) F dL_openMinutesByLines_9 (by decide) ?_
    refine z_iconst F dL_openMinutesByLines_15 ?_
    exact z_iret (nf_i _) F hr (Nat.le_of_ble_eq_true rfl) (Nat.le_of_ble_eq_true rfl) dL_openMinutesByLines_16 (Or.inl ⟨n0, rfl, ρp, h1p, S1, I1, D1, eh1.symm⟩)
set_option maxRecDepth 100000 in
set_option maxHeartbeats 4000000 in
theorem mL_usedMinutes (l : Launch) (G : GG) (N0 : Nat) (h : Hp) (hl9 : l.stackTraces = false) (g : Int → Nat) (ρ : Sg) (h1 : Hp) (ao : Nat) (f0 : Int → Int) (c9 : Int) (hI : CI G g ρ h1) (hV : MC ρ) (hs : SB h1 h) (ho : h ao = some (eA 6 1 (fun j => vL (f0 j)))) (hoo : h1 ao = none) (r_c9 : -2147483648 ≤ c9 ∧ c9 < 2147483648) : Ct l G N0 yL_usedMinutes (Cond.codeWith yL_usedMinutes cL_usedMinutes 4 (some FieldType.int) [(0, 9, 12, 29)] :: LW) ({ frames := 10, cells := 27, slots := 2430, locals := 560 }) [vR (g 0), vI c9, vR ao] h (fun r h' => (¬ (¬ (0 ≤ c9 ∧ c9 < ρ 2 0)) ∧ r = some (vI 0) ∧ ∃ (ρp : Sg) (h1p : Hp), SA (ρ) ρp ∧ CI G g ρp h1p ∧ (∀ a, h1p a ≠ none → h1 a ≠ none ∨ h a = none) ∧ h' = hu (mgH h h1 h1p) ao (eA 6 1 (fun j => vL (if j = 0 then (iI (usS ρ c9)).toInt else f0 j)))) ∨ (((¬ (0 ≤ c9 ∧ c9 < ρ 2 0))) ∧ r = some (vI 1) ∧ ∃ (ρp : Sg) (h1p : Hp), SA ρ ρp ∧ CI G g ρp h1p ∧ (∀ a, h1p a ≠ none → h1 a ≠ none ∨ h a = none) ∧ h' = mgH h h1 h1p)) := by
  refine ctC_of rfl rfl ?_
  intro p e s m args below meth c F hr htab
  have F : Fx p s m args meth c RL cL_usedMinutes 4 G N0 (cA h s.heap.size) := F
  show Z _ _ _ _ _ _ _ _ _ _ _ _ _ _ _ _ _ _ _ [(0, vR (g 0)), (1, vI c9), (2, vR ao)] []
  refine z_aload_n F dL_usedMinutes_0 rfl 2 rfl ?_
  refine z_iconst F dL_usedMinutes_1 ?_
  refine z_aload_n F dL_usedMinutes_2 rfl 0 rfl ?_
  refine z_iload_n F dL_usedMinutes_3 rfl 1 rfl ?_
  refine z_xcallC (As := [vI c9]) (st := [vI 0, vR ao]) F ((mX8_usedMinutes l G N0 h1 hl9 g ρ c9 hI hV r_c9).frame hs) cvL_129 (hs _ _ (ci_0 hI)) (fun r9 h9 => by cases h9; rfl) rfl rfl ⟨Nat.le_of_ble_eq_true rfl, Nat.le_of_ble_eq_true rfl⟩ rfl ⟨Nat.le_of_ble_eq_true rfl, Nat.le_of_ble_eq_true rfl⟩ dL_usedMinutes_4 ?_ ?_
  · intro E h9 hx
    obtain ⟨h1p, ⟨ρp, S1, I1, hd⟩, D1, rfl⟩ := hx
    obtain ⟨rfl, nc⟩ := hd
    · refine ⟨[], ⟨0, 9, 12, 29⟩, [], htab.trans rfl, (fun z hz => by
          exact absurd hz (List.not_mem_nil)), rfl, (by decide : 29 ≠ 0), "java/lang/IndexOutOfBoundsException", q828, List.mem_of_getElem? (i := 5) rfl, fun q => ?_⟩
      refine z_astore_n (lv' := [(3, vR q), (0, vR (g 0)), (1, vI c9), (2, vR ao)]) F dL_usedMinutes_12 rfl (by decide) rfl ?_
      refine z_iconst F dL_usedMinutes_13 ?_
      exact z_iret (nf_i _) F hr (Nat.le_of_ble_eq_true rfl) (Nat.le_of_ble_eq_true rfl) dL_usedMinutes_14 (Or.inr (⟨nc, rfl, ρp, h1p, S1, I1, D1, rfl⟩))
  · rintro _ h9 ⟨h1p, ⟨n0, ρp, rfl, S1, I1⟩, D1, rfl⟩
    show Z _ _ _ _ _ _ _ _ _ _ _ _ _ _ _ _ _ _ _ _ [vI (usS ρ c9), vI 0, vR ao]
    refine z_i2l2 F dL_usedMinutes_7 ?_
    obtain ⟨h1, eh1⟩ : ∃ z : Hp, hu (mgH h h1 h1p) ao (eA 6 1 (fun j => vL (if j = 0 then (iI (usS ρ c9)).toInt else f0 j))) = z := ⟨_, rfl⟩
    refine z_lastore (N := 1) (f := fun j => f0 j) (h' := h1) F (mgH_out hoo ho) (by omega) (by omega) (by omega) dL_usedMinutes_8 eh1 ?_
    have g2 : h1 ao = some (eA 6 1 (fun j => vL (if j = 0 then (iI (usS ρ c9)).toInt else f0 j))) := by rw [← eh1]; exact hu_s _ _ _
    refine z_goto (tgt := 15) F dL_usedMinutes_9 (by decide) ?_
    refine z_iconst F dL_usedMinutes_15 ?_
    exact z_iret (nf_i _) F hr (Nat.le_of_ble_eq_true rfl) (Nat.le_of_ble_eq_true rfl) dL_usedMinutes_16 (Or.inl ⟨n0, rfl, ρp, h1p, S1, I1, D1, eh1.symm⟩)
set_option maxRecDepth 100000 in
set_option maxHeartbeats 4000000 in
theorem mL_warning (l : Launch) (G : GG) (N0 : Nat) (h : Hp) (hl9 : l.stackTraces = false) (g : Int → Nat) (ρ : Sg) (h1 : Hp) (ao : Nat) (f0 : Int → Int) (c9 : Int) (hI : CI G g ρ h1) (hV : MC ρ) (hs : SB h1 h) (ho : h ao = some (eA 6 1 (fun j => vL (f0 j)))) (hoo : h1 ao = none) (r_c9 : -2147483648 ≤ c9 ∧ c9 < 2147483648) : Ct l G N0 yL_warning (Cond.codeWith yL_warning cL_warning 4 (some FieldType.int) [(0, 9, 12, 29)] :: LW) ({ frames := 11, cells := 29, slots := 2450, locals := 600 }) [vR (g 0), vI c9, vR ao] h (fun r h' => (¬ (¬ (0 ≤ c9 ∧ c9 < ρ 2 0)) ∧ r = some (vI 0) ∧ ∃ (ρp : Sg) (h1p : Hp), SA (ρ) ρp ∧ CI G g ρp h1p ∧ (∀ a, h1p a ≠ none → h1 a ≠ none ∨ h a = none) ∧ h' = hu (mgH h h1 h1p) ao (eA 6 1 (fun j => vL (if j = 0 then (iI (if ρ 7 c9 = 0 then 110 else if (Op.cmpValue (FP.fcmp (shF ρ c9) 1061997773) .g).toInt < 0 then 110 else if ρ 7 c9 < usS ρ c9 then 111 else 119)).toInt else f0 j)))) ∨ (((¬ (0 ≤ c9 ∧ c9 < ρ 2 0))) ∧ r = some (vI 1) ∧ ∃ (ρp : Sg) (h1p : Hp), SA ρ ρp ∧ CI G g ρp h1p ∧ (∀ a, h1p a ≠ none → h1 a ≠ none ∨ h a = none) ∧ h' = mgH h h1 h1p)) := by
  refine ctC_of rfl rfl ?_
  intro p e s m args below meth c F hr htab
  have F : Fx p s m args meth c RL cL_warning 4 G N0 (cA h s.heap.size) := F
  show Z _ _ _ _ _ _ _ _ _ _ _ _ _ _ _ _ _ _ _ [(0, vR (g 0)), (1, vI c9), (2, vR ao)] []
  refine z_aload_n F dL_warning_0 rfl 2 rfl ?_
  refine z_iconst F dL_warning_1 ?_
  refine z_aload_n F dL_warning_2 rfl 0 rfl ?_
  refine z_iload_n F dL_warning_3 rfl 1 rfl ?_
  refine z_xcallC (As := [vI c9]) (st := [vI 0, vR ao]) F ((mX8_warning l G N0 h1 hl9 g ρ c9 hI hV r_c9).frame hs) cvL_137 (hs _ _ (ci_0 hI)) (fun r9 h9 => by cases h9; rfl) rfl rfl ⟨Nat.le_of_ble_eq_true rfl, Nat.le_of_ble_eq_true rfl⟩ rfl ⟨Nat.le_of_ble_eq_true rfl, Nat.le_of_ble_eq_true rfl⟩ dL_warning_4 ?_ ?_
  · intro E h9 hx
    obtain ⟨h1p, ⟨ρp, S1, I1, hd⟩, D1, rfl⟩ := hx
    obtain ⟨rfl, nc⟩ := hd
    · refine ⟨[], ⟨0, 9, 12, 29⟩, [], htab.trans rfl, (fun z hz => by
          exact absurd hz (List.not_mem_nil)), rfl, (by decide : 29 ≠ 0), "java/lang/IndexOutOfBoundsException", q828, List.mem_of_getElem? (i := 5) rfl, fun q => ?_⟩
      refine z_astore_n (lv' := [(3, vR q), (0, vR (g 0)), (1, vI c9), (2, vR ao)]) F dL_warning_12 rfl (by decide) rfl ?_
      refine z_iconst F dL_warning_13 ?_
      exact z_iret (nf_i _) F hr (Nat.le_of_ble_eq_true rfl) (Nat.le_of_ble_eq_true rfl) dL_warning_14 (Or.inr (⟨nc, rfl, ρp, h1p, S1, I1, D1, rfl⟩))
  · rintro _ h9 ⟨h1p, ⟨n0, ρp, rfl, S1, I1⟩, D1, rfl⟩
    show Z _ _ _ _ _ _ _ _ _ _ _ _ _ _ _ _ _ _ _ _ [vI (if ρ 7 c9 = 0 then 110 else if (Op.cmpValue (FP.fcmp (shF ρ c9) 1061997773) .g).toInt < 0 then 110 else if ρ 7 c9 < usS ρ c9 then 111 else 119), vI 0, vR ao]
    refine z_i2l2 F dL_warning_7 ?_
    obtain ⟨h1, eh1⟩ : ∃ z : Hp, hu (mgH h h1 h1p) ao (eA 6 1 (fun j => vL (if j = 0 then (iI (if ρ 7 c9 = 0 then 110 else if (Op.cmpValue (FP.fcmp (shF ρ c9) 1061997773) .g).toInt < 0 then 110 else if ρ 7 c9 < usS ρ c9 then 111 else 119)).toInt else f0 j))) = z := ⟨_, rfl⟩
    refine z_lastore (N := 1) (f := fun j => f0 j) (h' := h1) F (mgH_out hoo ho) (by omega) (by omega) (by omega) dL_warning_8 eh1 ?_
    have g2 : h1 ao = some (eA 6 1 (fun j => vL (if j = 0 then (iI (if ρ 7 c9 = 0 then 110 else if (Op.cmpValue (FP.fcmp (shF ρ c9) 1061997773) .g).toInt < 0 then 110 else if ρ 7 c9 < usS ρ c9 then 111 else 119)).toInt else f0 j))) := by rw [← eh1]; exact hu_s _ _ _
    refine z_goto (tgt := 15) F dL_warning_9 (by decide) ?_
    refine z_iconst F dL_warning_15 ?_
    exact z_iret (nf_i _) F hr (Nat.le_of_ble_eq_true rfl) (Nat.le_of_ble_eq_true rfl) dL_warning_16 (Or.inl ⟨n0, rfl, ρp, h1p, S1, I1, D1, eh1.symm⟩)
set_option maxRecDepth 100000 in
set_option maxHeartbeats 4000000 in
theorem mL_remove (l : Launch) (G : GG) (N0 : Nat) (h : Hp) (hl9 : l.stackTraces = false) (g : Int → Nat) (ρ : Sg) (h1 : Hp) (ao : Nat) (f0 : Int → Int) (e9 : Int) (hI : CI G g ρ h1) (hV : MC ρ) (hs : SB h1 h) (ho : h ao = some (eA 6 1 (fun j => vL (f0 j)))) (hoo : h1 ao = none) (r_e9 : -2147483648 ≤ e9 ∧ e9 < 2147483648) : Ct l G N0 yL_remove (Cond.codeWith yL_remove cL_remove 4 (some FieldType.int) [(0, 9, 12, 29), (0, 9, 15, 15)] :: LW) ({ frames := 8, cells := 4, slots := 24, locals := 320 }) [vR (g 0), vI e9, vR ao] h (fun r h' => (¬ (¬ (0 ≤ e9 ∧ e9 < ρ 8 0)) ∧ ¬ (¬ (ρ 12 e9 = 114 ∨ ρ 12 e9 = 101)) ∧ r = some (vI 0) ∧ ∃ (ρp : Sg) (h1p : Hp), SA (su ρ 12 e9 120) ρp ∧ CI G g ρp h1p ∧ (∀ a, h1p a ≠ none → h1 a ≠ none ∨ h a = none) ∧ h' = hu (mgH h h1 h1p) ao (eA 6 1 (fun j => vL (if j = 0 then (iI (keptS (su ρ 12 e9 120))).toInt else f0 j)))) ∨ (((¬ (0 ≤ e9 ∧ e9 < ρ 8 0))) ∧ r = some (vI 1) ∧ ∃ (ρp : Sg) (h1p : Hp), SA ρ ρp ∧ CI G g ρp h1p ∧ (∀ a, h1p a ≠ none → h1 a ≠ none ∨ h a = none) ∧ h' = mgH h h1 h1p) ∨ ((¬ (¬ (0 ≤ e9 ∧ e9 < ρ 8 0)) ∧ (¬ (ρ 12 e9 = 114 ∨ ρ 12 e9 = 101))) ∧ r = some (vI 2) ∧ ∃ (ρp : Sg) (h1p : Hp), SA ρ ρp ∧ CI G g ρp h1p ∧ (∀ a, h1p a ≠ none → h1 a ≠ none ∨ h a = none) ∧ h' = mgH h h1 h1p)) := by
  refine ctC_of rfl rfl ?_
  intro p e s m args below meth c F hr htab
  have F : Fx p s m args meth c RL cL_remove 4 G N0 (cA h s.heap.size) := F
  show Z _ _ _ _ _ _ _ _ _ _ _ _ _ _ _ _ _ _ _ [(0, vR (g 0)), (1, vI e9), (2, vR ao)] []
  refine z_aload_n F dL_remove_0 rfl 2 rfl ?_
  refine z_iconst F dL_remove_1 ?_
  refine z_aload_n F dL_remove_2 rfl 0 rfl ?_
  refine z_iload_n F dL_remove_3 rfl 1 rfl ?_
  refine z_xcallC (As := [vI e9]) (st := [vI 0, vR ao]) F ((mX8_remove l G N0 h1 hl9 g ρ e9 hI hV r_e9).frame hs) cvL_54 (hs _ _ (ci_0 hI)) (fun r9 h9 => by cases h9; rfl) rfl rfl ⟨Nat.le_of_ble_eq_true rfl, Nat.le_of_ble_eq_true rfl⟩ rfl ⟨Nat.le_of_ble_eq_true rfl, Nat.le_of_ble_eq_true rfl⟩ dL_remove_4 ?_ ?_
  · intro E h9 hx
    obtain ⟨h1p, ⟨ρp, S1, I1, hd⟩, D1, rfl⟩ := hx
    rcases hd with ⟨rfl, nc⟩ | ⟨rfl, nc⟩
    · refine ⟨[], ⟨0, 9, 12, 29⟩, [⟨0, 9, 15, 15⟩], htab.trans rfl, (fun z hz => by
          exact absurd hz (List.not_mem_nil)), rfl, (by decide : 29 ≠ 0), "java/lang/IndexOutOfBoundsException", q828, List.mem_of_getElem? (i := 5) rfl, fun q => ?_⟩
      refine z_astore_n (lv' := [(3, vR q), (0, vR (g 0)), (1, vI e9), (2, vR ao)]) F dL_remove_12 rfl (by decide) rfl ?_
      refine z_iconst F dL_remove_13 ?_
      exact z_iret (nf_i _) F hr (Nat.le_of_ble_eq_true rfl) (Nat.le_of_ble_eq_true rfl) dL_remove_14 (Or.inr (Or.inl ⟨nc, rfl, ρp, h1p, S1, I1, D1, rfl⟩))
    · refine ⟨[⟨0, 9, 12, 29⟩], ⟨0, 9, 15, 15⟩, [], htab.trans rfl, (fun z hz => by
          rcases List.mem_cons.mp hz with z9 | hz
          · rw [z9]; exact ⟨(by decide : 29 ≠ 0), "java/lang/IndexOutOfBoundsException", q828, List.mem_of_getElem? (i := 10) rfl⟩
          exact absurd hz (List.not_mem_nil)), rfl, (by decide : 15 ≠ 0), "java/lang/IllegalStateException", q729, List.mem_of_getElem? (i := 7) rfl, fun q => ?_⟩
      refine z_astore_n (lv' := [(3, vR q), (0, vR (g 0)), (1, vI e9), (2, vR ao)]) F dL_remove_15 rfl (by decide) rfl ?_
      refine z_iconst F dL_remove_16 ?_
      exact z_iret (nf_i _) F hr (Nat.le_of_ble_eq_true rfl) (Nat.le_of_ble_eq_true rfl) dL_remove_17 (Or.inr (Or.inr (⟨nc, rfl, ρp, h1p, S1, I1, D1, rfl⟩)))
  · rintro _ h9 ⟨h1p, ⟨n0, n1, ρp, rfl, S1, I1⟩, D1, rfl⟩
    show Z _ _ _ _ _ _ _ _ _ _ _ _ _ _ _ _ _ _ _ _ [vI (keptS (su ρ 12 e9 120)), vI 0, vR ao]
    refine z_i2l2 F dL_remove_7 ?_
    obtain ⟨h1, eh1⟩ : ∃ z : Hp, hu (mgH h h1 h1p) ao (eA 6 1 (fun j => vL (if j = 0 then (iI (keptS (su ρ 12 e9 120))).toInt else f0 j))) = z := ⟨_, rfl⟩
    refine z_lastore (N := 1) (f := fun j => f0 j) (h' := h1) F (mgH_out hoo ho) (by omega) (by omega) (by omega) dL_remove_8 eh1 ?_
    have g2 : h1 ao = some (eA 6 1 (fun j => vL (if j = 0 then (iI (keptS (su ρ 12 e9 120))).toInt else f0 j))) := by rw [← eh1]; exact hu_s _ _ _
    refine z_goto (tgt := 18) F dL_remove_9 (by decide) ?_
    refine z_iconst F dL_remove_18 ?_
    exact z_iret (nf_i _) F hr (Nat.le_of_ble_eq_true rfl) (Nat.le_of_ble_eq_true rfl) dL_remove_19 (Or.inl ⟨n0, n1, rfl, ρp, h1p, S1, I1, D1, eh1.symm⟩)
set_option maxRecDepth 100000 in
set_option maxHeartbeats 4000000 in
theorem mL_rounded (l : Launch) (G : GG) (N0 : Nat) (h : Hp) (hl9 : l.stackTraces = false) (g : Int → Nat) (ρ : Sg) (h1 : Hp) (ao : Nat) (f0 : Int → Int) (e9 : Int) (hI : CI G g ρ h1) (hV : MC ρ) (hs : SB h1 h) (ho : h ao = some (eA 6 1 (fun j => vL (f0 j)))) (hoo : h1 ao = none) (r_e9 : -2147483648 ≤ e9 ∧ e9 < 2147483648) : Ct l G N0 yL_rounded (Cond.codeWith yL_rounded cL_rounded 4 (some FieldType.int) [(0, 9, 12, 29), (0, 9, 15, 15), (0, 9, 18, 82)] :: LW) ({ frames := 10, cells := 27, slots := 2430, locals := 560 }) [vR (g 0), vI e9, vR ao] h (fun r h' => (¬ (¬ (0 ≤ e9 ∧ e9 < ρ 8 0)) ∧ ¬ (¬ (ρ 12 e9 = 114 ∨ ρ 12 e9 = 101)) ∧ ¬ (ρ 5 (ρ 9 e9) = 100) ∧ r = some (vI 0) ∧ ∃ (ρp : Sg) (h1p : Hp), SA (ρ) ρp ∧ CI G g ρp h1p ∧ (∀ a, h1p a ≠ none → h1 a ≠ none ∨ h a = none) ∧ h' = hu (mgH h h1 h1p) ao (eA 6 1 (fun j => vL (if j = 0 then (iI (rdO (ρ 9) (ρ 12) (ρ 10) (secS ρ) (ρ 5 (ρ 9 e9)) (ρ 3 (ρ 9 e9)) (ρ 4 (ρ 9 e9)) (ρ 9 e9) e9 1 (ρ 8 0).toNat)).toInt else f0 j)))) ∨ (((¬ (0 ≤ e9 ∧ e9 < ρ 8 0))) ∧ r = some (vI 1) ∧ ∃ (ρp : Sg) (h1p : Hp), SA ρ ρp ∧ CI G g ρp h1p ∧ (∀ a, h1p a ≠ none → h1 a ≠ none ∨ h a = none) ∧ h' = mgH h h1 h1p) ∨ ((¬ (¬ (0 ≤ e9 ∧ e9 < ρ 8 0)) ∧ (¬ (ρ 12 e9 = 114 ∨ ρ 12 e9 = 101))) ∧ r = some (vI 2) ∧ ∃ (ρp : Sg) (h1p : Hp), SA ρ ρp ∧ CI G g ρp h1p ∧ (∀ a, h1p a ≠ none → h1 a ≠ none ∨ h a = none) ∧ h' = mgH h h1 h1p) ∨ ((¬ (¬ (0 ≤ e9 ∧ e9 < ρ 8 0)) ∧ ¬ (¬ (ρ 12 e9 = 114 ∨ ρ 12 e9 = 101)) ∧ (ρ 5 (ρ 9 e9) = 100)) ∧ r = some (vI 3) ∧ ∃ (ρp : Sg) (h1p : Hp), SA ρ ρp ∧ CI G g ρp h1p ∧ (∀ a, h1p a ≠ none → h1 a ≠ none ∨ h a = none) ∧ h' = mgH h h1 h1p)) := by
  refine ctC_of rfl rfl ?_
  intro p e s m args below meth c F hr htab
  have F : Fx p s m args meth c RL cL_rounded 4 G N0 (cA h s.heap.size) := F
  show Z _ _ _ _ _ _ _ _ _ _ _ _ _ _ _ _ _ _ _ [(0, vR (g 0)), (1, vI e9), (2, vR ao)] []
  refine z_aload_n F dL_rounded_0 rfl 2 rfl ?_
  refine z_iconst F dL_rounded_1 ?_
  refine z_aload_n F dL_rounded_2 rfl 0 rfl ?_
  refine z_iload_n F dL_rounded_3 rfl 1 rfl ?_
  refine z_xcallC (As := [vI e9]) (st := [vI 0, vR ao]) F ((mX8_rounded l G N0 h1 hl9 g ρ e9 hI hV r_e9).frame hs) cvL_79 (hs _ _ (ci_0 hI)) (fun r9 h9 => by cases h9; rfl) rfl rfl ⟨Nat.le_of_ble_eq_true rfl, Nat.le_of_ble_eq_true rfl⟩ rfl ⟨Nat.le_of_ble_eq_true rfl, Nat.le_of_ble_eq_true rfl⟩ dL_rounded_4 ?_ ?_
  · intro E h9 hx
    obtain ⟨h1p, ⟨ρp, S1, I1, hd⟩, D1, rfl⟩ := hx
    rcases hd with ⟨rfl, nc⟩ | ⟨rfl, nc⟩ | ⟨rfl, nc⟩
    · refine ⟨[], ⟨0, 9, 12, 29⟩, [⟨0, 9, 15, 15⟩, ⟨0, 9, 18, 82⟩], htab.trans rfl, (fun z hz => by
          exact absurd hz (List.not_mem_nil)), rfl, (by decide : 29 ≠ 0), "java/lang/IndexOutOfBoundsException", q828, List.mem_of_getElem? (i := 5) rfl, fun q => ?_⟩
      refine z_astore_n (lv' := [(3, vR q), (0, vR (g 0)), (1, vI e9), (2, vR ao)]) F dL_rounded_12 rfl (by decide) rfl ?_
      refine z_iconst F dL_rounded_13 ?_
      exact z_iret (nf_i _) F hr (Nat.le_of_ble_eq_true rfl) (Nat.le_of_ble_eq_true rfl) dL_rounded_14 (Or.inr (Or.inl ⟨nc, rfl, ρp, h1p, S1, I1, D1, rfl⟩))
    · refine ⟨[⟨0, 9, 12, 29⟩], ⟨0, 9, 15, 15⟩, [⟨0, 9, 18, 82⟩], htab.trans rfl, (fun z hz => by
          rcases List.mem_cons.mp hz with z9 | hz
          · rw [z9]; exact ⟨(by decide : 29 ≠ 0), "java/lang/IndexOutOfBoundsException", q828, List.mem_of_getElem? (i := 10) rfl⟩
          exact absurd hz (List.not_mem_nil)), rfl, (by decide : 15 ≠ 0), "java/lang/IllegalStateException", q729, List.mem_of_getElem? (i := 7) rfl, fun q => ?_⟩
      refine z_astore_n (lv' := [(3, vR q), (0, vR (g 0)), (1, vI e9), (2, vR ao)]) F dL_rounded_15 rfl (by decide) rfl ?_
      refine z_iconst F dL_rounded_16 ?_
      exact z_iret (nf_i _) F hr (Nat.le_of_ble_eq_true rfl) (Nat.le_of_ble_eq_true rfl) dL_rounded_17 (Or.inr (Or.inr (Or.inl ⟨nc, rfl, ρp, h1p, S1, I1, D1, rfl⟩)))
    · refine ⟨[⟨0, 9, 12, 29⟩, ⟨0, 9, 15, 15⟩], ⟨0, 9, 18, 82⟩, [], htab.trans rfl, (fun z hz => by
          rcases List.mem_cons.mp hz with z9 | hz
          · rw [z9]; exact ⟨(by decide : 29 ≠ 0), "java/lang/IndexOutOfBoundsException", q828, List.mem_of_getElem? (i := 19) rfl⟩
          rcases List.mem_cons.mp hz with z9 | hz
          · rw [z9]; exact ⟨(by decide : 15 ≠ 0), "java/lang/IllegalStateException", q729, List.mem_of_getElem? (i := 18) rfl⟩
          exact absurd hz (List.not_mem_nil)), rfl, (by decide : 82 ≠ 0), "java/lang/UnsupportedOperationException", q1125, List.mem_of_getElem? (i := 8) rfl, fun q => ?_⟩
      refine z_astore_n (lv' := [(3, vR q), (0, vR (g 0)), (1, vI e9), (2, vR ao)]) F dL_rounded_18 rfl (by decide) rfl ?_
      refine z_iconst F dL_rounded_19 ?_
      exact z_iret (nf_i _) F hr (Nat.le_of_ble_eq_true rfl) (Nat.le_of_ble_eq_true rfl) dL_rounded_20 (Or.inr (Or.inr (Or.inr (⟨nc, rfl, ρp, h1p, S1, I1, D1, rfl⟩))))
  · rintro _ h9 ⟨h1p, ⟨n0, n1, n2, ρp, rfl, S1, I1⟩, D1, rfl⟩
    show Z _ _ _ _ _ _ _ _ _ _ _ _ _ _ _ _ _ _ _ _ [vI (rdO (ρ 9) (ρ 12) (ρ 10) (secS ρ) (ρ 5 (ρ 9 e9)) (ρ 3 (ρ 9 e9)) (ρ 4 (ρ 9 e9)) (ρ 9 e9) e9 1 (ρ 8 0).toNat), vI 0, vR ao]
    refine z_i2l2 F dL_rounded_7 ?_
    obtain ⟨h1, eh1⟩ : ∃ z : Hp, hu (mgH h h1 h1p) ao (eA 6 1 (fun j => vL (if j = 0 then (iI (rdO (ρ 9) (ρ 12) (ρ 10) (secS ρ) (ρ 5 (ρ 9 e9)) (ρ 3 (ρ 9 e9)) (ρ 4 (ρ 9 e9)) (ρ 9 e9) e9 1 (ρ 8 0).toNat)).toInt else f0 j))) = z := ⟨_, rfl⟩
    refine z_lastore (N := 1) (f := fun j => f0 j) (h' := h1) F (mgH_out hoo ho) (by omega) (by omega) (by omega) dL_rounded_8 eh1 ?_
    have g2 : h1 ao = some (eA 6 1 (fun j => vL (if j = 0 then (iI (rdO (ρ 9) (ρ 12) (ρ 10) (secS ρ) (ρ 5 (ρ 9 e9)) (ρ 3 (ρ 9 e9)) (ρ 4 (ρ 9 e9)) (ρ 9 e9) e9 1 (ρ 8 0).toNat)).toInt else f0 j))) := by rw [← eh1]; exact hu_s _ _ _
    refine z_goto (tgt := 21) F dL_rounded_9 (by decide) ?_
    refine z_iconst F dL_rounded_21 ?_
    exact z_iret (nf_i _) F hr (Nat.le_of_ble_eq_true rfl) (Nat.le_of_ble_eq_true rfl) dL_rounded_22 (Or.inl ⟨n0, n1, n2, rfl, ρp, h1p, S1, I1, D1, eh1.symm⟩)
set_option maxRecDepth 100000 in
set_option maxHeartbeats 4000000 in
theorem mL_charAt (l : Launch) (G : GG) (N0 : Nat) (h : Hp) (hl9 : l.stackTraces = false) (g : Int → Nat) (ρ : Sg) (h1 : Hp) (ao : Nat) (f0 : Int → Int) (i9 : Int) (hI : CI G g ρ h1) (hV : MC ρ) (hs : SB h1 h) (ho : h ao = some (eA 6 1 (fun j => vL (f0 j)))) (hoo : h1 ao = none) (r_i9 : -2147483648 ≤ i9 ∧ i9 < 2147483648) : Ct l G N0 yL_charAt (Cond.codeWith yL_charAt cL_charAt 4 (some FieldType.int) [(0, 9, 12, 29)] :: LW) ({ frames := 8, cells := 4, slots := 24, locals := 320 }) [vR (g 0), vI i9, vR ao] h (fun r h' => (¬ (¬ (0 ≤ i9 ∧ i9 < ρ 29 0)) ∧ r = some (vI 0) ∧ ∃ (ρp : Sg) (h1p : Hp), SA (ρ) ρp ∧ CI G g ρp h1p ∧ (∀ a, h1p a ≠ none → h1 a ≠ none ∨ h a = none) ∧ h' = hu (mgH h h1 h1p) ao (eA 6 1 (fun j => vL (if j = 0 then (iI (ρ 28 i9)).toInt else f0 j)))) ∨ (((¬ (0 ≤ i9 ∧ i9 < ρ 29 0))) ∧ r = some (vI 1) ∧ ∃ (ρp : Sg) (h1p : Hp), SA ρ ρp ∧ CI G g ρp h1p ∧ (∀ a, h1p a ≠ none → h1 a ≠ none ∨ h a = none) ∧ h' = mgH h h1 h1p)) := by
  refine ctC_of rfl rfl ?_
  intro p e s m args below meth c F hr htab
  have F : Fx p s m args meth c RL cL_charAt 4 G N0 (cA h s.heap.size) := F
  show Z _ _ _ _ _ _ _ _ _ _ _ _ _ _ _ _ _ _ _ [(0, vR (g 0)), (1, vI i9), (2, vR ao)] []
  refine z_aload_n F dL_charAt_0 rfl 2 rfl ?_
  refine z_iconst F dL_charAt_1 ?_
  refine z_aload_n F dL_charAt_2 rfl 0 rfl ?_
  refine z_iload_n F dL_charAt_3 rfl 1 rfl ?_
  refine z_xcallC (As := [vI i9]) (st := [vI 0, vR ao]) F ((mX8_charAt l G N0 h1 hl9 g ρ i9 hI hV r_i9).frame hs) cvL_76 (hs _ _ (ci_0 hI)) (fun r9 h9 => by cases h9; rfl) rfl rfl ⟨Nat.le_of_ble_eq_true rfl, Nat.le_of_ble_eq_true rfl⟩ rfl ⟨Nat.le_of_ble_eq_true rfl, Nat.le_of_ble_eq_true rfl⟩ dL_charAt_4 ?_ ?_
  · intro E h9 hx
    obtain ⟨h1p, ⟨ρp, S1, I1, hd⟩, D1, rfl⟩ := hx
    obtain ⟨rfl, nc⟩ := hd
    · refine ⟨[], ⟨0, 9, 12, 29⟩, [], htab.trans rfl, (fun z hz => by
          exact absurd hz (List.not_mem_nil)), rfl, (by decide : 29 ≠ 0), "java/lang/IndexOutOfBoundsException", q828, List.mem_of_getElem? (i := 5) rfl, fun q => ?_⟩
      refine z_astore_n (lv' := [(3, vR q), (0, vR (g 0)), (1, vI i9), (2, vR ao)]) F dL_charAt_12 rfl (by decide) rfl ?_
      refine z_iconst F dL_charAt_13 ?_
      exact z_iret (nf_i _) F hr (Nat.le_of_ble_eq_true rfl) (Nat.le_of_ble_eq_true rfl) dL_charAt_14 (Or.inr (⟨nc, rfl, ρp, h1p, S1, I1, D1, rfl⟩))
  · rintro _ h9 ⟨h1p, ⟨n0, ρp, rfl, S1, I1⟩, D1, rfl⟩
    show Z _ _ _ _ _ _ _ _ _ _ _ _ _ _ _ _ _ _ _ _ [vI (ρ 28 i9), vI 0, vR ao]
    refine z_i2l2 F dL_charAt_7 ?_
    obtain ⟨h1, eh1⟩ : ∃ z : Hp, hu (mgH h h1 h1p) ao (eA 6 1 (fun j => vL (if j = 0 then (iI (ρ 28 i9)).toInt else f0 j))) = z := ⟨_, rfl⟩
    refine z_lastore (N := 1) (f := fun j => f0 j) (h' := h1) F (mgH_out hoo ho) (by omega) (by omega) (by omega) dL_charAt_8 eh1 ?_
    have g2 : h1 ao = some (eA 6 1 (fun j => vL (if j = 0 then (iI (ρ 28 i9)).toInt else f0 j))) := by rw [← eh1]; exact hu_s _ _ _
    refine z_goto (tgt := 15) F dL_charAt_9 (by decide) ?_
    refine z_iconst F dL_charAt_15 ?_
    exact z_iret (nf_i _) F hr (Nat.le_of_ble_eq_true rfl) (Nat.le_of_ble_eq_true rfl) dL_charAt_16 (Or.inl ⟨n0, rfl, ρp, h1p, S1, I1, D1, eh1.symm⟩)
set_option maxRecDepth 100000 in
set_option maxHeartbeats 4000000 in
theorem mL_start (l : Launch) (G : GG) (N0 : Nat) (h : Hp) (hl9 : l.stackTraces = false) (g : Int → Nat) (ρ : Sg) (h1 : Hp) (ao : Nat) (f0 : Int → Int) (c9 : Int) (hI : CI G g ρ h1) (hV : MC ρ) (hs : SB h1 h) (ho : h ao = some (eA 6 1 (fun j => vL (f0 j)))) (hoo : h1 ao = none) (r_c9 : -2147483648 ≤ c9 ∧ c9 < 2147483648) : Ct l G N0 yL_start (Cond.codeWith yL_start cL_start 4 (some FieldType.int) [(0, 9, 12, 29), (0, 9, 15, 15)] :: LW) ({ frames := 10, cells := 6, slots := 140, locals := 520 }) [vR (g 0), vI c9, vR ao] h (fun r h' => (¬ (¬ (0 ≤ c9 ∧ c9 < ρ 2 0)) ∧ ¬ (ρ 8 0 = 24 ∨ cst ρ 114 (ρ 8 0).toNat = 4) ∧ r = some (vI 0) ∧ ∃ (ρp : Sg) (h1p : Hp), SA (mkE ρ c9 (ρ 0 0) (ρ 0 0) 114) ρp ∧ CI G g ρp h1p ∧ (∀ a, h1p a ≠ none → h1 a ≠ none ∨ h a = none) ∧ h' = hu (mgH h h1 h1p) ao (eA 6 1 (fun j => vL (if j = 0 then (iI (ρ 8 0)).toInt else f0 j)))) ∨ (((¬ (0 ≤ c9 ∧ c9 < ρ 2 0))) ∧ r = some (vI 1) ∧ ∃ (ρp : Sg) (h1p : Hp), SA ρ ρp ∧ CI G g ρp h1p ∧ (∀ a, h1p a ≠ none → h1 a ≠ none ∨ h a = none) ∧ h' = mgH h h1 h1p) ∨ ((¬ (¬ (0 ≤ c9 ∧ c9 < ρ 2 0)) ∧ (ρ 8 0 = 24 ∨ cst ρ 114 (ρ 8 0).toNat = 4)) ∧ r = some (vI 2) ∧ ∃ (ρp : Sg) (h1p : Hp), SA ρ ρp ∧ CI G g ρp h1p ∧ (∀ a, h1p a ≠ none → h1 a ≠ none ∨ h a = none) ∧ h' = mgH h h1 h1p)) := by
  refine ctC_of rfl rfl ?_
  intro p e s m args below meth c F hr htab
  have F : Fx p s m args meth c RL cL_start 4 G N0 (cA h s.heap.size) := F
  show Z _ _ _ _ _ _ _ _ _ _ _ _ _ _ _ _ _ _ _ [(0, vR (g 0)), (1, vI c9), (2, vR ao)] []
  refine z_aload_n F dL_start_0 rfl 2 rfl ?_
  refine z_iconst F dL_start_1 ?_
  refine z_aload_n F dL_start_2 rfl 0 rfl ?_
  refine z_iload_n F dL_start_3 rfl 1 rfl ?_
  refine z_xcallC (As := [vI c9]) (st := [vI 0, vR ao]) F ((mX8_start l G N0 h1 hl9 g ρ c9 hI hV r_c9).frame hs) cvL_38 (hs _ _ (ci_0 hI)) (fun r9 h9 => by cases h9; rfl) rfl rfl ⟨Nat.le_of_ble_eq_true rfl, Nat.le_of_ble_eq_true rfl⟩ rfl ⟨Nat.le_of_ble_eq_true rfl, Nat.le_of_ble_eq_true rfl⟩ dL_start_4 ?_ ?_
  · intro E h9 hx
    obtain ⟨h1p, ⟨ρp, S1, I1, hd⟩, D1, rfl⟩ := hx
    rcases hd with ⟨rfl, nc⟩ | ⟨rfl, nc⟩
    · refine ⟨[], ⟨0, 9, 12, 29⟩, [⟨0, 9, 15, 15⟩], htab.trans rfl, (fun z hz => by
          exact absurd hz (List.not_mem_nil)), rfl, (by decide : 29 ≠ 0), "java/lang/IndexOutOfBoundsException", q828, List.mem_of_getElem? (i := 5) rfl, fun q => ?_⟩
      refine z_astore_n (lv' := [(3, vR q), (0, vR (g 0)), (1, vI c9), (2, vR ao)]) F dL_start_12 rfl (by decide) rfl ?_
      refine z_iconst F dL_start_13 ?_
      exact z_iret (nf_i _) F hr (Nat.le_of_ble_eq_true rfl) (Nat.le_of_ble_eq_true rfl) dL_start_14 (Or.inr (Or.inl ⟨nc, rfl, ρp, h1p, S1, I1, D1, rfl⟩))
    · refine ⟨[⟨0, 9, 12, 29⟩], ⟨0, 9, 15, 15⟩, [], htab.trans rfl, (fun z hz => by
          rcases List.mem_cons.mp hz with z9 | hz
          · rw [z9]; exact ⟨(by decide : 29 ≠ 0), "java/lang/IndexOutOfBoundsException", q828, List.mem_of_getElem? (i := 10) rfl⟩
          exact absurd hz (List.not_mem_nil)), rfl, (by decide : 15 ≠ 0), "java/lang/IllegalStateException", q729, List.mem_of_getElem? (i := 7) rfl, fun q => ?_⟩
      refine z_astore_n (lv' := [(3, vR q), (0, vR (g 0)), (1, vI c9), (2, vR ao)]) F dL_start_15 rfl (by decide) rfl ?_
      refine z_iconst F dL_start_16 ?_
      exact z_iret (nf_i _) F hr (Nat.le_of_ble_eq_true rfl) (Nat.le_of_ble_eq_true rfl) dL_start_17 (Or.inr (Or.inr (⟨nc, rfl, ρp, h1p, S1, I1, D1, rfl⟩)))
  · rintro _ h9 ⟨h1p, ⟨n0, n1, ρp, rfl, S1, I1⟩, D1, rfl⟩
    show Z _ _ _ _ _ _ _ _ _ _ _ _ _ _ _ _ _ _ _ _ [vI (ρ 8 0), vI 0, vR ao]
    refine z_i2l2 F dL_start_7 ?_
    obtain ⟨h1, eh1⟩ : ∃ z : Hp, hu (mgH h h1 h1p) ao (eA 6 1 (fun j => vL (if j = 0 then (iI (ρ 8 0)).toInt else f0 j))) = z := ⟨_, rfl⟩
    refine z_lastore (N := 1) (f := fun j => f0 j) (h' := h1) F (mgH_out hoo ho) (by omega) (by omega) (by omega) dL_start_8 eh1 ?_
    have g2 : h1 ao = some (eA 6 1 (fun j => vL (if j = 0 then (iI (ρ 8 0)).toInt else f0 j))) := by rw [← eh1]; exact hu_s _ _ _
    refine z_goto (tgt := 18) F dL_start_9 (by decide) ?_
    refine z_iconst F dL_start_18 ?_
    exact z_iret (nf_i _) F hr (Nat.le_of_ble_eq_true rfl) (Nat.le_of_ble_eq_true rfl) dL_start_19 (Or.inl ⟨n0, n1, rfl, ρp, h1p, S1, I1, D1, eh1.symm⟩)
set_option maxRecDepth 100000 in
set_option maxHeartbeats 4000000 in
theorem mL_addEntry (l : Launch) (G : GG) (N0 : Nat) (h : Hp) (hl9 : l.stackTraces = false) (g : Int → Nat) (ρ : Sg) (h1 : Hp) (ao : Nat) (f0 : Int → Int) (c9 s9 t9 : Int) (hI : CI G g ρ h1) (hV : MC ρ) (hs : SB h1 h) (ho : h ao = some (eA 6 1 (fun j => vL (f0 j)))) (hoo : h1 ao = none) (r_c9 : -2147483648 ≤ c9 ∧ c9 < 2147483648) (r_s9 : -2147483648 ≤ s9 ∧ s9 < 2147483648) (r_t9 : -2147483648 ≤ t9 ∧ t9 < 2147483648) : Ct l G N0 yL_addEntry (Cond.codeWith yL_addEntry cL_addEntry 6 (some FieldType.int) [(0, 12, 15, 29), (0, 12, 19, 13), (0, 12, 23, 15)] :: LW) ({ frames := 10, cells := 6, slots := 140, locals := 520 }) [vR (g 0), vI c9, vI s9, vI t9, vR ao] h (fun r h' => (¬ (¬ (0 ≤ c9 ∧ c9 < ρ 2 0)) ∧ ¬ (s9 < 0 ∨ t9 < s9 ∨ ρ 0 0 < t9) ∧ ¬ (ρ 8 0 = 24) ∧ r = some (vI 0) ∧ ∃ (ρp : Sg) (h1p : Hp), SA (mkE ρ c9 s9 t9 101) ρp ∧ CI G g ρp h1p ∧ (∀ a, h1p a ≠ none → h1 a ≠ none ∨ h a = none) ∧ h' = hu (mgH h h1 h1p) ao (eA 6 1 (fun j => vL (if j = 0 then (iI (ρ 8 0)).toInt else f0 j)))) ∨ (((¬ (0 ≤ c9 ∧ c9 < ρ 2 0))) ∧ r = some (vI 1) ∧ ∃ (ρp : Sg) (h1p : Hp), SA ρ ρp ∧ CI G g ρp h1p ∧ (∀ a, h1p a ≠ none → h1 a ≠ none ∨ h a = none) ∧ h' = mgH h h1 h1p) ∨ ((¬ (¬ (0 ≤ c9 ∧ c9 < ρ 2 0)) ∧ (s9 < 0 ∨ t9 < s9 ∨ ρ 0 0 < t9)) ∧ r = some (vI 2) ∧ ∃ (ρp : Sg) (h1p : Hp), SA ρ ρp ∧ CI G g ρp h1p ∧ (∀ a, h1p a ≠ none → h1 a ≠ none ∨ h a = none) ∧ h' = mgH h h1 h1p) ∨ ((¬ (¬ (0 ≤ c9 ∧ c9 < ρ 2 0)) ∧ ¬ (s9 < 0 ∨ t9 < s9 ∨ ρ 0 0 < t9) ∧ (ρ 8 0 = 24)) ∧ r = some (vI 3) ∧ ∃ (ρp : Sg) (h1p : Hp), SA ρ ρp ∧ CI G g ρp h1p ∧ (∀ a, h1p a ≠ none → h1 a ≠ none ∨ h a = none) ∧ h' = mgH h h1 h1p)) := by
  refine ctC_of rfl rfl ?_
  intro p e s m args below meth c F hr htab
  have F : Fx p s m args meth c RL cL_addEntry 6 G N0 (cA h s.heap.size) := F
  show Z _ _ _ _ _ _ _ _ _ _ _ _ _ _ _ _ _ _ _ [(0, vR (g 0)), (1, vI c9), (2, vI s9), (3, vI t9), (4, vR ao)] []
  refine z_aload F dL_addEntry_0 4 rfl ?_
  refine z_iconst F dL_addEntry_2 ?_
  refine z_aload_n F dL_addEntry_3 rfl 0 rfl ?_
  refine z_iload_n F dL_addEntry_4 rfl 1 rfl ?_
  refine z_iload_n F dL_addEntry_5 rfl 2 rfl ?_
  refine z_iload_n F dL_addEntry_6 rfl 3 rfl ?_
  refine z_xcallC (As := [vI c9, vI s9, vI t9]) (st := [vI 0, vR ao]) F ((mX8_addEntry l G N0 h1 hl9 g ρ c9 s9 t9 hI hV r_c9 r_s9 r_t9).frame hs) cvL_44 (hs _ _ (ci_0 hI)) (fun r9 h9 => by cases h9; rfl) rfl rfl ⟨Nat.le_of_ble_eq_true rfl, Nat.le_of_ble_eq_true rfl⟩ rfl ⟨Nat.le_of_ble_eq_true rfl, Nat.le_of_ble_eq_true rfl⟩ dL_addEntry_7 ?_ ?_
  · intro E h9 hx
    obtain ⟨h1p, ⟨ρp, S1, I1, hd⟩, D1, rfl⟩ := hx
    rcases hd with ⟨rfl, nc⟩ | ⟨rfl, nc⟩ | ⟨rfl, nc⟩
    · refine ⟨[], ⟨0, 12, 15, 29⟩, [⟨0, 12, 19, 13⟩, ⟨0, 12, 23, 15⟩], htab.trans rfl, (fun z hz => by
          exact absurd hz (List.not_mem_nil)), rfl, (by decide : 29 ≠ 0), "java/lang/IndexOutOfBoundsException", q828, List.mem_of_getElem? (i := 5) rfl, fun q => ?_⟩
      refine z_astore (lv' := [(5, vR q), (0, vR (g 0)), (1, vI c9), (2, vI s9), (3, vI t9), (4, vR ao)]) F dL_addEntry_15 (by decide) rfl ?_
      refine z_iconst F dL_addEntry_17 ?_
      exact z_iret (nf_i _) F hr (Nat.le_of_ble_eq_true rfl) (Nat.le_of_ble_eq_true rfl) dL_addEntry_18 (Or.inr (Or.inl ⟨nc, rfl, ρp, h1p, S1, I1, D1, rfl⟩))
    · refine ⟨[⟨0, 12, 15, 29⟩], ⟨0, 12, 19, 13⟩, [⟨0, 12, 23, 15⟩], htab.trans rfl, (fun z hz => by
          rcases List.mem_cons.mp hz with z9 | hz
          · rw [z9]; exact ⟨(by decide : 29 ≠ 0), "java/lang/IndexOutOfBoundsException", q828, List.mem_of_getElem? (i := 6) rfl⟩
          exact absurd hz (List.not_mem_nil)), rfl, (by decide : 13 ≠ 0), "java/lang/IllegalArgumentException", q728, List.mem_of_getElem? (i := 6) rfl, fun q => ?_⟩
      refine z_astore (lv' := [(5, vR q), (0, vR (g 0)), (1, vI c9), (2, vI s9), (3, vI t9), (4, vR ao)]) F dL_addEntry_19 (by decide) rfl ?_
      refine z_iconst F dL_addEntry_21 ?_
      exact z_iret (nf_i _) F hr (Nat.le_of_ble_eq_true rfl) (Nat.le_of_ble_eq_true rfl) dL_addEntry_22 (Or.inr (Or.inr (Or.inl ⟨nc, rfl, ρp, h1p, S1, I1, D1, rfl⟩)))
    · refine ⟨[⟨0, 12, 15, 29⟩, ⟨0, 12, 19, 13⟩], ⟨0, 12, 23, 15⟩, [], htab.trans rfl, (fun z hz => by
          rcases List.mem_cons.mp hz with z9 | hz
          · rw [z9]; exact ⟨(by decide : 29 ≠ 0), "java/lang/IndexOutOfBoundsException", q828, List.mem_of_getElem? (i := 10) rfl⟩
          rcases List.mem_cons.mp hz with z9 | hz
          · rw [z9]; exact ⟨(by decide : 13 ≠ 0), "java/lang/IllegalArgumentException", q728, List.mem_of_getElem? (i := 9) rfl⟩
          exact absurd hz (List.not_mem_nil)), rfl, (by decide : 15 ≠ 0), "java/lang/IllegalStateException", q729, List.mem_of_getElem? (i := 7) rfl, fun q => ?_⟩
      refine z_astore (lv' := [(5, vR q), (0, vR (g 0)), (1, vI c9), (2, vI s9), (3, vI t9), (4, vR ao)]) F dL_addEntry_23 (by decide) rfl ?_
      refine z_iconst F dL_addEntry_25 ?_
      exact z_iret (nf_i _) F hr (Nat.le_of_ble_eq_true rfl) (Nat.le_of_ble_eq_true rfl) dL_addEntry_26 (Or.inr (Or.inr (Or.inr (⟨nc, rfl, ρp, h1p, S1, I1, D1, rfl⟩))))
  · rintro _ h9 ⟨h1p, ⟨n0, n1, n2, ρp, rfl, S1, I1⟩, D1, rfl⟩
    show Z _ _ _ _ _ _ _ _ _ _ _ _ _ _ _ _ _ _ _ _ [vI (ρ 8 0), vI 0, vR ao]
    refine z_i2l2 F dL_addEntry_10 ?_
    obtain ⟨h1, eh1⟩ : ∃ z : Hp, hu (mgH h h1 h1p) ao (eA 6 1 (fun j => vL (if j = 0 then (iI (ρ 8 0)).toInt else f0 j))) = z := ⟨_, rfl⟩
    refine z_lastore (N := 1) (f := fun j => f0 j) (h' := h1) F (mgH_out hoo ho) (by omega) (by omega) (by omega) dL_addEntry_11 eh1 ?_
    have g2 : h1 ao = some (eA 6 1 (fun j => vL (if j = 0 then (iI (ρ 8 0)).toInt else f0 j))) := by rw [← eh1]; exact hu_s _ _ _
    refine z_goto (tgt := 27) F dL_addEntry_12 (by decide) ?_
    refine z_iconst F dL_addEntry_27 ?_
    exact z_iret (nf_i _) F hr (Nat.le_of_ble_eq_true rfl) (Nat.le_of_ble_eq_true rfl) dL_addEntry_28 (Or.inl ⟨n0, n1, n2, rfl, ρp, h1p, S1, I1, D1, eh1.symm⟩)
set_option maxRecDepth 100000 in
set_option maxHeartbeats 4000000 in
theorem mL_addClient (l : Launch) (G : GG) (N0 : Nat) (h : Hp) (hl9 : l.stackTraces = false) (g : Int → Nat) (ρ : Sg) (h1 : Hp) (ao : Nat) (f0 : Int → Int) (u9 mo le ra : Int) (hI : CI G g ρ h1) (hV : MC ρ) (hs : SB h1 h) (ho : h ao = some (eA 6 1 (fun j => vL (f0 j)))) (hoo : h1 ao = none) (r_u9 : -2147483648 ≤ u9 ∧ u9 < 2147483648) (r_mo : 0 ≤ mo ∧ mo < 65536) (r_le : 0 ≤ le ∧ le < 65536) (r_ra : -2147483648 ≤ ra ∧ ra < 2147483648) : Ct l G N0 yL_addClient (Cond.codeWith yL_addClient cL_addClient 7 (some FieldType.int) [(0, 14, 17, 13), (0, 14, 21, 15)] :: LW) ({ frames := 10, cells := 6, slots := 140, locals := 520 }) [vR (g 0), vI u9, vI mo, vI le, vI ra, vR ao] h (fun r h' => (¬ (¬ ((1 ≤ u9 ∧ u9 ≤ 60) ∧ (mo = 117 ∨ mo = 100 ∨ mo = 110) ∧ (le = 101 ∨ le = 100 ∨ le = 99)) ∨ ¬ (0 ≤ ra ∧ ra ≤ 50000)) ∧ ¬ (ρ 2 0 = 5) ∧ r = some (vI 0) ∧ ∃ (ρp : Sg) (h1p : Hp), SA (mkC ρ u9 mo le ra) ρp ∧ CI G g ρp h1p ∧ (∀ a, h1p a ≠ none → h1 a ≠ none ∨ h a = none) ∧ h' = hu (mgH h h1 h1p) ao (eA 6 1 (fun j => vL (if j = 0 then (iI (ρ 2 0)).toInt else f0 j)))) ∨ (((¬ ((1 ≤ u9 ∧ u9 ≤ 60) ∧ (mo = 117 ∨ mo = 100 ∨ mo = 110) ∧ (le = 101 ∨ le = 100 ∨ le = 99)) ∨ ¬ (0 ≤ ra ∧ ra ≤ 50000))) ∧ r = some (vI 1) ∧ ∃ (ρp : Sg) (h1p : Hp), SA ρ ρp ∧ CI G g ρp h1p ∧ (∀ a, h1p a ≠ none → h1 a ≠ none ∨ h a = none) ∧ h' = mgH h h1 h1p) ∨ ((¬ (¬ ((1 ≤ u9 ∧ u9 ≤ 60) ∧ (mo = 117 ∨ mo = 100 ∨ mo = 110) ∧ (le = 101 ∨ le = 100 ∨ le = 99)) ∨ ¬ (0 ≤ ra ∧ ra ≤ 50000)) ∧ (ρ 2 0 = 5)) ∧ r = some (vI 2) ∧ ∃ (ρp : Sg) (h1p : Hp), SA ρ ρp ∧ CI G g ρp h1p ∧ (∀ a, h1p a ≠ none → h1 a ≠ none ∨ h a = none) ∧ h' = mgH h h1 h1p)) := by
  refine ctC_of rfl rfl ?_
  intro p e s m args below meth c F hr htab
  have F : Fx p s m args meth c RL cL_addClient 7 G N0 (cA h s.heap.size) := F
  show Z _ _ _ _ _ _ _ _ _ _ _ _ _ _ _ _ _ _ _ [(0, vR (g 0)), (1, vI u9), (2, vI mo), (3, vI le), (4, vI ra), (5, vR ao)] []
  refine z_aload F dL_addClient_0 5 rfl ?_
  refine z_iconst F dL_addClient_2 ?_
  refine z_aload_n F dL_addClient_3 rfl 0 rfl ?_
  refine z_iload_n F dL_addClient_4 rfl 1 rfl ?_
  refine z_iload_n F dL_addClient_5 rfl 2 rfl ?_
  refine z_iload_n F dL_addClient_6 rfl 3 rfl ?_
  refine z_iload F dL_addClient_7 4 rfl ?_
  refine z_xcallC (As := [vI u9, vI mo, vI le, vI ra]) (st := [vI 0, vR ao]) F ((mX8_addClient l G N0 h1 hl9 g ρ u9 mo le ra hI hV r_u9 r_mo r_le r_ra).frame hs) cvL_21 (hs _ _ (ci_0 hI)) (fun r9 h9 => by cases h9; rfl) rfl rfl ⟨Nat.le_of_ble_eq_true rfl, Nat.le_of_ble_eq_true rfl⟩ rfl ⟨Nat.le_of_ble_eq_true rfl, Nat.le_of_ble_eq_true rfl⟩ dL_addClient_9 ?_ ?_
  · intro E h9 hx
    obtain ⟨h1p, ⟨ρp, S1, I1, hd⟩, D1, rfl⟩ := hx
    rcases hd with ⟨rfl, nc⟩ | ⟨rfl, nc⟩
    · refine ⟨[], ⟨0, 14, 17, 13⟩, [⟨0, 14, 21, 15⟩], htab.trans rfl, (fun z hz => by
          exact absurd hz (List.not_mem_nil)), rfl, (by decide : 13 ≠ 0), "java/lang/IllegalArgumentException", q728, List.mem_of_getElem? (i := 6) rfl, fun q => ?_⟩
      refine z_astore (lv' := [(6, vR q), (0, vR (g 0)), (1, vI u9), (2, vI mo), (3, vI le), (4, vI ra), (5, vR ao)]) F dL_addClient_17 (by decide) rfl ?_
      refine z_iconst F dL_addClient_19 ?_
      exact z_iret (nf_i _) F hr (Nat.le_of_ble_eq_true rfl) (Nat.le_of_ble_eq_true rfl) dL_addClient_20 (Or.inr (Or.inl ⟨nc, rfl, ρp, h1p, S1, I1, D1, rfl⟩))
    · refine ⟨[⟨0, 14, 17, 13⟩], ⟨0, 14, 21, 15⟩, [], htab.trans rfl, (fun z hz => by
          rcases List.mem_cons.mp hz with z9 | hz
          · rw [z9]; exact ⟨(by decide : 13 ≠ 0), "java/lang/IllegalArgumentException", q728, List.mem_of_getElem? (i := 9) rfl⟩
          exact absurd hz (List.not_mem_nil)), rfl, (by decide : 15 ≠ 0), "java/lang/IllegalStateException", q729, List.mem_of_getElem? (i := 7) rfl, fun q => ?_⟩
      refine z_astore (lv' := [(6, vR q), (0, vR (g 0)), (1, vI u9), (2, vI mo), (3, vI le), (4, vI ra), (5, vR ao)]) F dL_addClient_21 (by decide) rfl ?_
      refine z_iconst F dL_addClient_23 ?_
      exact z_iret (nf_i _) F hr (Nat.le_of_ble_eq_true rfl) (Nat.le_of_ble_eq_true rfl) dL_addClient_24 (Or.inr (Or.inr (⟨nc, rfl, ρp, h1p, S1, I1, D1, rfl⟩)))
  · rintro _ h9 ⟨h1p, ⟨n0, n1, ρp, rfl, S1, I1⟩, D1, rfl⟩
    show Z _ _ _ _ _ _ _ _ _ _ _ _ _ _ _ _ _ _ _ _ [vI (ρ 2 0), vI 0, vR ao]
    refine z_i2l2 F dL_addClient_12 ?_
    obtain ⟨h1, eh1⟩ : ∃ z : Hp, hu (mgH h h1 h1p) ao (eA 6 1 (fun j => vL (if j = 0 then (iI (ρ 2 0)).toInt else f0 j))) = z := ⟨_, rfl⟩
    refine z_lastore (N := 1) (f := fun j => f0 j) (h' := h1) F (mgH_out hoo ho) (by omega) (by omega) (by omega) dL_addClient_13 eh1 ?_
    have g2 : h1 ao = some (eA 6 1 (fun j => vL (if j = 0 then (iI (ρ 2 0)).toInt else f0 j))) := by rw [← eh1]; exact hu_s _ _ _
    refine z_goto (tgt := 25) F dL_addClient_14 (by decide) ?_
    refine z_iconst F dL_addClient_25 ?_
    exact z_iret (nf_i _) F hr (Nat.le_of_ble_eq_true rfl) (Nat.le_of_ble_eq_true rfl) dL_addClient_26 (Or.inl ⟨n0, n1, rfl, ρp, h1p, S1, I1, D1, eh1.symm⟩)
set_option maxRecDepth 100000 in
set_option maxHeartbeats 4000000 in
theorem mL_correct (l : Launch) (G : GG) (N0 : Nat) (h : Hp) (hl9 : l.stackTraces = false) (g : Int → Nat) (ρ : Sg) (h1 : Hp) (ao : Nat) (f0 : Int → Int) (e9 m9 : Int) (hI : CI G g ρ h1) (hV : MC ρ) (hs : SB h1 h) (ho : h ao = some (eA 6 1 (fun j => vL (f0 j)))) (hoo : h1 ao = none) (r_e9 : -2147483648 ≤ e9 ∧ e9 < 2147483648) (r_m9 : -2147483648 ≤ m9 ∧ m9 < 2147483648) : Ct l G N0 yL_correct (Cond.codeWith yL_correct cL_correct 5 (some FieldType.int) [(0, 10, 13, 29), (0, 10, 17, 13), (0, 10, 21, 15)] :: LW) ({ frames := 10, cells := 6, slots := 140, locals := 520 }) [vR (g 0), vI e9, vI m9, vR ao] h (fun r h' => (¬ (¬ (0 ≤ e9 ∧ e9 < ρ 8 0)) ∧ ¬ (¬ (-600 ≤ m9 ∧ m9 ≤ 600) ∨ m9 = 0) ∧ ¬ (ρ 12 e9 ≠ 102 ∨ ρ 24 0 = 16) ∧ r = some (vI 0) ∧ ∃ (ρp : Sg) (h1p : Hp), SA (mkK ρ e9 m9) ρp ∧ CI G g ρp h1p ∧ (∀ a, h1p a ≠ none → h1 a ≠ none ∨ h a = none) ∧ h' = hu (mgH h h1 h1p) ao (eA 6 1 (fun j => vL (if j = 0 then (iI (coS (ρ 27) (ρ 9) (fun j => if j = ρ 24 0 then e9 else ρ 25 j) (fun j => if j = ρ 24 0 then m9 else ρ 26 j) (ρ 9 e9) (ρ 24 0 + 1).toNat)).toInt else f0 j)))) ∨ (((¬ (0 ≤ e9 ∧ e9 < ρ 8 0))) ∧ r = some (vI 1) ∧ ∃ (ρp : Sg) (h1p : Hp), SA ρ ρp ∧ CI G g ρp h1p ∧ (∀ a, h1p a ≠ none → h1 a ≠ none ∨ h a = none) ∧ h' = mgH h h1 h1p) ∨ ((¬ (¬ (0 ≤ e9 ∧ e9 < ρ 8 0)) ∧ (¬ (-600 ≤ m9 ∧ m9 ≤ 600) ∨ m9 = 0)) ∧ r = some (vI 2) ∧ ∃ (ρp : Sg) (h1p : Hp), SA ρ ρp ∧ CI G g ρp h1p ∧ (∀ a, h1p a ≠ none → h1 a ≠ none ∨ h a = none) ∧ h' = mgH h h1 h1p) ∨ ((¬ (¬ (0 ≤ e9 ∧ e9 < ρ 8 0)) ∧ ¬ (¬ (-600 ≤ m9 ∧ m9 ≤ 600) ∨ m9 = 0) ∧ (ρ 12 e9 ≠ 102 ∨ ρ 24 0 = 16)) ∧ r = some (vI 3) ∧ ∃ (ρp : Sg) (h1p : Hp), SA ρ ρp ∧ CI G g ρp h1p ∧ (∀ a, h1p a ≠ none → h1 a ≠ none ∨ h a = none) ∧ h' = mgH h h1 h1p)) := by
  refine ctC_of rfl rfl ?_
  intro p e s m args below meth c F hr htab
  have F : Fx p s m args meth c RL cL_correct 5 G N0 (cA h s.heap.size) := F
  show Z _ _ _ _ _ _ _ _ _ _ _ _ _ _ _ _ _ _ _ [(0, vR (g 0)), (1, vI e9), (2, vI m9), (3, vR ao)] []
  refine z_aload_n F dL_correct_0 rfl 3 rfl ?_
  refine z_iconst F dL_correct_1 ?_
  refine z_aload_n F dL_correct_2 rfl 0 rfl ?_
  refine z_iload_n F dL_correct_3 rfl 1 rfl ?_
  refine z_iload_n F dL_correct_4 rfl 2 rfl ?_
  refine z_xcallC (As := [vI e9, vI m9]) (st := [vI 0, vR ao]) F ((mX8_correct l G N0 h1 hl9 g ρ e9 m9 hI hV r_e9 r_m9).frame hs) cvL_126 (hs _ _ (ci_0 hI)) (fun r9 h9 => by cases h9; rfl) rfl rfl ⟨Nat.le_of_ble_eq_true rfl, Nat.le_of_ble_eq_true rfl⟩ rfl ⟨Nat.le_of_ble_eq_true rfl, Nat.le_of_ble_eq_true rfl⟩ dL_correct_5 ?_ ?_
  · intro E h9 hx
    obtain ⟨h1p, ⟨ρp, S1, I1, hd⟩, D1, rfl⟩ := hx
    rcases hd with ⟨rfl, nc⟩ | ⟨rfl, nc⟩ | ⟨rfl, nc⟩
    · refine ⟨[], ⟨0, 10, 13, 29⟩, [⟨0, 10, 17, 13⟩, ⟨0, 10, 21, 15⟩], htab.trans rfl, (fun z hz => by
          exact absurd hz (List.not_mem_nil)), rfl, (by decide : 29 ≠ 0), "java/lang/IndexOutOfBoundsException", q828, List.mem_of_getElem? (i := 5) rfl, fun q => ?_⟩
      refine z_astore (lv' := [(4, vR q), (0, vR (g 0)), (1, vI e9), (2, vI m9), (3, vR ao)]) F dL_correct_13 (by decide) rfl ?_
      refine z_iconst F dL_correct_15 ?_
      exact z_iret (nf_i _) F hr (Nat.le_of_ble_eq_true rfl) (Nat.le_of_ble_eq_true rfl) dL_correct_16 (Or.inr (Or.inl ⟨nc, rfl, ρp, h1p, S1, I1, D1, rfl⟩))
    · refine ⟨[⟨0, 10, 13, 29⟩], ⟨0, 10, 17, 13⟩, [⟨0, 10, 21, 15⟩], htab.trans rfl, (fun z hz => by
          rcases List.mem_cons.mp hz with z9 | hz
          · rw [z9]; exact ⟨(by decide : 29 ≠ 0), "java/lang/IndexOutOfBoundsException", q828, List.mem_of_getElem? (i := 6) rfl⟩
          exact absurd hz (List.not_mem_nil)), rfl, (by decide : 13 ≠ 0), "java/lang/IllegalArgumentException", q728, List.mem_of_getElem? (i := 6) rfl, fun q => ?_⟩
      refine z_astore (lv' := [(4, vR q), (0, vR (g 0)), (1, vI e9), (2, vI m9), (3, vR ao)]) F dL_correct_17 (by decide) rfl ?_
      refine z_iconst F dL_correct_19 ?_
      exact z_iret (nf_i _) F hr (Nat.le_of_ble_eq_true rfl) (Nat.le_of_ble_eq_true rfl) dL_correct_20 (Or.inr (Or.inr (Or.inl ⟨nc, rfl, ρp, h1p, S1, I1, D1, rfl⟩)))
    · refine ⟨[⟨0, 10, 13, 29⟩, ⟨0, 10, 17, 13⟩], ⟨0, 10, 21, 15⟩, [], htab.trans rfl, (fun z hz => by
          rcases List.mem_cons.mp hz with z9 | hz
          · rw [z9]; exact ⟨(by decide : 29 ≠ 0), "java/lang/IndexOutOfBoundsException", q828, List.mem_of_getElem? (i := 10) rfl⟩
          rcases List.mem_cons.mp hz with z9 | hz
          · rw [z9]; exact ⟨(by decide : 13 ≠ 0), "java/lang/IllegalArgumentException", q728, List.mem_of_getElem? (i := 9) rfl⟩
          exact absurd hz (List.not_mem_nil)), rfl, (by decide : 15 ≠ 0), "java/lang/IllegalStateException", q729, List.mem_of_getElem? (i := 7) rfl, fun q => ?_⟩
      refine z_astore (lv' := [(4, vR q), (0, vR (g 0)), (1, vI e9), (2, vI m9), (3, vR ao)]) F dL_correct_21 (by decide) rfl ?_
      refine z_iconst F dL_correct_23 ?_
      exact z_iret (nf_i _) F hr (Nat.le_of_ble_eq_true rfl) (Nat.le_of_ble_eq_true rfl) dL_correct_24 (Or.inr (Or.inr (Or.inr (⟨nc, rfl, ρp, h1p, S1, I1, D1, rfl⟩))))
  · rintro _ h9 ⟨h1p, ⟨n0, n1, n2, ρp, rfl, S1, I1⟩, D1, rfl⟩
    show Z _ _ _ _ _ _ _ _ _ _ _ _ _ _ _ _ _ _ _ _ [vI (coS (ρ 27) (ρ 9) (fun j => if j = ρ 24 0 then e9 else ρ 25 j) (fun j => if j = ρ 24 0 then m9 else ρ 26 j) (ρ 9 e9) (ρ 24 0 + 1).toNat), vI 0, vR ao]
    refine z_i2l2 F dL_correct_8 ?_
    obtain ⟨h1, eh1⟩ : ∃ z : Hp, hu (mgH h h1 h1p) ao (eA 6 1 (fun j => vL (if j = 0 then (iI (coS (ρ 27) (ρ 9) (fun j => if j = ρ 24 0 then e9 else ρ 25 j) (fun j => if j = ρ 24 0 then m9 else ρ 26 j) (ρ 9 e9) (ρ 24 0 + 1).toNat)).toInt else f0 j))) = z := ⟨_, rfl⟩
    refine z_lastore (N := 1) (f := fun j => f0 j) (h' := h1) F (mgH_out hoo ho) (by omega) (by omega) (by omega) dL_correct_9 eh1 ?_
    have g2 : h1 ao = some (eA 6 1 (fun j => vL (if j = 0 then (iI (coS (ρ 27) (ρ 9) (fun j => if j = ρ 24 0 then e9 else ρ 25 j) (fun j => if j = ρ 24 0 then m9 else ρ 26 j) (ρ 9 e9) (ρ 24 0 + 1).toNat)).toInt else f0 j))) := by rw [← eh1]; exact hu_s _ _ _
    refine z_goto (tgt := 25) F dL_correct_10 (by decide) ?_
    refine z_iconst F dL_correct_25 ?_
    exact z_iret (nf_i _) F hr (Nat.le_of_ble_eq_true rfl) (Nat.le_of_ble_eq_true rfl) dL_correct_26 (Or.inl ⟨n0, n1, n2, rfl, ρp, h1p, S1, I1, D1, eh1.symm⟩)
set_option maxRecDepth 100000 in
set_option maxHeartbeats 4000000 in
theorem mL_invoice (l : Launch) (G : GG) (N0 : Nat) (h : Hp) (hl9 : l.stackTraces = false) (g : Int → Nat) (ρ : Sg) (h1 : Hp) (ao : Nat) (f0 : Int → Int) (c9 : Int) (hI : CI G g ρ h1) (hV : MC ρ) (hs : SB h1 h) (ho : h ao = some (eA 6 1 (fun j => vL (f0 j)))) (hoo : h1 ao = none) (r_c9 : -2147483648 ≤ c9 ∧ c9 < 2147483648) : Ct l G N0 yL_invoice (Cond.codeWith yL_invoice cL_invoice 4 (some FieldType.int) [(0, 9, 12, 29), (0, 9, 15, 15)] :: LW) ({ frames := 13, cells := 110, slots := 6700, locals := 760 }) [vR (g 0), vI c9, vR ao] h (fun r h' => (¬ (¬ (0 ≤ c9 ∧ c9 < ρ 2 0)) ∧ ¬ (ρ 16 0 = 8 ∨ (bhF (ρ 9) (ρ 12) (ρ 10) c9 (-1) 0 (ρ 8 0).toNat < 0 ∧ hcF ρ c9 (ρ 24 0).toNat = 0)) ∧ r = some (vI 0) ∧ ∃ (ρp : Sg) (h1p : Hp), SA (ivR ρ c9) ρp ∧ CI G g ρp h1p ∧ (∀ a, h1p a ≠ none → h1 a ≠ none ∨ h a = none) ∧ h' = hu (mgH h h1 h1p) ao (eA 6 1 (fun j => vL (if j = 0 then (iI (ρ 16 0)).toInt else f0 j)))) ∨ (((¬ (0 ≤ c9 ∧ c9 < ρ 2 0))) ∧ r = some (vI 1) ∧ ∃ (ρp : Sg) (h1p : Hp), SA ρ ρp ∧ CI G g ρp h1p ∧ (∀ a, h1p a ≠ none → h1 a ≠ none ∨ h a = none) ∧ h' = mgH h h1 h1p) ∨ ((¬ (¬ (0 ≤ c9 ∧ c9 < ρ 2 0)) ∧ (ρ 16 0 = 8 ∨ (bhF (ρ 9) (ρ 12) (ρ 10) c9 (-1) 0 (ρ 8 0).toNat < 0 ∧ hcF ρ c9 (ρ 24 0).toNat = 0))) ∧ r = some (vI 2) ∧ ∃ (ρp : Sg) (h1p : Hp), SA ρ ρp ∧ CI G g ρp h1p ∧ (∀ a, h1p a ≠ none → h1 a ≠ none ∨ h a = none) ∧ h' = mgH h h1 h1p)) := by
  refine ctC_of rfl rfl ?_
  intro p e s m args below meth c F hr htab
  have F : Fx p s m args meth c RL cL_invoice 4 G N0 (cA h s.heap.size) := F
  show Z _ _ _ _ _ _ _ _ _ _ _ _ _ _ _ _ _ _ _ [(0, vR (g 0)), (1, vI c9), (2, vR ao)] []
  refine z_aload_n F dL_invoice_0 rfl 2 rfl ?_
  refine z_iconst F dL_invoice_1 ?_
  refine z_aload_n F dL_invoice_2 rfl 0 rfl ?_
  refine z_iload_n F dL_invoice_3 rfl 1 rfl ?_
  refine z_xcallC (As := [vI c9]) (st := [vI 0, vR ao]) F ((mX8_invoice l G N0 h1 hl9 g ρ c9 hI hV r_c9).frame hs) cvL_96 (hs _ _ (ci_0 hI)) (fun r9 h9 => by cases h9; rfl) rfl rfl ⟨Nat.le_of_ble_eq_true rfl, Nat.le_of_ble_eq_true rfl⟩ rfl ⟨Nat.le_of_ble_eq_true rfl, Nat.le_of_ble_eq_true rfl⟩ dL_invoice_4 ?_ ?_
  · intro E h9 hx
    obtain ⟨h1p, ⟨ρp, S1, I1, hd⟩, D1, rfl⟩ := hx
    rcases hd with ⟨rfl, nc⟩ | ⟨rfl, nc⟩
    · refine ⟨[], ⟨0, 9, 12, 29⟩, [⟨0, 9, 15, 15⟩], htab.trans rfl, (fun z hz => by
          exact absurd hz (List.not_mem_nil)), rfl, (by decide : 29 ≠ 0), "java/lang/IndexOutOfBoundsException", q828, List.mem_of_getElem? (i := 5) rfl, fun q => ?_⟩
      refine z_astore_n (lv' := [(3, vR q), (0, vR (g 0)), (1, vI c9), (2, vR ao)]) F dL_invoice_12 rfl (by decide) rfl ?_
      refine z_iconst F dL_invoice_13 ?_
      exact z_iret (nf_i _) F hr (Nat.le_of_ble_eq_true rfl) (Nat.le_of_ble_eq_true rfl) dL_invoice_14 (Or.inr (Or.inl ⟨nc, rfl, ρp, h1p, S1, I1, D1, rfl⟩))
    · refine ⟨[⟨0, 9, 12, 29⟩], ⟨0, 9, 15, 15⟩, [], htab.trans rfl, (fun z hz => by
          rcases List.mem_cons.mp hz with z9 | hz
          · rw [z9]; exact ⟨(by decide : 29 ≠ 0), "java/lang/IndexOutOfBoundsException", q828, List.mem_of_getElem? (i := 10) rfl⟩
          exact absurd hz (List.not_mem_nil)), rfl, (by decide : 15 ≠ 0), "java/lang/IllegalStateException", q729, List.mem_of_getElem? (i := 7) rfl, fun q => ?_⟩
      refine z_astore_n (lv' := [(3, vR q), (0, vR (g 0)), (1, vI c9), (2, vR ao)]) F dL_invoice_15 rfl (by decide) rfl ?_
      refine z_iconst F dL_invoice_16 ?_
      exact z_iret (nf_i _) F hr (Nat.le_of_ble_eq_true rfl) (Nat.le_of_ble_eq_true rfl) dL_invoice_17 (Or.inr (Or.inr (⟨nc, rfl, ρp, h1p, S1, I1, D1, rfl⟩)))
  · rintro _ h9 ⟨h1p, ⟨n0, n1, ρp, rfl, S1, I1⟩, D1, rfl⟩
    show Z _ _ _ _ _ _ _ _ _ _ _ _ _ _ _ _ _ _ _ _ [vI (ρ 16 0), vI 0, vR ao]
    refine z_i2l2 F dL_invoice_7 ?_
    obtain ⟨h1, eh1⟩ : ∃ z : Hp, hu (mgH h h1 h1p) ao (eA 6 1 (fun j => vL (if j = 0 then (iI (ρ 16 0)).toInt else f0 j))) = z := ⟨_, rfl⟩
    refine z_lastore (N := 1) (f := fun j => f0 j) (h' := h1) F (mgH_out hoo ho) (by omega) (by omega) (by omega) dL_invoice_8 eh1 ?_
    have g2 : h1 ao = some (eA 6 1 (fun j => vL (if j = 0 then (iI (ρ 16 0)).toInt else f0 j))) := by rw [← eh1]; exact hu_s _ _ _
    refine z_goto (tgt := 18) F dL_invoice_9 (by decide) ?_
    refine z_iconst F dL_invoice_18 ?_
    exact z_iret (nf_i _) F hr (Nat.le_of_ble_eq_true rfl) (Nat.le_of_ble_eq_true rfl) dL_invoice_19 (Or.inl ⟨n0, n1, rfl, ρp, h1p, S1, I1, D1, eh1.symm⟩)
set_option maxRecDepth 100000 in
set_option maxHeartbeats 4000000 in
theorem mL_totalBits (l : Launch) (G : GG) (N0 : Nat) (h : Hp) (hl9 : l.stackTraces = false) (g : Int → Nat) (ρ : Sg) (h1 : Hp) (ao : Nat) (f0 : Int → Int) (i9 : Int) (hI : CI G g ρ h1) (hV : MC ρ) (hs : SB h1 h) (ho : h ao = some (eA 6 1 (fun j => vL (f0 j)))) (hoo : h1 ao = none) (r_i9 : -2147483648 ≤ i9 ∧ i9 < 2147483648) : Ct l G N0 yL_totalBits (Cond.codeWith yL_totalBits cL_totalBits 4 (some FieldType.int) [(0, 9, 12, 29)] :: LW) ({ frames := 8, cells := 4, slots := 24, locals := 320 }) [vR (g 0), vI i9, vR ao] h (fun r h' => (¬ (¬ (0 ≤ i9 ∧ i9 < ρ 16 0)) ∧ r = some (vI 0) ∧ ∃ (ρp : Sg) (h1p : Hp), SA (ρ) ρp ∧ CI G g ρp h1p ∧ (∀ a, h1p a ≠ none → h1 a ≠ none ∨ h a = none) ∧ h' = hu (mgH h h1 h1p) ao (eA 6 1 (fun j => vL (if j = 0 then (iI (fi (fb (ρ 23 i9)))).toInt else f0 j)))) ∨ (((¬ (0 ≤ i9 ∧ i9 < ρ 16 0))) ∧ r = some (vI 1) ∧ ∃ (ρp : Sg) (h1p : Hp), SA ρ ρp ∧ CI G g ρp h1p ∧ (∀ a, h1p a ≠ none → h1 a ≠ none ∨ h a = none) ∧ h' = mgH h h1 h1p)) := by
  refine ctC_of rfl rfl ?_
  intro p e s m args below meth c F hr htab
  have F : Fx p s m args meth c RL cL_totalBits 4 G N0 (cA h s.heap.size) := F
  show Z _ _ _ _ _ _ _ _ _ _ _ _ _ _ _ _ _ _ _ [(0, vR (g 0)), (1, vI i9), (2, vR ao)] []
  refine z_aload_n F dL_totalBits_0 rfl 2 rfl ?_
  refine z_iconst F dL_totalBits_1 ?_
  refine z_aload_n F dL_totalBits_2 rfl 0 rfl ?_
  refine z_iload_n F dL_totalBits_3 rfl 1 rfl ?_
  refine z_xcallC (As := [vI i9]) (st := [vI 0, vR ao]) F ((mX8_totalBits l G N0 h1 hl9 g ρ i9 hI hV r_i9).frame hs) cvL_120 (hs _ _ (ci_0 hI)) (fun r9 h9 => by cases h9; rfl) rfl rfl ⟨Nat.le_of_ble_eq_true rfl, Nat.le_of_ble_eq_true rfl⟩ rfl ⟨Nat.le_of_ble_eq_true rfl, Nat.le_of_ble_eq_true rfl⟩ dL_totalBits_4 ?_ ?_
  · intro E h9 hx
    obtain ⟨h1p, ⟨ρp, S1, I1, hd⟩, D1, rfl⟩ := hx
    obtain ⟨rfl, nc⟩ := hd
    · refine ⟨[], ⟨0, 9, 12, 29⟩, [], htab.trans rfl, (fun z hz => by
          exact absurd hz (List.not_mem_nil)), rfl, (by decide : 29 ≠ 0), "java/lang/IndexOutOfBoundsException", q828, List.mem_of_getElem? (i := 5) rfl, fun q => ?_⟩
      refine z_astore_n (lv' := [(3, vR q), (0, vR (g 0)), (1, vI i9), (2, vR ao)]) F dL_totalBits_12 rfl (by decide) rfl ?_
      refine z_iconst F dL_totalBits_13 ?_
      exact z_iret (nf_i _) F hr (Nat.le_of_ble_eq_true rfl) (Nat.le_of_ble_eq_true rfl) dL_totalBits_14 (Or.inr (⟨nc, rfl, ρp, h1p, S1, I1, D1, rfl⟩))
  · rintro _ h9 ⟨h1p, ⟨n0, ρp, rfl, S1, I1⟩, D1, rfl⟩
    show Z _ _ _ _ _ _ _ _ _ _ _ _ _ _ _ _ _ _ _ _ [vI (fi (fb (ρ 23 i9))), vI 0, vR ao]
    refine z_i2l2 F dL_totalBits_7 ?_
    obtain ⟨h1, eh1⟩ : ∃ z : Hp, hu (mgH h h1 h1p) ao (eA 6 1 (fun j => vL (if j = 0 then (iI (fi (fb (ρ 23 i9)))).toInt else f0 j))) = z := ⟨_, rfl⟩
    refine z_lastore (N := 1) (f := fun j => f0 j) (h' := h1) F (mgH_out hoo ho) (by omega) (by omega) (by omega) dL_totalBits_8 eh1 ?_
    have g2 : h1 ao = some (eA 6 1 (fun j => vL (if j = 0 then (iI (fi (fb (ρ 23 i9)))).toInt else f0 j))) := by rw [← eh1]; exact hu_s _ _ _
    refine z_goto (tgt := 15) F dL_totalBits_9 (by decide) ?_
    refine z_iconst F dL_totalBits_15 ?_
    exact z_iret (nf_i _) F hr (Nat.le_of_ble_eq_true rfl) (Nat.le_of_ble_eq_true rfl) dL_totalBits_16 (Or.inl ⟨n0, rfl, ρp, h1p, S1, I1, D1, eh1.symm⟩)
