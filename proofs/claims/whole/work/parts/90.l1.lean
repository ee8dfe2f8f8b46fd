theorem z_i2l2 {p : Program} {l : Launch} {e : Env} {R : Room} {s : State} {m : MethodId} {args : Array Value} {below : List Frame} {meth : Method} {c : Code} {own : String} {cc : ByteArray} {nL : Nat} {G : GG} {N0 : Nat} {A : Nat → Prop} {Q : State → Prop} {h : Hp} {k n pc : Nat} {lv : List (Nat × AV)} {st : List AV} (F : Fx p s m args meth c own cc nL G N0 A) {x : Int} (d : decode cc pc = .ok (.i2l, 1)) (K : Z p l e R s m args below meth c nL G N0 A Q h k n (pc + 1) lv (vL (iI x).toInt :: st)) : Z p l e R s m args below meth c nL G N0 A Q h k n pc lv (vI x :: st) := by
  have K1 := z_i2l (x := (iI x).toInt) F d (iI_rng _) K
  intro H locs ls hP hA hS hl
  have K2 := K1 H locs ls hP hA hS hl
  rw [List.map_cons, show cv (vI (iI x).toInt) = cv (vI x) from congrArg Value.int (iI_of _)] at K2
  exact K2
set_option maxRecDepth 100000 in
set_option maxHeartbeats 4000000 in
theorem mL_pass (l : Launch) (G : GG) (N0 : Nat) (h : Hp) (hl9 : l.stackTraces = false) (g : Int → Nat) (ρ : Sg) (h1 : Hp) (ao : Nat) (f0 : Int → Int) (m9 : Int) (hI : CI G g ρ h1) (hV : MC ρ) (hs : SB h1 h) (ho : h ao = some (eA 6 1 (fun j => vL (f0 j)))) (hoo : h1 ao = none) (r_m9 : -2147483648 ≤ m9 ∧ m9 < 2147483648) : Ct l G N0 yL_pass (Cond.codeWith yL_pass cL_pass 4 (some FieldType.int) [(0, 9, 12, 13), (0, 9, 15, 15)] :: LW) ({ frames := 8, cells := 4, slots := 24, locals := 320 }) [vR (g 0), vI m9, vR ao] h (fun r h' => (¬ (¬ (1 ≤ m9 ∧ m9 ≤ 600)) ∧ ¬ (2999 < ρ 0 0 + m9) ∧ r = some (vI 0) ∧ ∃ (ρp : Sg) (h1p : Hp), SA (sw (su ρ 0 0 (ρ 0 0 + m9)) 11 (fun e => if ρ 12 e = 114 then (ρ 0 0 + m9) else ρ 11 e)) ρp ∧ CI G g ρp h1p ∧ (∀ a, h1p a ≠ none → h1 a ≠ none ∨ h a = none) ∧ h' = hu (mgH h h1 h1p) ao (eA 6 1 (fun j => vL (if j = 0 then (iI (ρ 0 0 + m9)).toInt else f0 j)))) ∨ (((¬ (1 ≤ m9 ∧ m9 ≤ 600))) ∧ r = some (vI 1) ∧ ∃ (ρp : Sg) (h1p : Hp), SA ρ ρp ∧ CI G g ρp h1p ∧ (∀ a, h1p a ≠ none → h1 a ≠ none ∨ h a = none) ∧ h' = mgH h h1 h1p) ∨ ((¬ (¬ (1 ≤ m9 ∧ m9 ≤ 600)) ∧ (2999 < ρ 0 0 + m9)) ∧ r = some (vI 2) ∧ ∃ (ρp : Sg) (h1p : Hp), SA ρ ρp ∧ CI G g ρp h1p ∧ (∀ a, h1p a ≠ none → h1 a ≠ none ∨ h a = none) ∧ h' = mgH h h1 h1p)) := by
  refine ctC_of rfl rfl ?_
  intro p e s m args below meth c F hr htab
  have F : Fx p s m args meth c RL cL_pass 4 G N0 (cA h s.heap.size) := F
  show Z _ _ _ _ _ _ _ _ _ _ _ _ _ _ _ _ _ _ _ [(0, vR (g 0)), (1, vI m9), (2, vR ao)] []
  refine z_aload_n F dL_pass_0 rfl 2 rfl ?_
  refine z_iconst F dL_pass_1 ?_
  refine z_aload_n F dL_pass_2 rfl 0 rfl ?_
  refine z_iload_n F dL_pass_3 rfl 1 rfl ?_
  refine z_xcallC (As := [vI m9]) (st := [vI 0, vR ao]) F ((mX8_pass l G N0 h1 hl9 g ρ m9 hI hV r_m9).frame hs) cvL_7 (hs _ _ (ci_0 hI)) (fun r9 h9 => by cases h9; rfl) rfl rfl ⟨Nat.le_of_ble_eq_true rfl, Nat.le_of_ble_eq_true rfl⟩ rfl ⟨Nat.le_of_ble_eq_true rfl, Nat.le_of_ble_eq_true rfl⟩ dL_pass_4 ?_ ?_
  · intro E h9 hx
    obtain ⟨h1p, ⟨ρp, S1, I1, hd⟩, D1, rfl⟩ := hx
    rcases hd with ⟨rfl, nc⟩ | ⟨rfl, nc⟩
    · refine ⟨[], ⟨0, 9, 12, 13⟩, [⟨0, 9, 15, 15⟩], htab.trans rfl, (fun z hz => by
          exact absurd hz (List.not_mem_nil)), rfl, (by decide : 13 ≠ 0), "java/lang/IllegalArgumentException", q728, List.mem_of_getElem? (i := 6) rfl, fun q => ?_⟩
      refine z_astore_n (lv' := [(3, vR q), (0, vR (g 0)), (1, vI m9), (2, vR ao)]) F dL_pass_12 rfl (by decide) rfl ?_
      refine z_iconst F dL_pass_13 ?_
      exact z_iret (nf_i _) F hr (Nat.le_of_ble_eq_true rfl) (Nat.le_of_ble_eq_true rfl) dL_pass_14 (Or.inr (Or.inl ⟨nc, rfl, ρp, h1p, S1, I1, D1, rfl⟩))
    · refine ⟨[⟨0, 9, 12, 13⟩], ⟨0, 9, 15, 15⟩, [], htab.trans rfl, (fun z hz => by
          rcases List.mem_cons.mp hz with z9 | hz
          · rw [z9]; exact ⟨(by decide : 13 ≠ 0), "java/lang/IllegalArgumentException", q728, List.mem_of_getElem? (i := 9) rfl⟩
          exact absurd hz (List.not_mem_nil)), rfl, (by decide : 15 ≠ 0), "java/lang/IllegalStateException", q729, List.mem_of_getElem? (i := 7) rfl, fun q => ?_⟩
      refine z_astore_n (lv' := [(3, vR q), (0, vR (g 0)), (1, vI m9), (2, vR ao)]) F dL_pass_15 rfl (by decide) rfl ?_
      refine z_iconst F dL_pass_16 ?_
      exact z_iret (nf_i _) F hr (Nat.le_of_ble_eq_true rfl) (Nat.le_of_ble_eq_true rfl) dL_pass_17 (Or.inr (Or.inr (⟨nc, rfl, ρp, h1p, S1, I1, D1, rfl⟩)))
  · rintro _ h9 ⟨h1p, ⟨n0, n1, ρp, rfl, S1, I1⟩, D1, rfl⟩
    show Z _ _ _ _ _ _ _ _ _ _ _ _ _ _ _ _ _ _ _ _ [vI (ρ 0 0 + m9), vI 0, vR ao]
    refine z_i2l2 F dL_pass_7 ?_
    obtain ⟨h1, eh1⟩ : ∃ z : Hp, hu (mgH h h1 h1p) ao (eA 6 1 (fun j => vL (if j = 0 then (iI (ρ 0 0 + m9)).toInt else f0 j))) = z := ⟨_, rfl⟩
    refine z_lastore (N := 1) (f := fun j => f0 j) (h' := h1) F (mgH_out hoo ho) (by omega) (by omega) (by omega) dL_pass_8 eh1 ?_
    have g2 : h1 ao = some (eA 6 1 (fun j => vL (if j = 0 then (iI (ρ 0 0 + m9)).toInt else f0 j))) := by rw [← eh1]; exact hu_s _ _ _
    refine z_goto (tgt := 18) F dL_pass_9 (by decide) ?_
    refine z_iconst F dL_pass_18 ?_
    exact z_iret (nf_i _) F hr (Nat.le_of_ble_eq_true rfl) (Nat.le_of_ble_eq_true rfl) dL_pass_19 (Or.inl ⟨n0, n1, rfl, ρp, h1p, S1, I1, D1, eh1.symm⟩)
set_option maxRecDepth 100000 in
set_option maxHeartbeats 4000000 in
theorem mL_rounded (l : Launch) (G : GG) (N0 : Nat) (h : Hp) (hl9 : l.stackTraces = false) (g : Int → Nat) (ρ : Sg) (h1 : Hp) (ao : Nat) (f0 : Int → Int) (e9 : Int) (hI : CI G g ρ h1) (hV : MC ρ) (hs : SB h1 h) (ho : h ao = some (eA 6 1 (fun j => vL (f0 j)))) (hoo : h1 ao = none) (r_e9 : -2147483648 ≤ e9 ∧ e9 < 2147483648) : Ct l G N0 yL_rounded (Cond.codeWith yL_rounded cL_rounded 4 (some FieldType.int) [(0, 9, 12, 29), (0, 9, 15, 15), (0, 9, 18, 82)] :: LW) ({ frames := 10, cells := 27, slots := 2430, locals := 560 }) [vR (g 0), vI e9, vR ao] h (fun r h' => (¬ (¬ (0 ≤ e9 ∧ e9 < ρ 8 0)) ∧ ¬ (¬ (ρ 12 e9 = 114 ∨ ρ 12 e9 = 101)) ∧ ¬ (ρ 5 (ρ 9 e9) = 100) ∧ r = some (vI 0) ∧ ∃ (ρp : Sg) (h1p : Hp), SA (ρ) ρp ∧ CI G g ρp h1p ∧ (∀ a, h1p a ≠ none → h1 a ≠ none ∨ h a = none) ∧ h' = hu (mgH h h1 h1p) ao (eA 6 1 (fun j => vL (if j = 0 then (iI (rdO (ρ 9) (ρ 12) (ρ 10) (secS ρ) (ρ 5 (ρ 9 e9)) (ρ 3 (ρ 9 e9)) (ρ 4 (ρ 9 e9)) (ρ 9 e9) e9 1 (ρ 8 0).toNat)).toInt else f0 j)))) ∨ (((¬ (0 ≤ e9 ∧ e9 < ρ 8 0))) ∧ r = some (vI 1) ∧ ∃ (ρp : Sg) (h1p : Hp), SA ρ ρp ∧ CI G g ρp h1p ∧ (∀ a, h1p a ≠ none → h1 a ≠ none ∨ h a = none) ∧ h' = mgH h h1 h1p) ∨ ((¬ (¬ (0 ≤ e9 ∧ e9 < ρ 8 0)) ∧ (¬ (ρ 12 e9 = 114 ∨ ρ 12 e9 = 101))) ∧ r = some (vI 2) ∧ ∃ (ρp : Sg) (h1p : Hp), SA ρ ρp ∧ CI G g ρp h1p ∧ (∀ a, h1p a ≠ none → h1 a ≠ none ∨ h a = none) ∧ h' = mgH h h1 h1p) ∨ ((¬ (¬ (0 ≤ e9 ∧ e9 < ρ 8 0)) ∧ ¬ (¬ (ρ 12 e9 = 114 ∨ ρ 12 e9 = 101)) ∧ (ρ 5 (ρ 9 e9) = 100)) ∧ r = some (vI 3) ∧ ∃ (ρp : Sg) (h1p : Hp), SA ρ ρp ∧ CI G g ρp h1p ∧ (∀ a, h1p a ≠ none → h1 a ≠ none ∨ h a = none) ∧ h' = mgH h h1 h1p)) := by
  refine ctC_of rfl rfl ?_
  intro p e s m args below meth c F hr htab
  have F : Fx p s m args meth c RL cL_rounded 4 G N0 (cA h s.heap.size) := F
  show Z _ _ _ _ _ _ _ _ _ _ _ _ _ _ _ _ _ _ _ [(0, vR (g 0)), (1, vI e9), (2, vR ao)] []
  refine z_aload_n F dL_rounded_0 rfl 2 rfl ?_
  refine z_iconst F dL_rounded_1 ?_
  refine z_aload_n F dL_rounded_2 rfl 0 rfl ?_
  refine z_iload_n F dL_rounded_3 rfl 1 rfl ?_
  refine z_xcallC (As := [vI e9]) (st := [vI 0, vR ao]) F ((mX8_rounded l G N0 h1 hl9 g ρ e9 hI hV r_e9).frame hs) cvL_79 (hs _ _ (ci_0 hI)) (fun r9 h9 => by cases h9; rfl) rfl rfl ⟨Nat.le_of_ble_eq_true rfl, Nat.le_of_ble_eq_true rfl⟩ rfl ⟨Nat.le_of_ble_eq_true rfl, Nat.le_of_ble_eq_true rfl⟩ dL_rounded_4 ?_ ?_
  · intro E h9 hx
    obtain ⟨h1p, ⟨ρp, S1, I1, hd⟩, D1, rfl⟩ := hx
    rcases hd with ⟨rfl, nc⟩ | ⟨rfl, nc⟩ | ⟨rfl, nc⟩
    · refine ⟨[], ⟨0, 9, 12, 29⟩, [⟨0, 9, 15, 15⟩, ⟨0, 9, 18, 82⟩], htab.trans rfl, (fun z hz => by
          exact absurd hz (List.not_mem_nil)), rfl, (by decide : 29 ≠ 0), "java/lang/IndexOutOfBoundsException", q828, List.mem_of_getElem? (i := 5) rfl, fun q => ?_⟩
      refine z_astore_n (lv' := [(3, vR q), (0, vR (g 0)), (1, vI e9), (2, vR ao)]) F dL_rounded_12 rfl (by decide) rfl ?_
      refine z_iconst F dL_rounded_13 ?_
      exact z_iret (nf_i _) F hr (Nat.le_of_ble_eq_true rfl) (Nat.le_of_ble_eq_true rfl) dL_rounded_14 (Or.inr (Or.inl ⟨nc, rfl, ρp, h1p, S1, I1, D1, rfl⟩))
    · refine ⟨[⟨0, 9, 12, 29⟩], ⟨0, 9, 15, 15⟩, [⟨0, 9, 18, 82⟩], htab.trans rfl, (fun z hz => by
          rcases List.mem_cons.mp hz with z9 | hz
          · rw [z9]; exact ⟨(by decide : 29 ≠ 0), "java/lang/IndexOutOfBoundsException", q828, List.mem_of_getElem? (i := 10) rfl⟩
          exact absurd hz (List.not_mem_nil)), rfl, (by decide : 15 ≠ 0), "java/lang/IllegalStateException", q729, List.mem_of_getElem? (i := 7) rfl, fun q => ?_⟩
      refine z_astore_n (lv' := [(3, vR q), (0, vR (g 0)), (1, vI e9), (2, vR ao)]) F dL_rounded_15 rfl (by decide) rfl ?_
      refine z_iconst F dL_rounded_16 ?_
      exact z_iret (nf_i _) F hr (Nat.le_of_ble_eq_true rfl) (Nat.le_of_ble_eq_true rfl) dL_rounded_17 (Or.inr (Or.inr (Or.inl ⟨nc, rfl, ρp, h1p, S1, I1, D1, rfl⟩)))
    · refine ⟨[⟨0, 9, 12, 29⟩, ⟨0, 9, 15, 15⟩], ⟨0, 9, 18, 82⟩, [], htab.trans rfl, (fun z hz => by
          rcases List.mem_cons.mp hz with z9 | hz
          · rw [z9]; exact ⟨(by decide : 29 ≠ 0), "java/lang/IndexOutOfBoundsException", q828, List.mem_of_getElem? (i := 19) rfl⟩
          rcases List.mem_cons.mp hz with z9 | hz
          · rw [z9]; exact ⟨(by decide : 15 ≠ 0), "java/lang/IllegalStateException", q729, List.mem_of_getElem? (i := 18) rfl⟩
          exact absurd hz (List.not_mem_nil)), rfl, (by decide : 82 ≠ 0), "java/lang/UnsupportedOperationException", q1125, List.mem_of_getElem? (i := 8) rfl, fun q => ?_⟩
      refine z_astore_n (lv' := [(3, vR q), (0, vR (g 0)), (1, vI e9), (2, vR ao)]) F dL_rounded_18 rfl (by decide) rfl ?_
      refine z_iconst F dL_rounded_19 ?_
      exact z_iret (nf_i _) F hr (Nat.le_of_ble_eq_true rfl) (Nat.le_of_ble_eq_true rfl) dL_rounded_20 (Or.inr (Or.inr (Or.inr (⟨nc, rfl, ρp, h1p, S1, I1, D1, rfl⟩))))
  · rintro _ h9 ⟨h1p, ⟨n0, n1, n2, ρp, rfl, S1, I1⟩, D1, rfl⟩
    show Z _ _ _ _ _ _ _ _ _ _ _ _ _ _ _ _ _ _ _ _ [vI (rdO (ρ 9) (ρ 12) (ρ 10) (secS ρ) (ρ 5 (ρ 9 e9)) (ρ 3 (ρ 9 e9)) (ρ 4 (ρ 9 e9)) (ρ 9 e9) e9 1 (ρ 8 0).toNat), vI 0, vR ao]
    refine z_i2l2 F dL_rounded_7 ?_
    obtain ⟨h1, eh1⟩ : ∃ z : Hp, hu (mgH h h1 h1p) ao (eA 6 1 (fun j => vL (if j = 0 then (iI (rdO (ρ 9) (ρ 12) (ρ 10) (secS ρ) (ρ 5 (ρ 9 e9)) (ρ 3 (ρ 9 e9)) (ρ 4 (ρ 9 e9)) (ρ 9 e9) e9 1 (ρ 8 0).toNat)).toInt else f0 j))) = z := ⟨_, rfl⟩
    refine z_lastore (N := 1) (f := fun j => f0 j) (h' := h1) F (mgH_out hoo ho) (by omega) (by omega) (by omega) dL_rounded_8 eh1 ?_
    have g2 : h1 ao = some (eA 6 1 (fun j => vL (if j = 0 then (iI (rdO (ρ 9) (ρ 12) (ρ 10) (secS ρ) (ρ 5 (ρ 9 e9)) (ρ 3 (ρ 9 e9)) (ρ 4 (ρ 9 e9)) (ρ 9 e9) e9 1 (ρ 8 0).toNat)).toInt else f0 j))) := by rw [← eh1]; exact hu_s _ _ _
    refine z_goto (tgt := 21) F dL_rounded_9 (by decide) ?_
    refine z_iconst F dL_rounded_21 ?_
    exact z_iret (nf_i _) F hr (Nat.le_of_ble_eq_true rfl) (Nat.le_of_ble_eq_true rfl) dL_rounded_22 (Or.inl ⟨n0, n1, n2, rfl, ρp, h1p, S1, I1, D1, eh1.symm⟩)
