section ZD
variable {p : Program} {l : Launch} {e : Env} {R : Room} {s : State} {m : MethodId} {args : Array Value} {below : List Frame} {meth : Method} {c : Code} {own : String} {cc : ByteArray} {nL : Nat} {G : GG} {N0 : Nat} {A : Nat → Prop} {Q : State → Prop} {h : Hp} {k n pc : Nat} {lv : List (Nat × AV)} {st : List AV}
theorem iI_divN {x y : Int} (h1 : 0 ≤ x ∧ x < 2147483648) (h2 : 0 < y ∧ y < 2147483648) : iI (-x) / iI y = iI (-(x / y)) := by
  have hq : 0 ≤ x / y := Int.ediv_nonneg h1.1 (by omega)
  have hq2 : x / y ≤ x := Int.ediv_le_self _ h1.1
  rw [← Int32.toInt_inj, Int32.toInt_div, iI_toInt (by omega), iI_toInt (by omega), iI_toInt (by omega), Int.neg_tdiv, Int.tdiv_eq_ediv_of_nonneg h1.1]
  exact Int.bmod_eq_of_le (by omega) (by omega)
/-- a number <= 0 by a positive one -/
theorem z_idivN (F : Fx p s m args meth c own cc nL G N0 A) {x y : Int} (d : decode cc pc = .ok (.idiv, 1)) (h1 : 0 ≤ x ∧ x < 2147483648) (h2 : 0 < y ∧ y < 2147483648) (K : Z p l e R s m args below meth c nL G N0 A Q h k n (pc + 1) lv (vI (-(x / y)) :: st)) : Z p l e R s m args below meth c nL G N0 A Q h k n pc lv (vI y :: vI (-x) :: st) := by
  obtain ⟨hx, hb, hml, hown, hts, hlocks, hKD, hSF, hA0, hAN⟩ := F
  intro H locs ls hP hA hS hl
  refine lv_idiv hx hb d (iI_ne0 h2) ?_
  rw [iI_divN h1 h2]
  exact K H locs ls hP hA hS hl
end ZD
/-- the text L stands in t from x on -/
def LT (t : Int → Int) (x : Int) (L : List Int) : Prop := ∀ i : Nat, i < L.length → t (x + i) = L.getD i 0
theorem szI_in (v : Int) : (v < 10 → szI v = 1) ∧ (10 ≤ v ∧ v < 100 → szI v = 2) ∧ (100 ≤ v ∧ v < 1000 → szI v = 3) ∧ (1000 ≤ v ∧ v < 10000 → szI v = 4) ∧ (10000 ≤ v ∧ v < 100000 → szI v = 5) ∧ (100000 ≤ v → szI v = 6) := by
  unfold szI
  refine ⟨fun q => ?_, fun q => ?_, fun q => ?_, fun q => ?_, fun q => ?_, fun q => ?_⟩ <;> omega
set_option maxRecDepth 100000 in
set_option maxHeartbeats 4000000 in
theorem mJ6_getChars_ba4f3 (l : Launch) (G : GG) (N0 : Nat) (h : Hp) (v9 ix : Int) (v0 N : Nat) (t : Int → Int) (hv9 : 0 ≤ v9 ∧ v9 < 1000000) (hv : h v0 = some (eA 4 N (fun j => vI (t j)))) (hN : szI v9 ≤ ix ∧ ix ≤ N ∧ N ≤ 1000) (ht : ∀ i : Int, 0 ≤ i → i < N → -128 ≤ t i ∧ t i < 128) : Ct l G N0 yJ6_getChars_ba4f3 (Cond.code yJ6_getChars_ba4f3 cJ6_getChars_ba4f3 7 (some FieldType.int) :: LW) ({ frames := 0, cells := 0, slots := 0, locals := 0 }) [vI v9, vI ix, vR v0] h (fun r h' => r = some (vI (ix - szI v9)) ∧ ∃ t1 : Int → Int, h' v0 = some (eA 4 N (fun j => vI (t1 j))) ∧ (∀ j, j < ix - szI v9 → t1 j = t j) ∧ LT t1 (ix - szI v9) (decL v9) ∧ (∀ j : Int, 0 ≤ j → j < N → -128 ≤ t1 j ∧ t1 j < 128) ∧ ∀ x, x ≠ v0 → h' x = h x) := by
  refine ct_of rfl rfl ?_
  intro p e s m args below meth c F hr hnm
  have F : Fx p s m args meth c RJ6 cJ6_getChars_ba4f3 7 G N0 (cA h s.heap.size) := F
  have hszu := szI_in v9
  show Z _ _ _ _ _ _ _ _ _ _ _ _ _ _ _ _ _ _ _ [(0, vI v9), (1, vI ix), (2, vR v0)] []
  refine z_iload_n F dJ6_getChars_ba4f3_0 rfl 1 rfl ?_
  refine z_istore (lv' := [(5, vI ix), (0, vI v9), (1, vI ix), (2, vR v0)]) F dJ6_getChars_ba4f3_1 (by decide) rfl ?_
  refine z_iload_n F dJ6_getChars_ba4f3_3 rfl 1 rfl ?_
  refine z_if_ge (tgt := 11) F dJ6_getChars_ba4f3_4 (by decide) (by omega) (fun c4 => ?_) (fun c4 => ?_)
  · refine z_iconst F dJ6_getChars_ba4f3_11 ?_
    refine z_istore (lv' := [(6, vI 0), (5, vI ix), (0, vI v9), (1, vI ix), (2, vR v0)]) F dJ6_getChars_ba4f3_12 (by decide) rfl ?_
    refine z_iload F dJ6_getChars_ba4f3_14 0 rfl ?_
    refine z_if_ne (tgt := 22) F dJ6_getChars_ba4f3_16 (by decide) (by decide) (fun c16 => ?_) (fun c16 => ?_)
    · exact absurd c16 (by decide)
    · refine z_iload_n F dJ6_getChars_ba4f3_19 rfl 2 rfl ?_
      refine z_ineg F dJ6_getChars_ba4f3_20 ?_
      refine z_istore_n (lv' := [(0, vI (-v9)), (6, vI 0), (5, vI ix), (1, vI ix), (2, vR v0)]) F dJ6_getChars_ba4f3_21 rfl (by decide) rfl ?_
      refine z_iload_n F dJ6_getChars_ba4f3_22 rfl 0 rfl ?_
      refine z_bipush F dJ6_getChars_ba4f3_23 (by decide) ?_
      refine z_icmp_gt (tgt := 72) F dJ6_getChars_ba4f3_25 (by decide) (by omega) (by decide) (fun c25 => ?_) (fun c25 => ?_)
      · refine z_aload_n F dJ6_getChars_ba4f3_72 rfl 4 rfl ?_
        refine z_iinc (lv' := [(5, vI (ix + (-1))), (0, vI (-v9)), (6, vI 0), (1, vI ix), (2, vR v0)]) F dJ6_getChars_ba4f3_73 2 rfl (by decide) rfl ?_
        refine z_iload F dJ6_getChars_ba4f3_76 0 rfl ?_
        refine z_getOnes F q458 dJ6_getChars_ba4f3_78 ?_
        refine z_iload_n F dJ6_getChars_ba4f3_81 rfl 1 rfl ?_
        refine z_ineg F dJ6_getChars_ba4f3_82 ?_
        refine z_ones F (by omega) dJ6_getChars_ba4f3_83 ?_
        obtain ⟨h1, eh1⟩ : ∃ z : Hp, hu h v0 (eA 4 N (fun j => vI (if j = ix + (-1) then 48 + (-(-v9)) % 10 else t j))) = z := ⟨_, rfl⟩
        refine z_bastore (N := N) (f := t) (h' := h1) F hv (nf_b (by omega)) (by omega) (by omega) (by omega) dJ6_getChars_ba4f3_84 eh1 ?_
        have g2 : h1 v0 = some (eA 4 N (fun j => vI (if j = ix + (-1) then 48 + (-(-v9)) % 10 else t j))) := by rw [← eh1]; exact hu_s _ _ _
        refine z_iload_n F dJ6_getChars_ba4f3_85 rfl 1 rfl ?_
        refine z_bipush F dJ6_getChars_ba4f3_86 (by decide) ?_
        refine z_icmp_ge (tgt := 104) F dJ6_getChars_ba4f3_88 (by decide) (by omega) (by decide) (fun c88 => ?_) (fun c88 => ?_)
        · refine z_iload F dJ6_getChars_ba4f3_104 2 rfl ?_
          refine z_if_eq (tgt := 118) F dJ6_getChars_ba4f3_106 (by decide) (by decide) (fun c106 => ?_) (fun c106 => ?_)
          · refine z_iload F dJ6_getChars_ba4f3_118 0 rfl ?_
            have hsz3 : szI v9 = 1 := by unfold szI; rw [if_pos (by omega)]
            have hdl4 : decL v9 = [48 + v9 / 1 % 10] := by unfold decL; rw [if_pos (by omega)]
            have hti : ∀ (i : Nat), i < 1 → (fun j => if j = ix + (-1) then 48 + (-(-v9)) % 10 else t j) (ix - 1 + (i : Int)) = ([48 + v9 / 1 % 10] : List Int).getD i 0 := by
              intro i hi
              have hc : i = 0 := by omega
              rcases hc with rfl
              · show (if (ix - 1 + ((0 : Nat) : Int)) = ix + (-1) then 48 + (-(-v9)) % 10 else t (ix - 1 + ((0 : Nat) : Int))) = 48 + v9 / 1 % 10
                omega
            exact z_iret (nf_i _) F hr (Nat.le_of_ble_eq_true rfl) (Nat.le_of_ble_eq_true rfl) dJ6_getChars_ba4f3_120 (⟨rI (by rw [hsz3]; omega), _, g2, fun j q1 => (by rw [hsz3] at q1; show (if j = ix + (-1) then 48 + (-(-v9)) % 10 else t j) = t j; omega), (by rw [hsz3]; exact fun i hi => by rw [hdl4] at hi ⊢; exact hti i hi), fun j q1 q2 => (by have := ht j q1 q2; show -128 ≤ (if j = ix + (-1) then 48 + (-(-v9)) % 10 else t j) ∧ (if j = ix + (-1) then 48 + (-(-v9)) % 10 else t j) < 128; omega), fun x q1 => by rw [← eh1, hu_n _ _ q1]⟩)
          · exact absurd c106 (by decide)
        · refine z_aload_n F dJ6_getChars_ba4f3_91 rfl 4 rfl ?_
          refine z_iinc (lv' := [(5, vI ((ix + (-1)) + (-1))), (0, vI (-v9)), (6, vI 0), (1, vI ix), (2, vR v0)]) F dJ6_getChars_ba4f3_92 0 rfl (by decide) rfl ?_
          refine z_iload F dJ6_getChars_ba4f3_95 0 rfl ?_
          refine z_getTens F q460 dJ6_getChars_ba4f3_97 ?_
          refine z_iload_n F dJ6_getChars_ba4f3_100 rfl 1 rfl ?_
          refine z_ineg F dJ6_getChars_ba4f3_101 ?_
          refine z_tens F (by omega) dJ6_getChars_ba4f3_102 ?_
          obtain ⟨h5, eh5⟩ : ∃ z : Hp, hu h1 v0 (eA 4 N (fun j => vI (if j = (ix + (-1)) + (-1) then 48 + (-(-v9)) / 10 else if j = ix + (-1) then 48 + (-(-v9)) % 10 else t j))) = z := ⟨_, rfl⟩
          refine z_bastore (N := N) (f := fun j => if j = ix + (-1) then 48 + (-(-v9)) % 10 else t j) (h' := h5) F g2 (nf_b (by omega)) (by omega) (by omega) (by omega) dJ6_getChars_ba4f3_103 eh5 ?_
          have g6 : h5 v0 = some (eA 4 N (fun j => vI (if j = (ix + (-1)) + (-1) then 48 + (-(-v9)) / 10 else if j = ix + (-1) then 48 + (-(-v9)) % 10 else t j))) := by rw [← eh5]; exact hu_s _ _ _
          refine z_iload F dJ6_getChars_ba4f3_104 2 rfl ?_
          refine z_if_eq (tgt := 118) F dJ6_getChars_ba4f3_106 (by decide) (by decide) (fun c106 => ?_) (fun c106 => ?_)
          · refine z_iload F dJ6_getChars_ba4f3_118 0 rfl ?_
            have hsz7 : szI v9 = 2 := by unfold szI; rw [if_neg (by omega), if_pos (by omega)]
            have hdl8 : decL v9 = [48 + v9 / 10 % 10, 48 + v9 / 1 % 10] := by unfold decL; rw [if_neg (by omega), if_pos (by omega)]
            have hti : ∀ (i : Nat), i < 2 → (fun j => if j = (ix + (-1)) + (-1) then 48 + (-(-v9)) / 10 else if j = ix + (-1) then 48 + (-(-v9)) % 10 else t j) (ix - 2 + (i : Int)) = ([48 + v9 / 10 % 10, 48 + v9 / 1 % 10] : List Int).getD i 0 := by
              intro i hi
              have hc : i = 0 ∨ i = 1 := by omega
              rcases hc with rfl | rfl
              · show (if (ix - 2 + ((0 : Nat) : Int)) = (ix + (-1)) + (-1) then 48 + (-(-v9)) / 10 else if (ix - 2 + ((0 : Nat) : Int)) = ix + (-1) then 48 + (-(-v9)) % 10 else t (ix - 2 + ((0 : Nat) : Int))) = 48 + v9 / 10 % 10
                omega
              · show (if (ix - 2 + ((1 : Nat) : Int)) = (ix + (-1)) + (-1) then 48 + (-(-v9)) / 10 else if (ix - 2 + ((1 : Nat) : Int)) = ix + (-1) then 48 + (-(-v9)) % 10 else t (ix - 2 + ((1 : Nat) : Int))) = 48 + v9 / 1 % 10
                omega
            exact z_iret (nf_i _) F hr (Nat.le_of_ble_eq_true rfl) (Nat.le_of_ble_eq_true rfl) dJ6_getChars_ba4f3_120 (⟨rI (by rw [hsz7]; omega), _, g6, fun j q1 => (by rw [hsz7] at q1; show (if j = (ix + (-1)) + (-1) then 48 + (-(-v9)) / 10 else if j = ix + (-1) then 48 + (-(-v9)) % 10 else t j) = t j; omega), (by rw [hsz7]; exact fun i hi => by rw [hdl8] at hi ⊢; exact hti i hi), fun j q1 q2 => (by have := ht j q1 q2; show -128 ≤ (if j = (ix + (-1)) + (-1) then 48 + (-(-v9)) / 10 else if j = ix + (-1) then 48 + (-(-v9)) % 10 else t j) ∧ (if j = (ix + (-1)) + (-1) then 48 + (-(-v9)) / 10 else if j = ix + (-1) then 48 + (-(-v9)) % 10 else t j) < 128; omega), fun x q1 => by rw [← eh5, hu_n _ _ q1, ← eh1, hu_n _ _ q1]⟩)
          · exact absurd c106 (by decide)
      · refine z_iload_n F dJ6_getChars_ba4f3_28 rfl 0 rfl ?_
        refine z_bipush F dJ6_getChars_ba4f3_29 (by decide) ?_
        refine z_idivN F dJ6_getChars_ba4f3_31 (by omega) (by omega) ?_
        refine z_istore_n (lv' := [(3, vI (-(v9 / 100))), (0, vI (-v9)), (6, vI 0), (5, vI ix), (1, vI ix), (2, vR v0)]) F dJ6_getChars_ba4f3_32 rfl (by decide) rfl ?_
        refine z_iload_n F dJ6_getChars_ba4f3_33 rfl 0 rfl ?_
        refine z_bipush F dJ6_getChars_ba4f3_34 (by decide) ?_
        refine z_imul F dJ6_getChars_ba4f3_36 ?_
        refine z_iload_n F dJ6_getChars_ba4f3_37 rfl 1 rfl ?_
        refine z_isub F dJ6_getChars_ba4f3_38 ?_
        refine z_istore (lv' := [(4, vI (((-(v9 / 100)) * 100) - (-v9))), (3, vI (-(v9 / 100))), (0, vI (-v9)), (6, vI 0), (5, vI ix), (1, vI ix), (2, vR v0)]) F dJ6_getChars_ba4f3_39 (by decide) rfl ?_
        refine z_iload_n F dJ6_getChars_ba4f3_41 rfl 1 rfl ?_
        refine z_istore_n (lv' := [(0, vI (-(v9 / 100))), (4, vI (((-(v9 / 100)) * 100) - (-v9))), (3, vI (-(v9 / 100))), (6, vI 0), (5, vI ix), (1, vI ix), (2, vR v0)]) F dJ6_getChars_ba4f3_42 rfl (by decide) rfl ?_
        refine z_aload_n F dJ6_getChars_ba4f3_43 rfl 6 rfl ?_
        refine z_iinc (lv' := [(5, vI (ix + (-1))), (0, vI (-(v9 / 100))), (4, vI (((-(v9 / 100)) * 100) - (-v9))), (3, vI (-(v9 / 100))), (6, vI 0), (1, vI ix), (2, vR v0)]) F dJ6_getChars_ba4f3_44 4 rfl (by decide) rfl ?_
        refine z_iload F dJ6_getChars_ba4f3_47 0 rfl ?_
        refine z_getOnes F q458 dJ6_getChars_ba4f3_49 ?_
        refine z_iload F dJ6_getChars_ba4f3_52 2 rfl ?_
        refine z_ones F (by omega) dJ6_getChars_ba4f3_54 ?_
        obtain ⟨h9, eh9⟩ : ∃ z : Hp, hu h v0 (eA 4 N (fun j => vI (if j = ix + (-1) then 48 + (((-(v9 / 100)) * 100) - (-v9)) % 10 else t j))) = z := ⟨_, rfl⟩
        refine z_bastore (N := N) (f := t) (h' := h9) F hv (nf_b (by omega)) (by omega) (by omega) (by omega) dJ6_getChars_ba4f3_55 eh9 ?_
        have g10 : h9 v0 = some (eA 4 N (fun j => vI (if j = ix + (-1) then 48 + (((-(v9 / 100)) * 100) - (-v9)) % 10 else t j))) := by rw [← eh9]; exact hu_s _ _ _
        refine z_aload_n F dJ6_getChars_ba4f3_56 rfl 6 rfl ?_
        refine z_iinc (lv' := [(5, vI ((ix + (-1)) + (-1))), (0, vI (-(v9 / 100))), (4, vI (((-(v9 / 100)) * 100) - (-v9))), (3, vI (-(v9 / 100))), (6, vI 0), (1, vI ix), (2, vR v0)]) F dJ6_getChars_ba4f3_57 0 rfl (by decide) rfl ?_
        refine z_iload F dJ6_getChars_ba4f3_60 0 rfl ?_
        refine z_getTens F q460 dJ6_getChars_ba4f3_62 ?_
        refine z_iload F dJ6_getChars_ba4f3_65 2 rfl ?_
        refine z_tens F (by omega) dJ6_getChars_ba4f3_67 ?_
        obtain ⟨h11, eh11⟩ : ∃ z : Hp, hu h9 v0 (eA 4 N (fun j => vI (if j = (ix + (-1)) + (-1) then 48 + (((-(v9 / 100)) * 100) - (-v9)) / 10 else if j = ix + (-1) then 48 + (((-(v9 / 100)) * 100) - (-v9)) % 10 else t j))) = z := ⟨_, rfl⟩
        refine z_bastore (N := N) (f := fun j => if j = ix + (-1) then 48 + (((-(v9 / 100)) * 100) - (-v9)) % 10 else t j) (h' := h11) F g10 (nf_b (by omega)) (by omega) (by omega) (by omega) dJ6_getChars_ba4f3_68 eh11 ?_
        have g12 : h11 v0 = some (eA 4 N (fun j => vI (if j = (ix + (-1)) + (-1) then 48 + (((-(v9 / 100)) * 100) - (-v9)) / 10 else if j = ix + (-1) then 48 + (((-(v9 / 100)) * 100) - (-v9)) % 10 else t j))) := by rw [← eh11]; exact hu_s _ _ _
        refine z_goto (tgt := 22) F dJ6_getChars_ba4f3_69 (by decide) ?_
        refine z_iload_n F dJ6_getChars_ba4f3_22 rfl 1 rfl ?_
        refine z_bipush F dJ6_getChars_ba4f3_23 (by decide) ?_
        refine z_icmp_gt (tgt := 72) F dJ6_getChars_ba4f3_25 (by decide) (by omega) (by decide) (fun c25 => ?_) (fun c25 => ?_)
        · refine z_aload_n F dJ6_getChars_ba4f3_72 rfl 6 rfl ?_
          refine z_iinc (lv' := [(5, vI (((ix + (-1)) + (-1)) + (-1))), (0, vI (-(v9 / 100))), (4, vI (((-(v9 / 100)) * 100) - (-v9))), (3, vI (-(v9 / 100))), (6, vI 0), (1, vI ix), (2, vR v0)]) F dJ6_getChars_ba4f3_73 0 rfl (by decide) rfl ?_
          refine z_iload F dJ6_getChars_ba4f3_76 0 rfl ?_
          refine z_getOnes F q458 dJ6_getChars_ba4f3_78 ?_
          refine z_iload_n F dJ6_getChars_ba4f3_81 rfl 1 rfl ?_
          refine z_ineg F dJ6_getChars_ba4f3_82 ?_
          refine z_ones F (by omega) dJ6_getChars_ba4f3_83 ?_
          obtain ⟨h13, eh13⟩ : ∃ z : Hp, hu h11 v0 (eA 4 N (fun j => vI (if j = ((ix + (-1)) + (-1)) + (-1) then 48 + (-(-(v9 / 100))) % 10 else if j = (ix + (-1)) + (-1) then 48 + (((-(v9 / 100)) * 100) - (-v9)) / 10 else if j = ix + (-1) then 48 + (((-(v9 / 100)) * 100) - (-v9)) % 10 else t j))) = z := ⟨_, rfl⟩
          refine z_bastore (N := N) (f := fun j => if j = (ix + (-1)) + (-1) then 48 + (((-(v9 / 100)) * 100) - (-v9)) / 10 else if j = ix + (-1) then 48 + (((-(v9 / 100)) * 100) - (-v9)) % 10 else t j) (h' := h13) F g12 (nf_b (by omega)) (by omega) (by omega) (by omega) dJ6_getChars_ba4f3_84 eh13 ?_
          have g14 : h13 v0 = some (eA 4 N (fun j => vI (if j = ((ix + (-1)) + (-1)) + (-1) then 48 + (-(-(v9 / 100))) % 10 else if j = (ix + (-1)) + (-1) then 48 + (((-(v9 / 100)) * 100) - (-v9)) / 10 else if j = ix + (-1) then 48 + (((-(v9 / 100)) * 100) - (-v9)) % 10 else t j))) := by rw [← eh13]; exact hu_s _ _ _
          refine z_iload_n F dJ6_getChars_ba4f3_85 rfl 1 rfl ?_
          refine z_bipush F dJ6_getChars_ba4f3_86 (by decide) ?_
          refine z_icmp_ge (tgt := 104) F dJ6_getChars_ba4f3_88 (by decide) (by omega) (by decide) (fun c88 => ?_) (fun c88 => ?_)
          · refine z_iload F dJ6_getChars_ba4f3_104 4 rfl ?_
            refine z_if_eq (tgt := 118) F dJ6_getChars_ba4f3_106 (by decide) (by decide) (fun c106 => ?_) (fun c106 => ?_)
            · refine z_iload F dJ6_getChars_ba4f3_118 0 rfl ?_
              have hsz15 : szI v9 = 3 := by unfold szI; rw [if_neg (by omega), if_neg (by omega), if_pos (by omega)]
              have hdl16 : decL v9 = [48 + v9 / 100 % 10, 48 + v9 / 10 % 10, 48 + v9 / 1 % 10] := by unfold decL; rw [if_neg (by omega), if_neg (by omega), if_pos (by omega)]
              have hti : ∀ (i : Nat), i < 3 → (fun j => if j = ((ix + (-1)) + (-1)) + (-1) then 48 + (-(-(v9 / 100))) % 10 else if j = (ix + (-1)) + (-1) then 48 + (((-(v9 / 100)) * 100) - (-v9)) / 10 else if j = ix + (-1) then 48 + (((-(v9 / 100)) * 100) - (-v9)) % 10 else t j) (ix - 3 + (i : Int)) = ([48 + v9 / 100 % 10, 48 + v9 / 10 % 10, 48 + v9 / 1 % 10] : List Int).getD i 0 := by
                intro i hi
                have hc : i = 0 ∨ i = 1 ∨ i = 2 := by omega
                rcases hc with rfl | rfl | rfl
                · show (if (ix - 3 + ((0 : Nat) : Int)) = ((ix + (-1)) + (-1)) + (-1) then 48 + (-(-(v9 / 100))) % 10 else if (ix - 3 + ((0 : Nat) : Int)) = (ix + (-1)) + (-1) then 48 + (((-(v9 / 100)) * 100) - (-v9)) / 10 else if (ix - 3 + ((0 : Nat) : Int)) = ix + (-1) then 48 + (((-(v9 / 100)) * 100) - (-v9)) % 10 else t (ix - 3 + ((0 : Nat) : Int))) = 48 + v9 / 100 % 10
                  omega
                · show (if (ix - 3 + ((1 : Nat) : Int)) = ((ix + (-1)) + (-1)) + (-1) then 48 + (-(-(v9 / 100))) % 10 else if (ix - 3 + ((1 : Nat) : Int)) = (ix + (-1)) + (-1) then 48 + (((-(v9 / 100)) * 100) - (-v9)) / 10 else if (ix - 3 + ((1 : Nat) : Int)) = ix + (-1) then 48 + (((-(v9 / 100)) * 100) - (-v9)) % 10 else t (ix - 3 + ((1 : Nat) : Int))) = 48 + v9 / 10 % 10
                  omega
                · show (if (ix - 3 + ((2 : Nat) : Int)) = ((ix + (-1)) + (-1)) + (-1) then 48 + (-(-(v9 / 100))) % 10 else if (ix - 3 + ((2 : Nat) : Int)) = (ix + (-1)) + (-1) then 48 + (((-(v9 / 100)) * 100) - (-v9)) / 10 else if (ix - 3 + ((2 : Nat) : Int)) = ix + (-1) then 48 + (((-(v9 / 100)) * 100) - (-v9)) % 10 else t (ix - 3 + ((2 : Nat) : Int))) = 48 + v9 / 1 % 10
                  omega
              exact z_iret (nf_i _) F hr (Nat.le_of_ble_eq_true rfl) (Nat.le_of_ble_eq_true rfl) dJ6_getChars_ba4f3_120 (⟨rI (by rw [hsz15]; omega), _, g14, fun j q1 => (by rw [hsz15] at q1; show (if j = ((ix + (-1)) + (-1)) + (-1) then 48 + (-(-(v9 / 100))) % 10 else if j = (ix + (-1)) + (-1) then 48 + (((-(v9 / 100)) * 100) - (-v9)) / 10 else if j = ix + (-1) then 48 + (((-(v9 / 100)) * 100) - (-v9)) % 10 else t j) = t j; omega), (by rw [hsz15]; exact fun i hi => by rw [hdl16] at hi ⊢; exact hti i hi), fun j q1 q2 => (by have := ht j q1 q2; show -128 ≤ (if j = ((ix + (-1)) + (-1)) + (-1) then 48 + (-(-(v9 / 100))) % 10 else if j = (ix + (-1)) + (-1) then 48 + (((-(v9 / 100)) * 100) - (-v9)) / 10 else if j = ix + (-1) then 48 + (((-(v9 / 100)) * 100) - (-v9)) % 10 else t j) ∧ (if j = ((ix + (-1)) + (-1)) + (-1) then 48 + (-(-(v9 / 100))) % 10 else if j = (ix + (-1)) + (-1) then 48 + (((-(v9 / 100)) * 100) - (-v9)) / 10 else if j = ix + (-1) then 48 + (((-(v9 / 100)) * 100) - (-v9)) % 10 else t j) < 128; omega), fun x q1 => by rw [← eh13, hu_n _ _ q1, ← eh11, hu_n _ _ q1, ← eh9, hu_n _ _ q1]⟩)
            · exact absurd c106 (by decide)
          · refine z_aload_n F dJ6_getChars_ba4f3_91 rfl 6 rfl ?_
            refine z_iinc (lv' := [(5, vI ((((ix + (-1)) + (-1)) + (-1)) + (-1))), (0, vI (-(v9 / 100))), (4, vI (((-(v9 / 100)) * 100) - (-v9))), (3, vI (-(v9 / 100))), (6, vI 0), (1, vI ix), (2, vR v0)]) F dJ6_getChars_ba4f3_92 0 rfl (by decide) rfl ?_
            refine z_iload F dJ6_getChars_ba4f3_95 0 rfl ?_
            refine z_getTens F q460 dJ6_getChars_ba4f3_97 ?_
            refine z_iload_n F dJ6_getChars_ba4f3_100 rfl 1 rfl ?_
            refine z_ineg F dJ6_getChars_ba4f3_101 ?_
            refine z_tens F (by omega) dJ6_getChars_ba4f3_102 ?_
            obtain ⟨h17, eh17⟩ : ∃ z : Hp, hu h13 v0 (eA 4 N (fun j => vI (if j = (((ix + (-1)) + (-1)) + (-1)) + (-1) then 48 + (-(-(v9 / 100))) / 10 else if j = ((ix + (-1)) + (-1)) + (-1) then 48 + (-(-(v9 / 100))) % 10 else if j = (ix + (-1)) + (-1) then 48 + (((-(v9 / 100)) * 100) - (-v9)) / 10 else if j = ix + (-1) then 48 + (((-(v9 / 100)) * 100) - (-v9)) % 10 else t j))) = z := ⟨_, rfl⟩
            refine z_bastore (N := N) (f := fun j => if j = ((ix + (-1)) + (-1)) + (-1) then 48 + (-(-(v9 / 100))) % 10 else if j = (ix + (-1)) + (-1) then 48 + (((-(v9 / 100)) * 100) - (-v9)) / 10 else if j = ix + (-1) then 48 + (((-(v9 / 100)) * 100) - (-v9)) % 10 else t j) (h' := h17) F g14 (nf_b (by omega)) (by omega) (by omega) (by omega) dJ6_getChars_ba4f3_103 eh17 ?_
            have g18 : h17 v0 = some (eA 4 N (fun j => vI (if j = (((ix + (-1)) + (-1)) + (-1)) + (-1) then 48 + (-(-(v9 / 100))) / 10 else if j = ((ix + (-1)) + (-1)) + (-1) then 48 + (-(-(v9 / 100))) % 10 else if j = (ix + (-1)) + (-1) then 48 + (((-(v9 / 100)) * 100) - (-v9)) / 10 else if j = ix + (-1) then 48 + (((-(v9 / 100)) * 100) - (-v9)) % 10 else t j))) := by rw [← eh17]; exact hu_s _ _ _
            refine z_iload F dJ6_getChars_ba4f3_104 4 rfl ?_
            refine z_if_eq (tgt := 118) F dJ6_getChars_ba4f3_106 (by decide) (by decide) (fun c106 => ?_) (fun c106 => ?_)
            · refine z_iload F dJ6_getChars_ba4f3_118 0 rfl ?_
              have hsz19 : szI v9 = 4 := by unfold szI; rw [if_neg (by omega), if_neg (by omega), if_neg (by omega), if_pos (by omega)]
              have hdl20 : decL v9 = [48 + v9 / 1000 % 10, 48 + v9 / 100 % 10, 48 + v9 / 10 % 10, 48 + v9 / 1 % 10] := by unfold decL; rw [if_neg (by omega), if_neg (by omega), if_neg (by omega), if_pos (by omega)]
              have hti : ∀ (i : Nat), i < 4 → (fun j => if j = (((ix + (-1)) + (-1)) + (-1)) + (-1) then 48 + (-(-(v9 / 100))) / 10 else if j = ((ix + (-1)) + (-1)) + (-1) then 48 + (-(-(v9 / 100))) % 10 else if j = (ix + (-1)) + (-1) then 48 + (((-(v9 / 100)) * 100) - (-v9)) / 10 else if j = ix + (-1) then 48 + (((-(v9 / 100)) * 100) - (-v9)) % 10 else t j) (ix - 4 + (i : Int)) = ([48 + v9 / 1000 % 10, 48 + v9 / 100 % 10, 48 + v9 / 10 % 10, 48 + v9 / 1 % 10] : List Int).getD i 0 := by
                intro i hi
                have hc : i = 0 ∨ i = 1 ∨ i = 2 ∨ i = 3 := by omega
                rcases hc with rfl | rfl | rfl | rfl
                · show (if (ix - 4 + ((0 : Nat) : Int)) = (((ix + (-1)) + (-1)) + (-1)) + (-1) then 48 + (-(-(v9 / 100))) / 10 else if (ix - 4 + ((0 : Nat) : Int)) = ((ix + (-1)) + (-1)) + (-1) then 48 + (-(-(v9 / 100))) % 10 else if (ix - 4 + ((0 : Nat) : Int)) = (ix + (-1)) + (-1) then 48 + (((-(v9 / 100)) * 100) - (-v9)) / 10 else if (ix - 4 + ((0 : Nat) : Int)) = ix + (-1) then 48 + (((-(v9 / 100)) * 100) - (-v9)) % 10 else t (ix - 4 + ((0 : Nat) : Int))) = 48 + v9 / 1000 % 10
                  omega
                · show (if (ix - 4 + ((1 : Nat) : Int)) = (((ix + (-1)) + (-1)) + (-1)) + (-1) then 48 + (-(-(v9 / 100))) / 10 else if (ix - 4 + ((1 : Nat) : Int)) = ((ix + (-1)) + (-1)) + (-1) then 48 + (-(-(v9 / 100))) % 10 else if (ix - 4 + ((1 : Nat) : Int)) = (ix + (-1)) + (-1) then 48 + (((-(v9 / 100)) * 100) - (-v9)) / 10 else if (ix - 4 + ((1 : Nat) : Int)) = ix + (-1) then 48 + (((-(v9 / 100)) * 100) - (-v9)) % 10 else t (ix - 4 + ((1 : Nat) : Int))) = 48 + v9 / 100 % 10
                  omega
                · show (if (ix - 4 + ((2 : Nat) : Int)) = (((ix + (-1)) + (-1)) + (-1)) + (-1) then 48 + (-(-(v9 / 100))) / 10 else if (ix - 4 + ((2 : Nat) : Int)) = ((ix + (-1)) + (-1)) + (-1) then 48 + (-(-(v9 / 100))) % 10 else if (ix - 4 + ((2 : Nat) : Int)) = (ix + (-1)) + (-1) then 48 + (((-(v9 / 100)) * 100) - (-v9)) / 10 else if (ix - 4 + ((2 : Nat) : Int)) = ix + (-1) then 48 + (((-(v9 / 100)) * 100) - (-v9)) % 10 else t (ix - 4 + ((2 : Nat) : Int))) = 48 + v9 / 10 % 10
                  omega
                · show (if (ix - 4 + ((3 : Nat) : Int)) = (((ix + (-1)) + (-1)) + (-1)) + (-1) then 48 + (-(-(v9 / 100))) / 10 else if (ix - 4 + ((3 : Nat) : Int)) = ((ix + (-1)) + (-1)) + (-1) then 48 + (-(-(v9 / 100))) % 10 else if (ix - 4 + ((3 : Nat) : Int)) = (ix + (-1)) + (-1) then 48 + (((-(v9 / 100)) * 100) - (-v9)) / 10 else if (ix - 4 + ((3 : Nat) : Int)) = ix + (-1) then 48 + (((-(v9 / 100)) * 100) - (-v9)) % 10 else t (ix - 4 + ((3 : Nat) : Int))) = 48 + v9 / 1 % 10
                  omega
              exact z_iret (nf_i _) F hr (Nat.le_of_ble_eq_true rfl) (Nat.le_of_ble_eq_true rfl) dJ6_getChars_ba4f3_120 (⟨rI (by rw [hsz19]; omega), _, g18, fun j q1 => (by rw [hsz19] at q1; show (if j = (((ix + (-1)) + (-1)) + (-1)) + (-1) then 48 + (-(-(v9 / 100))) / 10 else if j = ((ix + (-1)) + (-1)) + (-1) then 48 + (-(-(v9 / 100))) % 10 else if j = (ix + (-1)) + (-1) then 48 + (((-(v9 / 100)) * 100) - (-v9)) / 10 else if j = ix + (-1) then 48 + (((-(v9 / 100)) * 100) - (-v9)) % 10 else t j) = t j; omega), (by rw [hsz19]; exact fun i hi => by rw [hdl20] at hi ⊢; exact hti i hi), fun j q1 q2 => (by have := ht j q1 q2; show -128 ≤ (if j = (((ix + (-1)) + (-1)) + (-1)) + (-1) then 48 + (-(-(v9 / 100))) / 10 else if j = ((ix + (-1)) + (-1)) + (-1) then 48 + (-(-(v9 / 100))) % 10 else if j = (ix + (-1)) + (-1) then 48 + (((-(v9 / 100)) * 100) - (-v9)) / 10 else if j = ix + (-1) then 48 + (((-(v9 / 100)) * 100) - (-v9)) % 10 else t j) ∧ (if j = (((ix + (-1)) + (-1)) + (-1)) + (-1) then 48 + (-(-(v9 / 100))) / 10 else if j = ((ix + (-1)) + (-1)) + (-1) then 48 + (-(-(v9 / 100))) % 10 else if j = (ix + (-1)) + (-1) then 48 + (((-(v9 / 100)) * 100) - (-v9)) / 10 else if j = ix + (-1) then 48 + (((-(v9 / 100)) * 100) - (-v9)) % 10 else t j) < 128; omega), fun x q1 => by rw [← eh17, hu_n _ _ q1, ← eh13, hu_n _ _ q1, ← eh11, hu_n _ _ q1, ← eh9, hu_n _ _ q1]⟩)
            · exact absurd c106 (by decide)
        · refine z_iload_n F dJ6_getChars_ba4f3_28 rfl 1 rfl ?_
          refine z_bipush F dJ6_getChars_ba4f3_29 (by decide) ?_
          refine z_idivN F dJ6_getChars_ba4f3_31 (by omega) (by omega) ?_
          refine z_istore_n (lv' := [(3, vI (-((v9 / 100) / 100))), (5, vI ((ix + (-1)) + (-1))), (0, vI (-(v9 / 100))), (4, vI (((-(v9 / 100)) * 100) - (-v9))), (6, vI 0), (1, vI ix), (2, vR v0)]) F dJ6_getChars_ba4f3_32 rfl (by decide) rfl ?_
          refine z_iload_n F dJ6_getChars_ba4f3_33 rfl 0 rfl ?_
          refine z_bipush F dJ6_getChars_ba4f3_34 (by decide) ?_
          refine z_imul F dJ6_getChars_ba4f3_36 ?_
          refine z_iload_n F dJ6_getChars_ba4f3_37 rfl 2 rfl ?_
          refine z_isub F dJ6_getChars_ba4f3_38 ?_
          refine z_istore (lv' := [(4, vI (((-((v9 / 100) / 100)) * 100) - (-(v9 / 100)))), (3, vI (-((v9 / 100) / 100))), (5, vI ((ix + (-1)) + (-1))), (0, vI (-(v9 / 100))), (6, vI 0), (1, vI ix), (2, vR v0)]) F dJ6_getChars_ba4f3_39 (by decide) rfl ?_
          refine z_iload_n F dJ6_getChars_ba4f3_41 rfl 1 rfl ?_
          refine z_istore_n (lv' := [(0, vI (-((v9 / 100) / 100))), (4, vI (((-((v9 / 100) / 100)) * 100) - (-(v9 / 100)))), (3, vI (-((v9 / 100) / 100))), (5, vI ((ix + (-1)) + (-1))), (6, vI 0), (1, vI ix), (2, vR v0)]) F dJ6_getChars_ba4f3_42 rfl (by decide) rfl ?_
          refine z_aload_n F dJ6_getChars_ba4f3_43 rfl 6 rfl ?_
          refine z_iinc (lv' := [(5, vI (((ix + (-1)) + (-1)) + (-1))), (0, vI (-((v9 / 100) / 100))), (4, vI (((-((v9 / 100) / 100)) * 100) - (-(v9 / 100)))), (3, vI (-((v9 / 100) / 100))), (6, vI 0), (1, vI ix), (2, vR v0)]) F dJ6_getChars_ba4f3_44 3 rfl (by decide) rfl ?_
          refine z_iload F dJ6_getChars_ba4f3_47 0 rfl ?_
          refine z_getOnes F q458 dJ6_getChars_ba4f3_49 ?_
          refine z_iload F dJ6_getChars_ba4f3_52 2 rfl ?_
          refine z_ones F (by omega) dJ6_getChars_ba4f3_54 ?_
          obtain ⟨h21, eh21⟩ : ∃ z : Hp, hu h11 v0 (eA 4 N (fun j => vI (if j = ((ix + (-1)) + (-1)) + (-1) then 48 + (((-((v9 / 100) / 100)) * 100) - (-(v9 / 100))) % 10 else if j = (ix + (-1)) + (-1) then 48 + (((-(v9 / 100)) * 100) - (-v9)) / 10 else if j = ix + (-1) then 48 + (((-(v9 / 100)) * 100) - (-v9)) % 10 else t j))) = z := ⟨_, rfl⟩
          refine z_bastore (N := N) (f := fun j => if j = (ix + (-1)) + (-1) then 48 + (((-(v9 / 100)) * 100) - (-v9)) / 10 else if j = ix + (-1) then 48 + (((-(v9 / 100)) * 100) - (-v9)) % 10 else t j) (h' := h21) F g12 (nf_b (by omega)) (by omega) (by omega) (by omega) dJ6_getChars_ba4f3_55 eh21 ?_
          have g22 : h21 v0 = some (eA 4 N (fun j => vI (if j = ((ix + (-1)) + (-1)) + (-1) then 48 + (((-((v9 / 100) / 100)) * 100) - (-(v9 / 100))) % 10 else if j = (ix + (-1)) + (-1) then 48 + (((-(v9 / 100)) * 100) - (-v9)) / 10 else if j = ix + (-1) then 48 + (((-(v9 / 100)) * 100) - (-v9)) % 10 else t j))) := by rw [← eh21]; exact hu_s _ _ _
          refine z_aload_n F dJ6_getChars_ba4f3_56 rfl 6 rfl ?_
          refine z_iinc (lv' := [(5, vI ((((ix + (-1)) + (-1)) + (-1)) + (-1))), (0, vI (-((v9 / 100) / 100))), (4, vI (((-((v9 / 100) / 100)) * 100) - (-(v9 / 100)))), (3, vI (-((v9 / 100) / 100))), (6, vI 0), (1, vI ix), (2, vR v0)]) F dJ6_getChars_ba4f3_57 0 rfl (by decide) rfl ?_
          refine z_iload F dJ6_getChars_ba4f3_60 0 rfl ?_
          refine z_getTens F q460 dJ6_getChars_ba4f3_62 ?_
          refine z_iload F dJ6_getChars_ba4f3_65 2 rfl ?_
          refine z_tens F (by omega) dJ6_getChars_ba4f3_67 ?_
          obtain ⟨h23, eh23⟩ : ∃ z : Hp, hu h21 v0 (eA 4 N (fun j => vI (if j = (((ix + (-1)) + (-1)) + (-1)) + (-1) then 48 + (((-((v9 / 100) / 100)) * 100) - (-(v9 / 100))) / 10 else if j = ((ix + (-1)) + (-1)) + (-1) then 48 + (((-((v9 / 100) / 100)) * 100) - (-(v9 / 100))) % 10 else if j = (ix + (-1)) + (-1) then 48 + (((-(v9 / 100)) * 100) - (-v9)) / 10 else if j = ix + (-1) then 48 + (((-(v9 / 100)) * 100) - (-v9)) % 10 else t j))) = z := ⟨_, rfl⟩
          refine z_bastore (N := N) (f := fun j => if j = ((ix + (-1)) + (-1)) + (-1) then 48 + (((-((v9 / 100) / 100)) * 100) - (-(v9 / 100))) % 10 else if j = (ix + (-1)) + (-1) then 48 + (((-(v9 / 100)) * 100) - (-v9)) / 10 else if j = ix + (-1) then 48 + (((-(v9 / 100)) * 100) - (-v9)) % 10 else t j) (h' := h23) F g22 (nf_b (by omega)) (by omega) (by omega) (by omega) dJ6_getChars_ba4f3_68 eh23 ?_
          have g24 : h23 v0 = some (eA 4 N (fun j => vI (if j = (((ix + (-1)) + (-1)) + (-1)) + (-1) then 48 + (((-((v9 / 100) / 100)) * 100) - (-(v9 / 100))) / 10 else if j = ((ix + (-1)) + (-1)) + (-1) then 48 + (((-((v9 / 100) / 100)) * 100) - (-(v9 / 100))) % 10 else if j = (ix + (-1)) + (-1) then 48 + (((-(v9 / 100)) * 100) - (-v9)) / 10 else if j = ix + (-1) then 48 + (((-(v9 / 100)) * 100) - (-v9)) % 10 else t j))) := by rw [← eh23]; exact hu_s _ _ _
          refine z_goto (tgt := 22) F dJ6_getChars_ba4f3_69 (by decide) ?_
          refine z_iload_n F dJ6_getChars_ba4f3_22 rfl 1 rfl ?_
          refine z_bipush F dJ6_getChars_ba4f3_23 (by decide) ?_
          refine z_icmp_gt (tgt := 72) F dJ6_getChars_ba4f3_25 (by decide) (by omega) (by decide) (fun c25 => ?_) (fun c25 => ?_)
          · refine z_aload_n F dJ6_getChars_ba4f3_72 rfl 6 rfl ?_
            refine z_iinc (lv' := [(5, vI (((((ix + (-1)) + (-1)) + (-1)) + (-1)) + (-1))), (0, vI (-((v9 / 100) / 100))), (4, vI (((-((v9 / 100) / 100)) * 100) - (-(v9 / 100)))), (3, vI (-((v9 / 100) / 100))), (6, vI 0), (1, vI ix), (2, vR v0)]) F dJ6_getChars_ba4f3_73 0 rfl (by decide) rfl ?_
            refine z_iload F dJ6_getChars_ba4f3_76 0 rfl ?_
            refine z_getOnes F q458 dJ6_getChars_ba4f3_78 ?_
            refine z_iload_n F dJ6_getChars_ba4f3_81 rfl 1 rfl ?_
            refine z_ineg F dJ6_getChars_ba4f3_82 ?_
            refine z_ones F (by omega) dJ6_getChars_ba4f3_83 ?_
            obtain ⟨h25, eh25⟩ : ∃ z : Hp, hu h23 v0 (eA 4 N (fun j => vI (if j = ((((ix + (-1)) + (-1)) + (-1)) + (-1)) + (-1) then 48 + (-(-((v9 / 100) / 100))) % 10 else if j = (((ix + (-1)) + (-1)) + (-1)) + (-1) then 48 + (((-((v9 / 100) / 100)) * 100) - (-(v9 / 100))) / 10 else if j = ((ix + (-1)) + (-1)) + (-1) then 48 + (((-((v9 / 100) / 100)) * 100) - (-(v9 / 100))) % 10 else if j = (ix + (-1)) + (-1) then 48 + (((-(v9 / 100)) * 100) - (-v9)) / 10 else if j = ix + (-1) then 48 + (((-(v9 / 100)) * 100) - (-v9)) % 10 else t j))) = z := ⟨_, rfl⟩
            refine z_bastore (N := N) (f := fun j => if j = (((ix + (-1)) + (-1)) + (-1)) + (-1) then 48 + (((-((v9 / 100) / 100)) * 100) - (-(v9 / 100))) / 10 else if j = ((ix + (-1)) + (-1)) + (-1) then 48 + (((-((v9 / 100) / 100)) * 100) - (-(v9 / 100))) % 10 else if j = (ix + (-1)) + (-1) then 48 + (((-(v9 / 100)) * 100) - (-v9)) / 10 else if j = ix + (-1) then 48 + (((-(v9 / 100)) * 100) - (-v9)) % 10 else t j) (h' := h25) F g24 (nf_b (by omega)) (by omega) (by omega) (by omega) dJ6_getChars_ba4f3_84 eh25 ?_
            have g26 : h25 v0 = some (eA 4 N (fun j => vI (if j = ((((ix + (-1)) + (-1)) + (-1)) + (-1)) + (-1) then 48 + (-(-((v9 / 100) / 100))) % 10 else if j = (((ix + (-1)) + (-1)) + (-1)) + (-1) then 48 + (((-((v9 / 100) / 100)) * 100) - (-(v9 / 100))) / 10 else if j = ((ix + (-1)) + (-1)) + (-1) then 48 + (((-((v9 / 100) / 100)) * 100) - (-(v9 / 100))) % 10 else if j = (ix + (-1)) + (-1) then 48 + (((-(v9 / 100)) * 100) - (-v9)) / 10 else if j = ix + (-1) then 48 + (((-(v9 / 100)) * 100) - (-v9)) % 10 else t j))) := by rw [← eh25]; exact hu_s _ _ _
            refine z_iload_n F dJ6_getChars_ba4f3_85 rfl 1 rfl ?_
            refine z_bipush F dJ6_getChars_ba4f3_86 (by decide) ?_
            refine z_icmp_ge (tgt := 104) F dJ6_getChars_ba4f3_88 (by decide) (by omega) (by decide) (fun c88 => ?_) (fun c88 => ?_)
            · refine z_iload F dJ6_getChars_ba4f3_104 4 rfl ?_
              refine z_if_eq (tgt := 118) F dJ6_getChars_ba4f3_106 (by decide) (by decide) (fun c106 => ?_) (fun c106 => ?_)
              · refine z_iload F dJ6_getChars_ba4f3_118 0 rfl ?_
                have hsz27 : szI v9 = 5 := by unfold szI; rw [if_neg (by omega), if_neg (by omega), if_neg (by omega), if_neg (by omega), if_pos (by omega)]
                have hdl28 : decL v9 = [48 + v9 / 10000 % 10, 48 + v9 / 1000 % 10, 48 + v9 / 100 % 10, 48 + v9 / 10 % 10, 48 + v9 / 1 % 10] := by unfold decL; rw [if_neg (by omega), if_neg (by omega), if_neg (by omega), if_neg (by omega), if_pos (by omega)]
                have hti : ∀ (i : Nat), i < 5 → (fun j => if j = ((((ix + (-1)) + (-1)) + (-1)) + (-1)) + (-1) then 48 + (-(-((v9 / 100) / 100))) % 10 else if j = (((ix + (-1)) + (-1)) + (-1)) + (-1) then 48 + (((-((v9 / 100) / 100)) * 100) - (-(v9 / 100))) / 10 else if j = ((ix + (-1)) + (-1)) + (-1) then 48 + (((-((v9 / 100) / 100)) * 100) - (-(v9 / 100))) % 10 else if j = (ix + (-1)) + (-1) then 48 + (((-(v9 / 100)) * 100) - (-v9)) / 10 else if j = ix + (-1) then 48 + (((-(v9 / 100)) * 100) - (-v9)) % 10 else t j) (ix - 5 + (i : Int)) = ([48 + v9 / 10000 % 10, 48 + v9 / 1000 % 10, 48 + v9 / 100 % 10, 48 + v9 / 10 % 10, 48 + v9 / 1 % 10] : List Int).getD i 0 := by
                  intro i hi
                  have hc : i = 0 ∨ i = 1 ∨ i = 2 ∨ i = 3 ∨ i = 4 := by omega
                  rcases hc with rfl | rfl | rfl | rfl | rfl
                  · show (if (ix - 5 + ((0 : Nat) : Int)) = ((((ix + (-1)) + (-1)) + (-1)) + (-1)) + (-1) then 48 + (-(-((v9 / 100) / 100))) % 10 else if (ix - 5 + ((0 : Nat) : Int)) = (((ix + (-1)) + (-1)) + (-1)) + (-1) then 48 + (((-((v9 / 100) / 100)) * 100) - (-(v9 / 100))) / 10 else if (ix - 5 + ((0 : Nat) : Int)) = ((ix + (-1)) + (-1)) + (-1) then 48 + (((-((v9 / 100) / 100)) * 100) - (-(v9 / 100))) % 10 else if (ix - 5 + ((0 : Nat) : Int)) = (ix + (-1)) + (-1) then 48 + (((-(v9 / 100)) * 100) - (-v9)) / 10 else if (ix - 5 + ((0 : Nat) : Int)) = ix + (-1) then 48 + (((-(v9 / 100)) * 100) - (-v9)) % 10 else t (ix - 5 + ((0 : Nat) : Int))) = 48 + v9 / 10000 % 10
                    omega
                  · show (if (ix - 5 + ((1 : Nat) : Int)) = ((((ix + (-1)) + (-1)) + (-1)) + (-1)) + (-1) then 48 + (-(-((v9 / 100) / 100))) % 10 else if (ix - 5 + ((1 : Nat) : Int)) = (((ix + (-1)) + (-1)) + (-1)) + (-1) then 48 + (((-((v9 / 100) / 100)) * 100) - (-(v9 / 100))) / 10 else if (ix - 5 + ((1 : Nat) : Int)) = ((ix + (-1)) + (-1)) + (-1) then 48 + (((-((v9 / 100) / 100)) * 100) - (-(v9 / 100))) % 10 else if (ix - 5 + ((1 : Nat) : Int)) = (ix + (-1)) + (-1) then 48 + (((-(v9 / 100)) * 100) - (-v9)) / 10 else if (ix - 5 + ((1 : Nat) : Int)) = ix + (-1) then 48 + (((-(v9 / 100)) * 100) - (-v9)) % 10 else t (ix - 5 + ((1 : Nat) : Int))) = 48 + v9 / 1000 % 10
                    omega
                  · show (if (ix - 5 + ((2 : Nat) : Int)) = ((((ix + (-1)) + (-1)) + (-1)) + (-1)) + (-1) then 48 + (-(-((v9 / 100) / 100))) % 10 else if (ix - 5 + ((2 : Nat) : Int)) = (((ix + (-1)) + (-1)) + (-1)) + (-1) then 48 + (((-((v9 / 100) / 100)) * 100) - (-(v9 / 100))) / 10 else if (ix - 5 + ((2 : Nat) : Int)) = ((ix + (-1)) + (-1)) + (-1) then 48 + (((-((v9 / 100) / 100)) * 100) - (-(v9 / 100))) % 10 else if (ix - 5 + ((2 : Nat) : Int)) = (ix + (-1)) + (-1) then 48 + (((-(v9 / 100)) * 100) - (-v9)) / 10 else if (ix - 5 + ((2 : Nat) : Int)) = ix + (-1) then 48 + (((-(v9 / 100)) * 100) - (-v9)) % 10 else t (ix - 5 + ((2 : Nat) : Int))) = 48 + v9 / 100 % 10
                    omega
                  · show (if (ix - 5 + ((3 : Nat) : Int)) = ((((ix + (-1)) + (-1)) + (-1)) + (-1)) + (-1) then 48 + (-(-((v9 / 100) / 100))) % 10 else if (ix - 5 + ((3 : Nat) : Int)) = (((ix + (-1)) + (-1)) + (-1)) + (-1) then 48 + (((-((v9 / 100) / 100)) * 100) - (-(v9 / 100))) / 10 else if (ix - 5 + ((3 : Nat) : Int)) = ((ix + (-1)) + (-1)) + (-1) then 48 + (((-((v9 / 100) / 100)) * 100) - (-(v9 / 100))) % 10 else if (ix - 5 + ((3 : Nat) : Int)) = (ix + (-1)) + (-1) then 48 + (((-(v9 / 100)) * 100) - (-v9)) / 10 else if (ix - 5 + ((3 : Nat) : Int)) = ix + (-1) then 48 + (((-(v9 / 100)) * 100) - (-v9)) % 10 else t (ix - 5 + ((3 : Nat) : Int))) = 48 + v9 / 10 % 10
                    omega
                  · show (if (ix - 5 + ((4 : Nat) : Int)) = ((((ix + (-1)) + (-1)) + (-1)) + (-1)) + (-1) then 48 + (-(-((v9 / 100) / 100))) % 10 else if (ix - 5 + ((4 : Nat) : Int)) = (((ix + (-1)) + (-1)) + (-1)) + (-1) then 48 + (((-((v9 / 100) / 100)) * 100) - (-(v9 / 100))) / 10 else if (ix - 5 + ((4 : Nat) : Int)) = ((ix + (-1)) + (-1)) + (-1) then 48 + (((-((v9 / 100) / 100)) * 100) - (-(v9 / 100))) % 10 else if (ix - 5 + ((4 : Nat) : Int)) = (ix + (-1)) + (-1) then 48 + (((-(v9 / 100)) * 100) - (-v9)) / 10 else if (ix - 5 + ((4 : Nat) : Int)) = ix + (-1) then 48 + (((-(v9 / 100)) * 100) - (-v9)) % 10 else t (ix - 5 + ((4 : Nat) : Int))) = 48 + v9 / 1 % 10
                    omega
                exact z_iret (nf_i _) F hr (Nat.le_of_ble_eq_true rfl) (Nat.le_of_ble_eq_true rfl) dJ6_getChars_ba4f3_120 (⟨rI (by rw [hsz27]; omega), _, g26, fun j q1 => (by rw [hsz27] at q1; show (if j = ((((ix + (-1)) + (-1)) + (-1)) + (-1)) + (-1) then 48 + (-(-((v9 / 100) / 100))) % 10 else if j = (((ix + (-1)) + (-1)) + (-1)) + (-1) then 48 + (((-((v9 / 100) / 100)) * 100) - (-(v9 / 100))) / 10 else if j = ((ix + (-1)) + (-1)) + (-1) then 48 + (((-((v9 / 100) / 100)) * 100) - (-(v9 / 100))) % 10 else if j = (ix + (-1)) + (-1) then 48 + (((-(v9 / 100)) * 100) - (-v9)) / 10 else if j = ix + (-1) then 48 + (((-(v9 / 100)) * 100) - (-v9)) % 10 else t j) = t j; omega), (by rw [hsz27]; exact fun i hi => by rw [hdl28] at hi ⊢; exact hti i hi), fun j q1 q2 => (by have := ht j q1 q2; show -128 ≤ (if j = ((((ix + (-1)) + (-1)) + (-1)) + (-1)) + (-1) then 48 + (-(-((v9 / 100) / 100))) % 10 else if j = (((ix + (-1)) + (-1)) + (-1)) + (-1) then 48 + (((-((v9 / 100) / 100)) * 100) - (-(v9 / 100))) / 10 else if j = ((ix + (-1)) + (-1)) + (-1) then 48 + (((-((v9 / 100) / 100)) * 100) - (-(v9 / 100))) % 10 else if j = (ix + (-1)) + (-1) then 48 + (((-(v9 / 100)) * 100) - (-v9)) / 10 else if j = ix + (-1) then 48 + (((-(v9 / 100)) * 100) - (-v9)) % 10 else t j) ∧ (if j = ((((ix + (-1)) + (-1)) + (-1)) + (-1)) + (-1) then 48 + (-(-((v9 / 100) / 100))) % 10 else if j = (((ix + (-1)) + (-1)) + (-1)) + (-1) then 48 + (((-((v9 / 100) / 100)) * 100) - (-(v9 / 100))) / 10 else if j = ((ix + (-1)) + (-1)) + (-1) then 48 + (((-((v9 / 100) / 100)) * 100) - (-(v9 / 100))) % 10 else if j = (ix + (-1)) + (-1) then 48 + (((-(v9 / 100)) * 100) - (-v9)) / 10 else if j = ix + (-1) then 48 + (((-(v9 / 100)) * 100) - (-v9)) % 10 else t j) < 128; omega), fun x q1 => by rw [← eh25, hu_n _ _ q1, ← eh23, hu_n _ _ q1, ← eh21, hu_n _ _ q1, ← eh11, hu_n _ _ q1, ← eh9, hu_n _ _ q1]⟩)
              · exact absurd c106 (by decide)
            · refine z_aload_n F dJ6_getChars_ba4f3_91 rfl 6 rfl ?_
              refine z_iinc (lv' := [(5, vI ((((((ix + (-1)) + (-1)) + (-1)) + (-1)) + (-1)) + (-1))), (0, vI (-((v9 / 100) / 100))), (4, vI (((-((v9 / 100) / 100)) * 100) - (-(v9 / 100)))), (3, vI (-((v9 / 100) / 100))), (6, vI 0), (1, vI ix), (2, vR v0)]) F dJ6_getChars_ba4f3_92 0 rfl (by decide) rfl ?_
              refine z_iload F dJ6_getChars_ba4f3_95 0 rfl ?_
              refine z_getTens F q460 dJ6_getChars_ba4f3_97 ?_
              refine z_iload_n F dJ6_getChars_ba4f3_100 rfl 1 rfl ?_
              refine z_ineg F dJ6_getChars_ba4f3_101 ?_
              refine z_tens F (by omega) dJ6_getChars_ba4f3_102 ?_
              obtain ⟨h29, eh29⟩ : ∃ z : Hp, hu h25 v0 (eA 4 N (fun j => vI (if j = (((((ix + (-1)) + (-1)) + (-1)) + (-1)) + (-1)) + (-1) then 48 + (-(-((v9 / 100) / 100))) / 10 else if j = ((((ix + (-1)) + (-1)) + (-1)) + (-1)) + (-1) then 48 + (-(-((v9 / 100) / 100))) % 10 else if j = (((ix + (-1)) + (-1)) + (-1)) + (-1) then 48 + (((-((v9 / 100) / 100)) * 100) - (-(v9 / 100))) / 10 else if j = ((ix + (-1)) + (-1)) + (-1) then 48 + (((-((v9 / 100) / 100)) * 100) - (-(v9 / 100))) % 10 else if j = (ix + (-1)) + (-1) then 48 + (((-(v9 / 100)) * 100) - (-v9)) / 10 else if j = ix + (-1) then 48 + (((-(v9 / 100)) * 100) - (-v9)) % 10 else t j))) = z := ⟨_, rfl⟩
              refine z_bastore (N := N) (f := fun j => if j = ((((ix + (-1)) + (-1)) + (-1)) + (-1)) + (-1) then 48 + (-(-((v9 / 100) / 100))) % 10 else if j = (((ix + (-1)) + (-1)) + (-1)) + (-1) then 48 + (((-((v9 / 100) / 100)) * 100) - (-(v9 / 100))) / 10 else if j = ((ix + (-1)) + (-1)) + (-1) then 48 + (((-((v9 / 100) / 100)) * 100) - (-(v9 / 100))) % 10 else if j = (ix + (-1)) + (-1) then 48 + (((-(v9 / 100)) * 100) - (-v9)) / 10 else if j = ix + (-1) then 48 + (((-(v9 / 100)) * 100) - (-v9)) % 10 else t j) (h' := h29) F g26 (nf_b (by omega)) (by omega) (by omega) (by omega) dJ6_getChars_ba4f3_103 eh29 ?_
              have g30 : h29 v0 = some (eA 4 N (fun j => vI (if j = (((((ix + (-1)) + (-1)) + (-1)) + (-1)) + (-1)) + (-1) then 48 + (-(-((v9 / 100) / 100))) / 10 else if j = ((((ix + (-1)) + (-1)) + (-1)) + (-1)) + (-1) then 48 + (-(-((v9 / 100) / 100))) % 10 else if j = (((ix + (-1)) + (-1)) + (-1)) + (-1) then 48 + (((-((v9 / 100) / 100)) * 100) - (-(v9 / 100))) / 10 else if j = ((ix + (-1)) + (-1)) + (-1) then 48 + (((-((v9 / 100) / 100)) * 100) - (-(v9 / 100))) % 10 else if j = (ix + (-1)) + (-1) then 48 + (((-(v9 / 100)) * 100) - (-v9)) / 10 else if j = ix + (-1) then 48 + (((-(v9 / 100)) * 100) - (-v9)) % 10 else t j))) := by rw [← eh29]; exact hu_s _ _ _
              refine z_iload F dJ6_getChars_ba4f3_104 4 rfl ?_
              refine z_if_eq (tgt := 118) F dJ6_getChars_ba4f3_106 (by decide) (by decide) (fun c106 => ?_) (fun c106 => ?_)
              · refine z_iload F dJ6_getChars_ba4f3_118 0 rfl ?_
                have hsz31 : szI v9 = 6 := by unfold szI; rw [if_neg (by omega), if_neg (by omega), if_neg (by omega), if_neg (by omega), if_neg (by omega)]
                have hdl32 : decL v9 = [48 + v9 / 100000 % 10, 48 + v9 / 10000 % 10, 48 + v9 / 1000 % 10, 48 + v9 / 100 % 10, 48 + v9 / 10 % 10, 48 + v9 / 1 % 10] := by unfold decL; rw [if_neg (by omega), if_neg (by omega), if_neg (by omega), if_neg (by omega), if_neg (by omega)]
                have hti : ∀ (i : Nat), i < 6 → (fun j => if j = (((((ix + (-1)) + (-1)) + (-1)) + (-1)) + (-1)) + (-1) then 48 + (-(-((v9 / 100) / 100))) / 10 else if j = ((((ix + (-1)) + (-1)) + (-1)) + (-1)) + (-1) then 48 + (-(-((v9 / 100) / 100))) % 10 else if j = (((ix + (-1)) + (-1)) + (-1)) + (-1) then 48 + (((-((v9 / 100) / 100)) * 100) - (-(v9 / 100))) / 10 else if j = ((ix + (-1)) + (-1)) + (-1) then 48 + (((-((v9 / 100) / 100)) * 100) - (-(v9 / 100))) % 10 else if j = (ix + (-1)) + (-1) then 48 + (((-(v9 / 100)) * 100) - (-v9)) / 10 else if j = ix + (-1) then 48 + (((-(v9 / 100)) * 100) - (-v9)) % 10 else t j) (ix - 6 + (i : Int)) = ([48 + v9 / 100000 % 10, 48 + v9 / 10000 % 10, 48 + v9 / 1000 % 10, 48 + v9 / 100 % 10, 48 + v9 / 10 % 10, 48 + v9 / 1 % 10] : List Int).getD i 0 := by
                  intro i hi
                  have hc : i = 0 ∨ i = 1 ∨ i = 2 ∨ i = 3 ∨ i = 4 ∨ i = 5 := by omega
                  rcases hc with rfl | rfl | rfl | rfl | rfl | rfl
                  · show (if (ix - 6 + ((0 : Nat) : Int)) = (((((ix + (-1)) + (-1)) + (-1)) + (-1)) + (-1)) + (-1) then 48 + (-(-((v9 / 100) / 100))) / 10 else if (ix - 6 + ((0 : Nat) : Int)) = ((((ix + (-1)) + (-1)) + (-1)) + (-1)) + (-1) then 48 + (-(-((v9 / 100) / 100))) % 10 else if (ix - 6 + ((0 : Nat) : Int)) = (((ix + (-1)) + (-1)) + (-1)) + (-1) then 48 + (((-((v9 / 100) / 100)) * 100) - (-(v9 / 100))) / 10 else if (ix - 6 + ((0 : Nat) : Int)) = ((ix + (-1)) + (-1)) + (-1) then 48 + (((-((v9 / 100) / 100)) * 100) - (-(v9 / 100))) % 10 else if (ix - 6 + ((0 : Nat) : Int)) = (ix + (-1)) + (-1) then 48 + (((-(v9 / 100)) * 100) - (-v9)) / 10 else if (ix - 6 + ((0 : Nat) : Int)) = ix + (-1) then 48 + (((-(v9 / 100)) * 100) - (-v9)) % 10 else t (ix - 6 + ((0 : Nat) : Int))) = 48 + v9 / 100000 % 10
                    omega
                  · show (if (ix - 6 + ((1 : Nat) : Int)) = (((((ix + (-1)) + (-1)) + (-1)) + (-1)) + (-1)) + (-1) then 48 + (-(-((v9 / 100) / 100))) / 10 else if (ix - 6 + ((1 : Nat) : Int)) = ((((ix + (-1)) + (-1)) + (-1)) + (-1)) + (-1) then 48 + (-(-((v9 / 100) / 100))) % 10 else if (ix - 6 + ((1 : Nat) : Int)) = (((ix + (-1)) + (-1)) + (-1)) + (-1) then 48 + (((-((v9 / 100) / 100)) * 100) - (-(v9 / 100))) / 10 else if (ix - 6 + ((1 : Nat) : Int)) = ((ix + (-1)) + (-1)) + (-1) then 48 + (((-((v9 / 100) / 100)) * 100) - (-(v9 / 100))) % 10 else if (ix - 6 + ((1 : Nat) : Int)) = (ix + (-1)) + (-1) then 48 + (((-(v9 / 100)) * 100) - (-v9)) / 10 else if (ix - 6 + ((1 : Nat) : Int)) = ix + (-1) then 48 + (((-(v9 / 100)) * 100) - (-v9)) % 10 else t (ix - 6 + ((1 : Nat) : Int))) = 48 + v9 / 10000 % 10
                    omega
                  · show (if (ix - 6 + ((2 : Nat) : Int)) = (((((ix + (-1)) + (-1)) + (-1)) + (-1)) + (-1)) + (-1) then 48 + (-(-((v9 / 100) / 100))) / 10 else if (ix - 6 + ((2 : Nat) : Int)) = ((((ix + (-1)) + (-1)) + (-1)) + (-1)) + (-1) then 48 + (-(-((v9 / 100) / 100))) % 10 else if (ix - 6 + ((2 : Nat) : Int)) = (((ix + (-1)) + (-1)) + (-1)) + (-1) then 48 + (((-((v9 / 100) / 100)) * 100) - (-(v9 / 100))) / 10 else if (ix - 6 + ((2 : Nat) : Int)) = ((ix + (-1)) + (-1)) + (-1) then 48 + (((-((v9 / 100) / 100)) * 100) - (-(v9 / 100))) % 10 else if (ix - 6 + ((2 : Nat) : Int)) = (ix + (-1)) + (-1) then 48 + (((-(v9 / 100)) * 100) - (-v9)) / 10 else if (ix - 6 + ((2 : Nat) : Int)) = ix + (-1) then 48 + (((-(v9 / 100)) * 100) - (-v9)) % 10 else t (ix - 6 + ((2 : Nat) : Int))) = 48 + v9 / 1000 % 10
                    omega
                  · show (if (ix - 6 + ((3 : Nat) : Int)) = (((((ix + (-1)) + (-1)) + (-1)) + (-1)) + (-1)) + (-1) then 48 + (-(-((v9 / 100) / 100))) / 10 else if (ix - 6 + ((3 : Nat) : Int)) = ((((ix + (-1)) + (-1)) + (-1)) + (-1)) + (-1) then 48 + (-(-((v9 / 100) / 100))) % 10 else if (ix - 6 + ((3 : Nat) : Int)) = (((ix + (-1)) + (-1)) + (-1)) + (-1) then 48 + (((-((v9 / 100) / 100)) * 100) - (-(v9 / 100))) / 10 else if (ix - 6 + ((3 : Nat) : Int)) = ((ix + (-1)) + (-1)) + (-1) then 48 + (((-((v9 / 100) / 100)) * 100) - (-(v9 / 100))) % 10 else if (ix - 6 + ((3 : Nat) : Int)) = (ix + (-1)) + (-1) then 48 + (((-(v9 / 100)) * 100) - (-v9)) / 10 else if (ix - 6 + ((3 : Nat) : Int)) = ix + (-1) then 48 + (((-(v9 / 100)) * 100) - (-v9)) % 10 else t (ix - 6 + ((3 : Nat) : Int))) = 48 + v9 / 100 % 10
                    omega
                  · show (if (ix - 6 + ((4 : Nat) : Int)) = (((((ix + (-1)) + (-1)) + (-1)) + (-1)) + (-1)) + (-1) then 48 + (-(-((v9 / 100) / 100))) / 10 else if (ix - 6 + ((4 : Nat) : Int)) = ((((ix + (-1)) + (-1)) + (-1)) + (-1)) + (-1) then 48 + (-(-((v9 / 100) / 100))) % 10 else if (ix - 6 + ((4 : Nat) : Int)) = (((ix + (-1)) + (-1)) + (-1)) + (-1) then 48 + (((-((v9 / 100) / 100)) * 100) - (-(v9 / 100))) / 10 else if (ix - 6 + ((4 : Nat) : Int)) = ((ix + (-1)) + (-1)) + (-1) then 48 + (((-((v9 / 100) / 100)) * 100) - (-(v9 / 100))) % 10 else if (ix - 6 + ((4 : Nat) : Int)) = (ix + (-1)) + (-1) then 48 + (((-(v9 / 100)) * 100) - (-v9)) / 10 else if (ix - 6 + ((4 : Nat) : Int)) = ix + (-1) then 48 + (((-(v9 / 100)) * 100) - (-v9)) % 10 else t (ix - 6 + ((4 : Nat) : Int))) = 48 + v9 / 10 % 10
                    omega
                  · show (if (ix - 6 + ((5 : Nat) : Int)) = (((((ix + (-1)) + (-1)) + (-1)) + (-1)) + (-1)) + (-1) then 48 + (-(-((v9 / 100) / 100))) / 10 else if (ix - 6 + ((5 : Nat) : Int)) = ((((ix + (-1)) + (-1)) + (-1)) + (-1)) + (-1) then 48 + (-(-((v9 / 100) / 100))) % 10 else if (ix - 6 + ((5 : Nat) : Int)) = (((ix + (-1)) + (-1)) + (-1)) + (-1) then 48 + (((-((v9 / 100) / 100)) * 100) - (-(v9 / 100))) / 10 else if (ix - 6 + ((5 : Nat) : Int)) = ((ix + (-1)) + (-1)) + (-1) then 48 + (((-((v9 / 100) / 100)) * 100) - (-(v9 / 100))) % 10 else if (ix - 6 + ((5 : Nat) : Int)) = (ix + (-1)) + (-1) then 48 + (((-(v9 / 100)) * 100) - (-v9)) / 10 else if (ix - 6 + ((5 : Nat) : Int)) = ix + (-1) then 48 + (((-(v9 / 100)) * 100) - (-v9)) % 10 else t (ix - 6 + ((5 : Nat) : Int))) = 48 + v9 / 1 % 10
                    omega
                exact z_iret (nf_i _) F hr (Nat.le_of_ble_eq_true rfl) (Nat.le_of_ble_eq_true rfl) dJ6_getChars_ba4f3_120 (⟨rI (by rw [hsz31]; omega), _, g30, fun j q1 => (by rw [hsz31] at q1; show (if j = (((((ix + (-1)) + (-1)) + (-1)) + (-1)) + (-1)) + (-1) then 48 + (-(-((v9 / 100) / 100))) / 10 else if j = ((((ix + (-1)) + (-1)) + (-1)) + (-1)) + (-1) then 48 + (-(-((v9 / 100) / 100))) % 10 else if j = (((ix + (-1)) + (-1)) + (-1)) + (-1) then 48 + (((-((v9 / 100) / 100)) * 100) - (-(v9 / 100))) / 10 else if j = ((ix + (-1)) + (-1)) + (-1) then 48 + (((-((v9 / 100) / 100)) * 100) - (-(v9 / 100))) % 10 else if j = (ix + (-1)) + (-1) then 48 + (((-(v9 / 100)) * 100) - (-v9)) / 10 else if j = ix + (-1) then 48 + (((-(v9 / 100)) * 100) - (-v9)) % 10 else t j) = t j; omega), (by rw [hsz31]; exact fun i hi => by rw [hdl32] at hi ⊢; exact hti i hi), fun j q1 q2 => (by have := ht j q1 q2; show -128 ≤ (if j = (((((ix + (-1)) + (-1)) + (-1)) + (-1)) + (-1)) + (-1) then 48 + (-(-((v9 / 100) / 100))) / 10 else if j = ((((ix + (-1)) + (-1)) + (-1)) + (-1)) + (-1) then 48 + (-(-((v9 / 100) / 100))) % 10 else if j = (((ix + (-1)) + (-1)) + (-1)) + (-1) then 48 + (((-((v9 / 100) / 100)) * 100) - (-(v9 / 100))) / 10 else if j = ((ix + (-1)) + (-1)) + (-1) then 48 + (((-((v9 / 100) / 100)) * 100) - (-(v9 / 100))) % 10 else if j = (ix + (-1)) + (-1) then 48 + (((-(v9 / 100)) * 100) - (-v9)) / 10 else if j = ix + (-1) then 48 + (((-(v9 / 100)) * 100) - (-v9)) % 10 else t j) ∧ (if j = (((((ix + (-1)) + (-1)) + (-1)) + (-1)) + (-1)) + (-1) then 48 + (-(-((v9 / 100) / 100))) / 10 else if j = ((((ix + (-1)) + (-1)) + (-1)) + (-1)) + (-1) then 48 + (-(-((v9 / 100) / 100))) % 10 else if j = (((ix + (-1)) + (-1)) + (-1)) + (-1) then 48 + (((-((v9 / 100) / 100)) * 100) - (-(v9 / 100))) / 10 else if j = ((ix + (-1)) + (-1)) + (-1) then 48 + (((-((v9 / 100) / 100)) * 100) - (-(v9 / 100))) % 10 else if j = (ix + (-1)) + (-1) then 48 + (((-(v9 / 100)) * 100) - (-v9)) / 10 else if j = ix + (-1) then 48 + (((-(v9 / 100)) * 100) - (-v9)) % 10 else t j) < 128; omega), fun x q1 => by rw [← eh29, hu_n _ _ q1, ← eh25, hu_n _ _ q1, ← eh23, hu_n _ _ q1, ← eh21, hu_n _ _ q1, ← eh11, hu_n _ _ q1, ← eh9, hu_n _ _ q1]⟩)
              · exact absurd c106 (by decide)
          · refine z_iload_n F dJ6_getChars_ba4f3_28 rfl 1 rfl ?_
            refine z_bipush F dJ6_getChars_ba4f3_29 (by decide) ?_
            refine z_idivN F dJ6_getChars_ba4f3_31 (by omega) (by omega) ?_
            refine z_istore_n (lv' := [(3, vI (-(((v9 / 100) / 100) / 100))), (5, vI ((((ix + (-1)) + (-1)) + (-1)) + (-1))), (0, vI (-((v9 / 100) / 100))), (4, vI (((-((v9 / 100) / 100)) * 100) - (-(v9 / 100)))), (6, vI 0), (1, vI ix), (2, vR v0)]) F dJ6_getChars_ba4f3_32 rfl (by decide) rfl ?_
            refine z_iload_n F dJ6_getChars_ba4f3_33 rfl 0 rfl ?_
            refine z_bipush F dJ6_getChars_ba4f3_34 (by decide) ?_
            refine z_imul F dJ6_getChars_ba4f3_36 ?_
            refine z_iload_n F dJ6_getChars_ba4f3_37 rfl 2 rfl ?_
            refine z_isub F dJ6_getChars_ba4f3_38 ?_
            refine z_istore (lv' := [(4, vI (((-(((v9 / 100) / 100) / 100)) * 100) - (-((v9 / 100) / 100)))), (3, vI (-(((v9 / 100) / 100) / 100))), (5, vI ((((ix + (-1)) + (-1)) + (-1)) + (-1))), (0, vI (-((v9 / 100) / 100))), (6, vI 0), (1, vI ix), (2, vR v0)]) F dJ6_getChars_ba4f3_39 (by decide) rfl ?_
            refine z_iload_n F dJ6_getChars_ba4f3_41 rfl 1 rfl ?_
            refine z_istore_n (lv' := [(0, vI (-(((v9 / 100) / 100) / 100))), (4, vI (((-(((v9 / 100) / 100) / 100)) * 100) - (-((v9 / 100) / 100)))), (3, vI (-(((v9 / 100) / 100) / 100))), (5, vI ((((ix + (-1)) + (-1)) + (-1)) + (-1))), (6, vI 0), (1, vI ix), (2, vR v0)]) F dJ6_getChars_ba4f3_42 rfl (by decide) rfl ?_
            refine z_aload_n F dJ6_getChars_ba4f3_43 rfl 6 rfl ?_
            refine z_iinc (lv' := [(5, vI (((((ix + (-1)) + (-1)) + (-1)) + (-1)) + (-1))), (0, vI (-(((v9 / 100) / 100) / 100))), (4, vI (((-(((v9 / 100) / 100) / 100)) * 100) - (-((v9 / 100) / 100)))), (3, vI (-(((v9 / 100) / 100) / 100))), (6, vI 0), (1, vI ix), (2, vR v0)]) F dJ6_getChars_ba4f3_44 3 rfl (by decide) rfl ?_
            refine z_iload F dJ6_getChars_ba4f3_47 0 rfl ?_
            refine z_getOnes F q458 dJ6_getChars_ba4f3_49 ?_
            refine z_iload F dJ6_getChars_ba4f3_52 2 rfl ?_
            refine z_ones F (by omega) dJ6_getChars_ba4f3_54 ?_
            obtain ⟨h33, eh33⟩ : ∃ z : Hp, hu h23 v0 (eA 4 N (fun j => vI (if j = ((((ix + (-1)) + (-1)) + (-1)) + (-1)) + (-1) then 48 + (((-(((v9 / 100) / 100) / 100)) * 100) - (-((v9 / 100) / 100))) % 10 else if j = (((ix + (-1)) + (-1)) + (-1)) + (-1) then 48 + (((-((v9 / 100) / 100)) * 100) - (-(v9 / 100))) / 10 else if j = ((ix + (-1)) + (-1)) + (-1) then 48 + (((-((v9 / 100) / 100)) * 100) - (-(v9 / 100))) % 10 else if j = (ix + (-1)) + (-1) then 48 + (((-(v9 / 100)) * 100) - (-v9)) / 10 else if j = ix + (-1) then 48 + (((-(v9 / 100)) * 100) - (-v9)) % 10 else t j))) = z := ⟨_, rfl⟩
            refine z_bastore (N := N) (f := fun j => if j = (((ix + (-1)) + (-1)) + (-1)) + (-1) then 48 + (((-((v9 / 100) / 100)) * 100) - (-(v9 / 100))) / 10 else if j = ((ix + (-1)) + (-1)) + (-1) then 48 + (((-((v9 / 100) / 100)) * 100) - (-(v9 / 100))) % 10 else if j = (ix + (-1)) + (-1) then 48 + (((-(v9 / 100)) * 100) - (-v9)) / 10 else if j = ix + (-1) then 48 + (((-(v9 / 100)) * 100) - (-v9)) % 10 else t j) (h' := h33) F g24 (nf_b (by omega)) (by omega) (by omega) (by omega) dJ6_getChars_ba4f3_55 eh33 ?_
            have g34 : h33 v0 = some (eA 4 N (fun j => vI (if j = ((((ix + (-1)) + (-1)) + (-1)) + (-1)) + (-1) then 48 + (((-(((v9 / 100) / 100) / 100)) * 100) - (-((v9 / 100) / 100))) % 10 else if j = (((ix + (-1)) + (-1)) + (-1)) + (-1) then 48 + (((-((v9 / 100) / 100)) * 100) - (-(v9 / 100))) / 10 else if j = ((ix + (-1)) + (-1)) + (-1) then 48 + (((-((v9 / 100) / 100)) * 100) - (-(v9 / 100))) % 10 else if j = (ix + (-1)) + (-1) then 48 + (((-(v9 / 100)) * 100) - (-v9)) / 10 else if j = ix + (-1) then 48 + (((-(v9 / 100)) * 100) - (-v9)) % 10 else t j))) := by rw [← eh33]; exact hu_s _ _ _
            refine z_aload_n F dJ6_getChars_ba4f3_56 rfl 6 rfl ?_
            refine z_iinc (lv' := [(5, vI ((((((ix + (-1)) + (-1)) + (-1)) + (-1)) + (-1)) + (-1))), (0, vI (-(((v9 / 100) / 100) / 100))), (4, vI (((-(((v9 / 100) / 100) / 100)) * 100) - (-((v9 / 100) / 100)))), (3, vI (-(((v9 / 100) / 100) / 100))), (6, vI 0), (1, vI ix), (2, vR v0)]) F dJ6_getChars_ba4f3_57 0 rfl (by decide) rfl ?_
            refine z_iload F dJ6_getChars_ba4f3_60 0 rfl ?_
            refine z_getTens F q460 dJ6_getChars_ba4f3_62 ?_
            refine z_iload F dJ6_getChars_ba4f3_65 2 rfl ?_
            refine z_tens F (by omega) dJ6_getChars_ba4f3_67 ?_
            obtain ⟨h35, eh35⟩ : ∃ z : Hp, hu h33 v0 (eA 4 N (fun j => vI (if j = (((((ix + (-1)) + (-1)) + (-1)) + (-1)) + (-1)) + (-1) then 48 + (((-(((v9 / 100) / 100) / 100)) * 100) - (-((v9 / 100) / 100))) / 10 else if j = ((((ix + (-1)) + (-1)) + (-1)) + (-1)) + (-1) then 48 + (((-(((v9 / 100) / 100) / 100)) * 100) - (-((v9 / 100) / 100))) % 10 else if j = (((ix + (-1)) + (-1)) + (-1)) + (-1) then 48 + (((-((v9 / 100) / 100)) * 100) - (-(v9 / 100))) / 10 else if j = ((ix + (-1)) + (-1)) + (-1) then 48 + (((-((v9 / 100) / 100)) * 100) - (-(v9 / 100))) % 10 else if j = (ix + (-1)) + (-1) then 48 + (((-(v9 / 100)) * 100) - (-v9)) / 10 else if j = ix + (-1) then 48 + (((-(v9 / 100)) * 100) - (-v9)) % 10 else t j))) = z := ⟨_, rfl⟩
            refine z_bastore (N := N) (f := fun j => if j = ((((ix + (-1)) + (-1)) + (-1)) + (-1)) + (-1) then 48 + (((-(((v9 / 100) / 100) / 100)) * 100) - (-((v9 / 100) / 100))) % 10 else if j = (((ix + (-1)) + (-1)) + (-1)) + (-1) then 48 + (((-((v9 / 100) / 100)) * 100) - (-(v9 / 100))) / 10 else if j = ((ix + (-1)) + (-1)) + (-1) then 48 + (((-((v9 / 100) / 100)) * 100) - (-(v9 / 100))) % 10 else if j = (ix + (-1)) + (-1) then 48 + (((-(v9 / 100)) * 100) - (-v9)) / 10 else if j = ix + (-1) then 48 + (((-(v9 / 100)) * 100) - (-v9)) % 10 else t j) (h' := h35) F g34 (nf_b (by omega)) (by omega) (by omega) (by omega) dJ6_getChars_ba4f3_68 eh35 ?_
            have g36 : h35 v0 = some (eA 4 N (fun j => vI (if j = (((((ix + (-1)) + (-1)) + (-1)) + (-1)) + (-1)) + (-1) then 48 + (((-(((v9 / 100) / 100) / 100)) * 100) - (-((v9 / 100) / 100))) / 10 else if j = ((((ix + (-1)) + (-1)) + (-1)) + (-1)) + (-1) then 48 + (((-(((v9 / 100) / 100) / 100)) * 100) - (-((v9 / 100) / 100))) % 10 else if j = (((ix + (-1)) + (-1)) + (-1)) + (-1) then 48 + (((-((v9 / 100) / 100)) * 100) - (-(v9 / 100))) / 10 else if j = ((ix + (-1)) + (-1)) + (-1) then 48 + (((-((v9 / 100) / 100)) * 100) - (-(v9 / 100))) % 10 else if j = (ix + (-1)) + (-1) then 48 + (((-(v9 / 100)) * 100) - (-v9)) / 10 else if j = ix + (-1) then 48 + (((-(v9 / 100)) * 100) - (-v9)) % 10 else t j))) := by rw [← eh35]; exact hu_s _ _ _
            refine z_goto (tgt := 22) F dJ6_getChars_ba4f3_69 (by decide) ?_
            exfalso; omega
  · exfalso; omega
