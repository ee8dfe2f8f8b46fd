set_option maxRecDepth 100000 in
set_option maxHeartbeats 4000000 in
theorem mEnsureG (l : Launch) (G : GG) (N0 : Nat) (h : Hp) (a v0 N : Nat) (ml n : Int) (t : Int → Int) (mn : Int) (ha : h a = some (eO 1 [vR v0, vI 0, vI ml, vI n])) (hv : h v0 = some (eA 4 N (fun j => vI (t j)))) (hm : (N : Int) < mn ∧ mn ≤ 2 * N + 1 ∧ N ≤ 40) (ht : ∀ i : Int, 0 ≤ i → i < N → -128 ≤ t i ∧ t i < 128) : Ct l G N0 yJ5_ensureCapacityInternal_d00df (Cond.code yJ5_ensureCapacityInternal_d00df cJ5_ensureCapacityInternal_d00df 3 none :: LW) ({ frames := 4, cells := 1, slots := 100, locals := 200 }) [vR a, vI mn] h (fun r h' => r = none ∧ ∃ q, h q = none ∧ h' = hu (hu h q (eA 4 (2 * N + 2) (fun j => vI (cpI t (fun _ => 0) 0 0 (N : Int) j)))) a (eO 1 [vR q, vI 0, vI ml, vI n])) := by
  refine ct_of rfl rfl ?_
  intro p e s m args below meth c F hr hnm
  have F : Fx p s m args meth c RJ5 cJ5_ensureCapacityInternal_d00df 3 G N0 (cA h s.heap.size) := F
  show Z _ _ _ _ _ _ _ _ _ _ _ _ _ _ _ _ _ _ _ [(0, vR a), (1, vI mn)] []
  refine z_aload_n F dJ5_ensureCapacityInternal_d00df_0 rfl 0 rfl ?_
  refine z_get (v := vR v0) F ha fJ5_15 rfl dJ5_ensureCapacityInternal_d00df_1 ?_
  refine z_alen F hv (by decide) dJ5_ensureCapacityInternal_d00df_4 ?_
  refine z_aload_n F dJ5_ensureCapacityInternal_d00df_5 rfl 0 rfl ?_
  refine z_get (v := vI 0) F ha fJ5_22 rfl dJ5_ensureCapacityInternal_d00df_6 ?_
  refine z_ishr (z := (N : Int)) F dJ5_ensureCapacityInternal_d00df_9 (shr0 _) ?_
  refine z_istore_n (lv' := [(2, vI (N : Int)), (0, vR a), (1, vI mn)]) F dJ5_ensureCapacityInternal_d00df_10 rfl (by decide) rfl ?_
  refine z_iload_n F dJ5_ensureCapacityInternal_d00df_11 rfl 2 rfl ?_
  refine z_iload_n F dJ5_ensureCapacityInternal_d00df_12 rfl 0 rfl ?_
  refine z_isub F dJ5_ensureCapacityInternal_d00df_13 ?_
  refine z_if_le (tgt := 38) F dJ5_ensureCapacityInternal_d00df_14 (by decide) (by omega) (fun c14 => ?_) (fun c14 => ?_)
  · exfalso; omega
  · refine z_aload_n F dJ5_ensureCapacityInternal_d00df_17 rfl 1 rfl ?_
    refine z_aload_n F dJ5_ensureCapacityInternal_d00df_18 rfl 1 rfl ?_
    refine z_get (v := vR v0) F ha fJ5_15 rfl dJ5_ensureCapacityInternal_d00df_19 ?_
    refine z_aload_n F dJ5_ensureCapacityInternal_d00df_22 rfl 1 rfl ?_
    refine z_iload_n F dJ5_ensureCapacityInternal_d00df_23 rfl 2 rfl ?_
    refine z_callU (C := "java/lang/StringBuilder") (As := [vI mn]) (st := [vR v0, vR a]) F (mJ5_newCapacity_0f7a4 l G N0 h a v0 N ml n t mn (ha) (hv) (by omega)) cuJ5_104 clJ5_104 ha (fun r9 h9 => by cases h9; rfl) rfl rfl ⟨Nat.le_of_ble_eq_true rfl, Nat.le_of_ble_eq_true rfl⟩ rfl ⟨Nat.le_of_ble_eq_true rfl, Nat.le_of_ble_eq_true rfl⟩ dJ5_ensureCapacityInternal_d00df_24 ?_
    rintro _ h9 ⟨rfl, hh9⟩
    rw [hh9]
    clear hh9 h9
    show Z _ _ _ _ _ _ _ _ _ _ _ _ _ _ _ _ _ _ _ _ [vI ((N : Int) + (if mn - (N : Int) < (N : Int) + 2 then (N : Int) + 2 else mn - (N : Int))), vR v0, vR a]
    refine z_aload_n F dJ5_ensureCapacityInternal_d00df_27 rfl 1 rfl ?_
    refine z_get (v := vI 0) F ha fJ5_22 rfl dJ5_ensureCapacityInternal_d00df_28 ?_
    refine z_ishl (z := (N : Int) + (if mn - (N : Int) < (N : Int) + 2 then (N : Int) + 2 else mn - (N : Int))) F dJ5_ensureCapacityInternal_d00df_31 (shl0 _) ?_
    obtain ⟨N1, hN1, hN2⟩ : ∃ N1 : Nat, (N1 : Int) = (N : Int) + (if mn - (N : Int) < (N : Int) + 2 then (N : Int) + 2 else mn - (N : Int)) ∧ N1 = 2 * N + 2 := ⟨2 * N + 2, by omega, rfl⟩
    rw [← hN1]
    refine z_callS (As := [vR v0, vI (N1 : Int)]) (st := [vR a]) F (mJ7_copyOf_9075b l G N0 h v0 N N1 t hv (by omega) ht) csJ5_108 rfl rfl ⟨Nat.le_of_ble_eq_true rfl, Nat.le_of_ble_eq_true rfl⟩ rfl ⟨Nat.le_of_ble_eq_true rfl, Nat.le_of_ble_eq_true rfl⟩ dJ5_ensureCapacityInternal_d00df_32 ?_
    rintro _ h9 ⟨q, rfl, fq, k9⟩
    have ga9 : h9 a = some (eO 1 [vR v0, vI 0, vI ml, vI n]) := by rw [k9, hu_n _ _ (fresh_ne fq ha)]; exact ha
    show Z _ _ _ _ _ _ _ _ _ _ _ _ _ _ _ _ _ _ _ _ [vR q, vR a]
    obtain ⟨h1, eh1⟩ : ∃ z : Hp, hu h9 a (eO 1 [vR q, vI 0, vI ml, vI n]) = z := ⟨_, rfl⟩
    refine z_put (fs := [vR v0, vI 0, vI ml, vI n]) (fs' := [vR q, vI 0, vI ml, vI n]) (h' := h1) F ga9 fJ5_15 ftJ4_0 (nf_a _ _) (Nat.le_of_ble_eq_true rfl) rfl dJ5_ensureCapacityInternal_d00df_35 eh1 ?_
    have g2 : h1 a = some (eO 1 [vR q, vI 0, vI ml, vI n]) := by rw [← eh1]; exact hu_s _ _ _
    exact z_vret F hr (Nat.le_of_ble_eq_true rfl) (Nat.le_of_ble_eq_true rfl) dJ5_ensureCapacityInternal_d00df_38 (⟨rfl, q, fq, by rw [← eh1, k9, hN2]⟩)
