theorem cArr0 {G : GG} {g : Int → Nat} {ρ : Sg} {h : Hp} (hI : CI G g ρ h) (hp : 0 < ρ 33 0) : h (aA ρ 0) = some (eA 5 (ρ 33 0).toNat (cCn (ρ 2 0) (aC ρ))) := hI.at (r := 8) ((show CE g ρ 8 = cAr (ρ 33 0) (ρ 2 0) (aC ρ) from rfl).trans (if_pos hp)) rfl
theorem cGet0 (l : Launch) (G : GG) (N0 : Nat) (h : Hp) (g : Int → Nat) (ρ : Sg) (i : Int) (hI : CI G g ρ h) (hi : 0 ≤ i ∧ i < ρ 2 0) : Ct l G N0 yJx4a65c_get_915e3 (Cond.code yJx4a65c_get_915e3 cJx4a65c_get_915e3 2 (some (FieldType.object "java/lang/Object")) :: LW) ({ frames := 2, cells := 0, slots := 0, locals := 80 }) [vR (g 7), vI i] h (fun r h' => r = some (vR (aC ρ i)) ∧ h' = h) := by
  obtain ⟨hk, -⟩ := hI.2.2.1
  exact mJx4a65c_get_915e3 l G N0 h (g 7) (aA ρ 0) (ρ 33 0).toNat (ρ 32 0) (ρ 2 0) (fun j => if 0 ≤ j ∧ j < ρ 2 0 then some ((aC ρ) j) else none) i (aC ρ i) (ci_7 hI) (cArr0 hI (by omega)) hi (by omega) (if_pos hi)
theorem cArr1 {G : GG} {g : Int → Nat} {ρ : Sg} {h : Hp} (hI : CI G g ρ h) (hp : 0 < ρ 33 1) : h (aA ρ 1) = some (eA 5 (ρ 33 1).toNat (cCn (ρ 16 0) (aI ρ))) := hI.at (r := 10) ((show CE g ρ 10 = cAr (ρ 33 1) (ρ 16 0) (aI ρ) from rfl).trans (if_pos hp)) rfl
theorem cGet1 (l : Launch) (G : GG) (N0 : Nat) (h : Hp) (g : Int → Nat) (ρ : Sg) (i : Int) (hI : CI G g ρ h) (hi : 0 ≤ i ∧ i < ρ 16 0) : Ct l G N0 yJx4a65c_get_915e3 (Cond.code yJx4a65c_get_915e3 cJx4a65c_get_915e3 2 (some (FieldType.object "java/lang/Object")) :: LW) ({ frames := 2, cells := 0, slots := 0, locals := 80 }) [vR (g 9), vI i] h (fun r h' => r = some (vR (aI ρ i)) ∧ h' = h) := by
  obtain ⟨hk, -⟩ := hI.2.2.2.1
  exact mJx4a65c_get_915e3 l G N0 h (g 9) (aA ρ 1) (ρ 33 1).toNat (ρ 32 1) (ρ 16 0) (fun j => if 0 ≤ j ∧ j < ρ 16 0 then some ((aI ρ) j) else none) i (aI ρ i) (ci_9 hI) (cArr1 hI (by omega)) hi (by omega) (if_pos hi)
theorem cArr2 {G : GG} {g : Int → Nat} {ρ : Sg} {h : Hp} (hI : CI G g ρ h) (hp : 0 < ρ 33 2) : h (aA ρ 2) = some (eA 5 (ρ 33 2).toNat (cCn (ρ 24 0) (aK ρ))) := hI.at (r := 12) ((show CE g ρ 12 = cAr (ρ 33 2) (ρ 24 0) (aK ρ) from rfl).trans (if_pos hp)) rfl
theorem cGet2 (l : Launch) (G : GG) (N0 : Nat) (h : Hp) (g : Int → Nat) (ρ : Sg) (i : Int) (hI : CI G g ρ h) (hi : 0 ≤ i ∧ i < ρ 24 0) : Ct l G N0 yJx4a65c_get_915e3 (Cond.code yJx4a65c_get_915e3 cJx4a65c_get_915e3 2 (some (FieldType.object "java/lang/Object")) :: LW) ({ frames := 2, cells := 0, slots := 0, locals := 80 }) [vR (g 11), vI i] h (fun r h' => r = some (vR (aK ρ i)) ∧ h' = h) := by
  obtain ⟨hk, -⟩ := hI.2.2.2.2.1
  exact mJx4a65c_get_915e3 l G N0 h (g 11) (aA ρ 2) (ρ 33 2).toNat (ρ 32 2) (ρ 24 0) (fun j => if 0 ≤ j ∧ j < ρ 24 0 then some ((aK ρ) j) else none) i (aK ρ i) (ci_11 hI) (cArr2 hI (by omega)) hi (by omega) (if_pos hi)
theorem cArr3 {G : GG} {g : Int → Nat} {ρ : Sg} {h : Hp} (hI : CI G g ρ h) (hp : 0 < ρ 33 3) : h (aA ρ 3) = some (eA 5 (ρ 33 3).toNat (cCn (ρ 8 0) (aE ρ))) := hI.at (r := 16) ((show CE g ρ 16 = cAr (ρ 33 3) (ρ 8 0) (aE ρ) from rfl).trans (if_pos hp)) rfl
theorem cGet3 (l : Launch) (G : GG) (N0 : Nat) (h : Hp) (g : Int → Nat) (ρ : Sg) (i : Int) (hI : CI G g ρ h) (hi : 0 ≤ i ∧ i < ρ 8 0) : Ct l G N0 yJx4a65c_get_915e3 (Cond.code yJx4a65c_get_915e3 cJx4a65c_get_915e3 2 (some (FieldType.object "java/lang/Object")) :: LW) ({ frames := 2, cells := 0, slots := 0, locals := 80 }) [vR (g 15), vI i] h (fun r h' => r = some (vR (aE ρ i)) ∧ h' = h) := by
  obtain ⟨hk, -⟩ := hI.2.2.2.2.2.1
  exact mJx4a65c_get_915e3 l G N0 h (g 15) (aA ρ 3) (ρ 33 3).toNat (ρ 32 3) (ρ 8 0) (fun j => if 0 ≤ j ∧ j < ρ 8 0 then some ((aE ρ) j) else none) i (aE ρ i) (ci_15 hI) (cArr3 hI (by omega)) hi (by omega) (if_pos hi)
theorem cArr4 {G : GG} {g : Int → Nat} {ρ : Sg} {h : Hp} (hI : CI G g ρ h) (hp : 0 < ρ 33 4) : h (aA ρ 4) = some (eA 5 (ρ 33 4).toNat (cCn (ρ 36 0) (fun j => aE ρ (ρ 35 j)))) := hI.at (r := 18) ((show CE g ρ 18 = cAr (ρ 33 4) (ρ 36 0) (fun j => aE ρ (ρ 35 j)) from rfl).trans (if_pos hp)) rfl
theorem cGet4 (l : Launch) (G : GG) (N0 : Nat) (h : Hp) (g : Int → Nat) (ρ : Sg) (i : Int) (hI : CI G g ρ h) (hi : 0 ≤ i ∧ i < ρ 36 0) : Ct l G N0 yJx4a65c_get_915e3 (Cond.code yJx4a65c_get_915e3 cJx4a65c_get_915e3 2 (some (FieldType.object "java/lang/Object")) :: LW) ({ frames := 2, cells := 0, slots := 0, locals := 80 }) [vR (g 17), vI i] h (fun r h' => r = some (vR (aE ρ (ρ 35 i))) ∧ h' = h) := by
  obtain ⟨hk, -⟩ := hI.2.2.2.2.2.2.1
  exact mJx4a65c_get_915e3 l G N0 h (g 17) (aA ρ 4) (ρ 33 4).toNat (ρ 32 4) (ρ 36 0) (fun j => if 0 ≤ j ∧ j < ρ 36 0 then some ((fun j => aE ρ (ρ 35 j)) j) else none) i (aE ρ (ρ 35 i)) (ci_17 hI) (cArr4 hI (by omega)) hi (by omega) (if_pos hi)
theorem cArrL {G : GG} {g : Int → Nat} {ρ : Sg} {h : Hp} (hI : CI G g ρ h) {i : Int} (h0 : 0 ≤ i ∧ i < ρ 39 0 ∧ i < 100) (hp : 0 < ρ 48 i) : h (aM ρ i) = some (eA 5 (ρ 48 i).toNat (cCn (ρ 17 i) (fun j => aN ρ (40 * i + j)))) := hI.at (r := 600 + i) (((ce_a h0.1 h0.2.2).1.trans (if_pos h0.2.1)).trans (if_pos hp)) (ce_a h0.1 h0.2.2).2
theorem cGetL (l : Launch) (G : GG) (N0 : Nat) (h : Hp) (g : Int → Nat) (ρ : Sg) (i q : Int) (h0 : 0 ≤ i ∧ i < ρ 39 0 ∧ i < 100) (hI : CI G g ρ h) (hq : 0 ≤ q ∧ q < ρ 17 i) : Ct l G N0 yJx4a65c_get_915e3 (Cond.code yJx4a65c_get_915e3 cJx4a65c_get_915e3 2 (some (FieldType.object "java/lang/Object")) :: LW) ({ frames := 2, cells := 0, slots := 0, locals := 80 }) [vR (aL ρ i), vI q] h (fun r h' => r = some (vR (aN ρ (40 * i + q))) ∧ h' = h) := by
  obtain ⟨hk, -⟩ := hI.2.2.2.2.2.2.2.1 i h0.1 h0.2.1
  exact mJx4a65c_get_915e3 l G N0 h (aL ρ i) (aM ρ i) (ρ 48 i).toNat (ρ 47 i) (ρ 17 i) (fun j => if 0 ≤ j ∧ j < ρ 17 i then some (aN ρ (40 * i + j)) else none) q (aN ρ (40 * i + q)) (ci_l hI h0) (cArrL hI h0 (by omega)) hq (by omega) (if_pos hq)
/-- ρ with a's scratch fields -/
def mx (ρ a : Sg) : Sg := fun k => if scrB k then a k else ρ k
theorem mx_sq (ρ a : Sg) : SQ ρ (mx ρ a) := fun k hk => by
  unfold mx
  rw [hk]
  rfl
theorem mx_of {ρ ρ' : Sg} (q : SQ ρ ρ') : mx ρ ρ' = ρ' := by
  funext k
  unfold mx
  cases e : scrB k with
  | true => rfl
  | false => exact (q k e).symm
theorem CI.mx {G : GG} {g : Int → Nat} {ρ ρ' : Sg} {h : Hp} (H : CI G g ρ' h) (q : SQ ρ ρ') : CI G g (mx ρ ρ') h := H.eq (mx_of q).symm
theorem CI.n2 {G : GG} {g : Int → Nat} {ρ ρ' : Sg} {h : Hp} (H : CI G g ρ' h) (a b : Nat) (q : ∀ k, k ≠ a → k ≠ b → ρ' k = ρ k) : CI G g (sw (sw ρ a (ρ' a)) b (ρ' b)) h := H.to (fun k j => by
  unfold sw
  by_cases z : k = b
  · subst z; simp
  · by_cases w : k = a
    · subst w; simp [z]
    · simp [z, w, q k w z])
theorem rnd_e {u s : Int} (hu : 1 ≤ u ∧ u ≤ 60) (hs : 0 ≤ s) : 60 * u * (s / (60 * u)) + s % (60 * u) = s ∧ 0 ≤ s % (60 * u) ∧ s % (60 * u) < 60 * u := ⟨Int.mul_ediv_add_emod s (60 * u), Int.emod_nonneg _ (by omega), Int.emod_lt_of_pos _ (by omega)⟩
theorem div_is {a b q r : Int} (hb : 0 < b) (h : b * q + r = a) (h0 : 0 ≤ r) (h1 : r < b) : a / b = q := by
  rw [← h, Int.add_comm, Int.add_mul_ediv_left _ _ (by omega), Int.ediv_eq_zero_of_lt h0 h1, Int.zero_add]
theorem rnd_u {u mo s : Int} (hu : 1 ≤ u ∧ u ≤ 60) (hs : 0 ≤ s) (hm : mo = 117) : (s + 60 * u - 1) / (60 * u) * u = rndS u mo s := by
  obtain ⟨e, r0, r1⟩ := rnd_e hu hs
  unfold rndS
  by_cases q : 0 < s % (60 * u)
  · rw [if_pos (Or.inl ⟨hm, q⟩), div_is (q := s / (60 * u) + 1) (r := s % (60 * u) - 1) (by omega) (by rw [Int.mul_add]; omega) (by omega) (by omega), Int.mul_comm]
  · rw [if_neg (by omega), div_is (q := s / (60 * u)) (r := 60 * u - 1) (by omega) (by omega) (by omega) (by omega), Int.mul_comm]
theorem rnd_n {u mo s : Int} (hu : 1 ≤ u ∧ u ≤ 60) (hs : 0 ≤ s) (hm : mo = 110) : (2 * s + 60 * u) / (2 * (60 * u)) * u = rndS u mo s := by
  obtain ⟨e, r0, r1⟩ := rnd_e hu hs
  have e2 : ∀ q : Int, 2 * (60 * u) * q = 2 * (60 * u * q) := fun q => Int.mul_assoc _ _ _
  unfold rndS
  by_cases q : 60 * u ≤ 2 * (s % (60 * u))
  · rw [if_pos (Or.inr ⟨by omega, hm, q⟩), div_is (q := s / (60 * u) + 1) (r := 2 * (s % (60 * u)) - 60 * u) (by omega) (by rw [e2, Int.mul_add]; omega) (by omega) (by omega), Int.mul_comm]
  · rw [if_neg (by omega), div_is (q := s / (60 * u)) (r := 2 * (s % (60 * u)) + 60 * u) (by omega) (by rw [e2]; omega) (by omega) (by omega), Int.mul_comm]
theorem rnd_d {u mo s : Int} (hm : mo ≠ 117) (hn : mo ≠ 110) : s / (60 * u) * u = rndS u mo s := by
  unfold rndS
  rw [if_neg (by omega), Int.mul_comm]
set_option maxRecDepth 100000 in
set_option maxHeartbeats 4000000 in
theorem mX0_init (l : Launch) (G : GG) (N0 : Nat) (h : Hp) (o : Nat) (nu u9 mo le ra : Int) (ho : h o = some (eO 5 [vI 0, vI 0, vI 0, vI 0, vI 0, vI 0])) (r_mo : 0 ≤ mo ∧ mo < 65536) (r_le : 0 ≤ le ∧ le < 65536) : Ct l G N0 yX0_init (Cond.code yX0_init cX0_init 6 none :: LW) ({ frames := 1, cells := 0, slots := 0, locals := 60 }) [vR o, vI nu, vI u9, vI mo, vI le, vI ra] h (fun r h' => r = none ∧ h' = hu h o (eO 5 [vI nu, vI u9, vI mo, vI le, vI ra, vI 0])) := by
  refine ct_of rfl rfl ?_
  intro p e s m args below meth c F hr hnm
  have F : Fx p s m args meth c RX0 cX0_init 6 G N0 (cA h s.heap.size) := F
  show Z _ _ _ _ _ _ _ _ _ _ _ _ _ _ _ _ _ _ _ [(0, vR o), (1, vI nu), (2, vI u9), (3, vI mo), (4, vI le), (5, vI ra)] []
  refine z_aload_n F dX0_init_0 rfl 0 rfl ?_
  refine z_objInit F oiX0_3 (Nat.le_of_ble_eq_true rfl) (Nat.le_of_ble_eq_true rfl) rfl dX0_init_1 ?_
  refine z_aload_n F dX0_init_4 rfl 0 rfl ?_
  refine z_iload_n F dX0_init_5 rfl 1 rfl ?_
  obtain ⟨h1, eh1⟩ : ∃ z : Hp, hu h o (eO 5 [vI nu, vI 0, vI 0, vI 0, vI 0, vI 0]) = z := ⟨_, rfl⟩
  refine z_putF (fs := [vI 0, vI 0, vI 0, vI 0, vI 0, vI 0]) (fs' := [vI nu, vI 0, vI 0, vI 0, vI 0, vI 0]) (h' := h1) F hnm ho fX0_9 ftX0_0 (nf_i _) (Nat.le_of_ble_eq_true rfl) rfl (fun r9 h9 => by cases h9; rfl) dX0_init_6 eh1 ?_
  have g2 : h1 o = some (eO 5 [vI nu, vI 0, vI 0, vI 0, vI 0, vI 0]) := by rw [← eh1]; exact hu_s _ _ _
  refine z_aload_n F dX0_init_9 rfl 0 rfl ?_
  refine z_iload_n F dX0_init_10 rfl 2 rfl ?_
  obtain ⟨h3, eh3⟩ : ∃ z : Hp, hu h1 o (eO 5 [vI nu, vI u9, vI 0, vI 0, vI 0, vI 0]) = z := ⟨_, rfl⟩
  refine z_put (fs := [vI nu, vI 0, vI 0, vI 0, vI 0, vI 0]) (fs' := [vI nu, vI u9, vI 0, vI 0, vI 0, vI 0]) (h' := h3) F g2 fX0_15 ftX0_1 (nf_i _) (Nat.le_of_ble_eq_true rfl) rfl dX0_init_11 eh3 ?_
  have g4 : h3 o = some (eO 5 [vI nu, vI u9, vI 0, vI 0, vI 0, vI 0]) := by rw [← eh3]; exact hu_s _ _ _
  refine z_aload_n F dX0_init_14 rfl 0 rfl ?_
  refine z_iload_n F dX0_init_15 rfl 3 rfl ?_
  obtain ⟨h5, eh5⟩ : ∃ z : Hp, hu h3 o (eO 5 [vI nu, vI u9, vI mo, vI 0, vI 0, vI 0]) = z := ⟨_, rfl⟩
  refine z_put (fs := [vI nu, vI u9, vI 0, vI 0, vI 0, vI 0]) (fs' := [vI nu, vI u9, vI mo, vI 0, vI 0, vI 0]) (h' := h5) F g4 fX0_18 ftX0_2 (nf_c (by omega)) (Nat.le_of_ble_eq_true rfl) rfl dX0_init_16 eh5 ?_
  have g6 : h5 o = some (eO 5 [vI nu, vI u9, vI mo, vI 0, vI 0, vI 0]) := by rw [← eh5]; exact hu_s _ _ _
  refine z_aload_n F dX0_init_19 rfl 0 rfl ?_
  refine z_iload F dX0_init_20 4 rfl ?_
  obtain ⟨h7, eh7⟩ : ∃ z : Hp, hu h5 o (eO 5 [vI nu, vI u9, vI mo, vI le, vI 0, vI 0]) = z := ⟨_, rfl⟩
  refine z_put (fs := [vI nu, vI u9, vI mo, vI 0, vI 0, vI 0]) (fs' := [vI nu, vI u9, vI mo, vI le, vI 0, vI 0]) (h' := h7) F g6 fX0_22 ftX0_3 (nf_c (by omega)) (Nat.le_of_ble_eq_true rfl) rfl dX0_init_22 eh7 ?_
  have g8 : h7 o = some (eO 5 [vI nu, vI u9, vI mo, vI le, vI 0, vI 0]) := by rw [← eh7]; exact hu_s _ _ _
  refine z_aload_n F dX0_init_25 rfl 0 rfl ?_
  refine z_iload F dX0_init_26 5 rfl ?_
  obtain ⟨h9, eh9⟩ : ∃ z : Hp, hu h7 o (eO 5 [vI nu, vI u9, vI mo, vI le, vI ra, vI 0]) = z := ⟨_, rfl⟩
  refine z_put (fs := [vI nu, vI u9, vI mo, vI le, vI 0, vI 0]) (fs' := [vI nu, vI u9, vI mo, vI le, vI ra, vI 0]) (h' := h9) F g8 fX0_25 ftX0_4 (nf_i _) (Nat.le_of_ble_eq_true rfl) rfl dX0_init_28 eh9 ?_
  have g10 : h9 o = some (eO 5 [vI nu, vI u9, vI mo, vI le, vI ra, vI 0]) := by rw [← eh9]; exact hu_s _ _ _
  exact z_vret F hr (Nat.le_of_ble_eq_true rfl) (Nat.le_of_ble_eq_true rfl) dX0_init_31 (⟨rfl, by rw [← eh9, ← eh7, ← eh5, ← eh3, ← eh1, hu_hu, hu_hu, hu_hu, hu_hu]⟩)
set_option maxRecDepth 100000 in
set_option maxHeartbeats 4000000 in
theorem mX1_init (l : Launch) (G : GG) (N0 : Nat) (h : Hp) (o : Nat) (en : Nat) (mi : Int) (ho : h o = some (eO 6 [vN, vI 0, vI 0]))  : Ct l G N0 yX1_init (Cond.code yX1_init cX1_init 3 none :: LW) ({ frames := 1, cells := 0, slots := 0, locals := 60 }) [vR o, vR en, vI mi] h (fun r h' => r = none ∧ h' = hu h o (eO 6 [vR en, vI mi, vI 0])) := by
  refine ct_of rfl rfl ?_
  intro p e s m args below meth c F hr hnm
  have F : Fx p s m args meth c RX1 cX1_init 3 G N0 (cA h s.heap.size) := F
  show Z _ _ _ _ _ _ _ _ _ _ _ _ _ _ _ _ _ _ _ [(0, vR o), (1, vR en), (2, vI mi)] []
  refine z_aload_n F dX1_init_0 rfl 0 rfl ?_
  refine z_objInit F oiX1_1 (Nat.le_of_ble_eq_true rfl) (Nat.le_of_ble_eq_true rfl) rfl dX1_init_1 ?_
  refine z_aload_n F dX1_init_4 rfl 0 rfl ?_
  refine z_aload_n F dX1_init_5 rfl 1 rfl ?_
  obtain ⟨h1, eh1⟩ : ∃ z : Hp, hu h o (eO 6 [vR en, vI 0, vI 0]) = z := ⟨_, rfl⟩
  refine z_putF (fs := [vN, vI 0, vI 0]) (fs' := [vR en, vI 0, vI 0]) (h' := h1) F hnm ho fX1_7 ftX1_0 (nf_q _ _) (Nat.le_of_ble_eq_true rfl) rfl (fun r9 h9 => by cases h9; rfl) dX1_init_6 eh1 ?_
  have g2 : h1 o = some (eO 6 [vR en, vI 0, vI 0]) := by rw [← eh1]; exact hu_s _ _ _
  refine z_aload_n F dX1_init_9 rfl 0 rfl ?_
  refine z_iload_n F dX1_init_10 rfl 2 rfl ?_
  obtain ⟨h3, eh3⟩ : ∃ z : Hp, hu h1 o (eO 6 [vR en, vI mi, vI 0]) = z := ⟨_, rfl⟩
  refine z_putF (fs := [vR en, vI 0, vI 0]) (fs' := [vR en, vI mi, vI 0]) (h' := h3) F hnm g2 fX1_13 ftX1_1 (nf_i _) (Nat.le_of_ble_eq_true rfl) rfl (fun r9 h9 => by cases h9; rfl) dX1_init_11 eh3 ?_
  have g4 : h3 o = some (eO 6 [vR en, vI mi, vI 0]) := by rw [← eh3]; exact hu_s _ _ _
  exact z_vret F hr (Nat.le_of_ble_eq_true rfl) (Nat.le_of_ble_eq_true rfl) dX1_init_14 (⟨rfl, by rw [← eh3, ← eh1, hu_hu]⟩)
set_option maxRecDepth 100000 in
set_option maxHeartbeats 4000000 in
theorem mX2_init (l : Launch) (G : GG) (N0 : Nat) (h : Hp) (o : Nat) (nu : Int) (ow : Nat) (s9 t9 sa : Int) (ho : h o = some (eO 7 [vI 0, vN, vI 0, vI 0, vI 0, vI 0])) (r_sa : 0 ≤ sa ∧ sa < 65536) : Ct l G N0 yX2_init (Cond.code yX2_init cX2_init 6 none :: LW) ({ frames := 1, cells := 0, slots := 0, locals := 60 }) [vR o, vI nu, vR ow, vI s9, vI t9, vI sa] h (fun r h' => r = none ∧ h' = hu h o (eO 7 [vI nu, vR ow, vI s9, vI t9, vI sa, vI 0])) := by
  refine ct_of rfl rfl ?_
  intro p e s m args below meth c F hr hnm
  have F : Fx p s m args meth c RX2 cX2_init 6 G N0 (cA h s.heap.size) := F
  show Z _ _ _ _ _ _ _ _ _ _ _ _ _ _ _ _ _ _ _ [(0, vR o), (1, vI nu), (2, vR ow), (3, vI s9), (4, vI t9), (5, vI sa)] []
  refine z_aload_n F dX2_init_0 rfl 0 rfl ?_
  refine z_objInit F oiX2_3 (Nat.le_of_ble_eq_true rfl) (Nat.le_of_ble_eq_true rfl) rfl dX2_init_1 ?_
  refine z_aload_n F dX2_init_4 rfl 0 rfl ?_
  refine z_iload_n F dX2_init_5 rfl 1 rfl ?_
  obtain ⟨h1, eh1⟩ : ∃ z : Hp, hu h o (eO 7 [vI nu, vN, vI 0, vI 0, vI 0, vI 0]) = z := ⟨_, rfl⟩
  refine z_putF (fs := [vI 0, vN, vI 0, vI 0, vI 0, vI 0]) (fs' := [vI nu, vN, vI 0, vI 0, vI 0, vI 0]) (h' := h1) F hnm ho fX2_9 ftX2_0 (nf_i _) (Nat.le_of_ble_eq_true rfl) rfl (fun r9 h9 => by cases h9; rfl) dX2_init_6 eh1 ?_
  have g2 : h1 o = some (eO 7 [vI nu, vN, vI 0, vI 0, vI 0, vI 0]) := by rw [← eh1]; exact hu_s _ _ _
  refine z_aload_n F dX2_init_9 rfl 0 rfl ?_
  refine z_aload_n F dX2_init_10 rfl 2 rfl ?_
  obtain ⟨h3, eh3⟩ : ∃ z : Hp, hu h1 o (eO 7 [vI nu, vR ow, vI 0, vI 0, vI 0, vI 0]) = z := ⟨_, rfl⟩
  refine z_putF (fs := [vI nu, vN, vI 0, vI 0, vI 0, vI 0]) (fs' := [vI nu, vR ow, vI 0, vI 0, vI 0, vI 0]) (h' := h3) F hnm g2 fX2_15 ftX2_1 (nf_q _ _) (Nat.le_of_ble_eq_true rfl) rfl (fun r9 h9 => by cases h9; rfl) dX2_init_11 eh3 ?_
  have g4 : h3 o = some (eO 7 [vI nu, vR ow, vI 0, vI 0, vI 0, vI 0]) := by rw [← eh3]; exact hu_s _ _ _
  refine z_aload_n F dX2_init_14 rfl 0 rfl ?_
  refine z_iload_n F dX2_init_15 rfl 3 rfl ?_
  obtain ⟨h5, eh5⟩ : ∃ z : Hp, hu h3 o (eO 7 [vI nu, vR ow, vI s9, vI 0, vI 0, vI 0]) = z := ⟨_, rfl⟩
  refine z_put (fs := [vI nu, vR ow, vI 0, vI 0, vI 0, vI 0]) (fs' := [vI nu, vR ow, vI s9, vI 0, vI 0, vI 0]) (h' := h5) F g4 fX2_19 ftX2_2 (nf_i _) (Nat.le_of_ble_eq_true rfl) rfl dX2_init_16 eh5 ?_
  have g6 : h5 o = some (eO 7 [vI nu, vR ow, vI s9, vI 0, vI 0, vI 0]) := by rw [← eh5]; exact hu_s _ _ _
  refine z_aload_n F dX2_init_19 rfl 0 rfl ?_
  refine z_iload F dX2_init_20 4 rfl ?_
  obtain ⟨h7, eh7⟩ : ∃ z : Hp, hu h5 o (eO 7 [vI nu, vR ow, vI s9, vI t9, vI 0, vI 0]) = z := ⟨_, rfl⟩
  refine z_put (fs := [vI nu, vR ow, vI s9, vI 0, vI 0, vI 0]) (fs' := [vI nu, vR ow, vI s9, vI t9, vI 0, vI 0]) (h' := h7) F g6 fX2_22 ftX2_3 (nf_i _) (Nat.le_of_ble_eq_true rfl) rfl dX2_init_22 eh7 ?_
  have g8 : h7 o = some (eO 7 [vI nu, vR ow, vI s9, vI t9, vI 0, vI 0]) := by rw [← eh7]; exact hu_s _ _ _
  refine z_aload_n F dX2_init_25 rfl 0 rfl ?_
  refine z_iload F dX2_init_26 5 rfl ?_
  obtain ⟨h9, eh9⟩ : ∃ z : Hp, hu h7 o (eO 7 [vI nu, vR ow, vI s9, vI t9, vI sa, vI 0]) = z := ⟨_, rfl⟩
  refine z_put (fs := [vI nu, vR ow, vI s9, vI t9, vI 0, vI 0]) (fs' := [vI nu, vR ow, vI s9, vI t9, vI sa, vI 0]) (h' := h9) F g8 fX2_25 ftX2_4 (nf_c (by omega)) (Nat.le_of_ble_eq_true rfl) rfl dX2_init_28 eh9 ?_
  have g10 : h9 o = some (eO 7 [vI nu, vR ow, vI s9, vI t9, vI sa, vI 0]) := by rw [← eh9]; exact hu_s _ _ _
  exact z_vret F hr (Nat.le_of_ble_eq_true rfl) (Nat.le_of_ble_eq_true rfl) dX2_init_31 (⟨rfl, by rw [← eh9, ← eh7, ← eh5, ← eh3, ← eh1, hu_hu, hu_hu, hu_hu, hu_hu]⟩)
set_option maxRecDepth 100000 in
set_option maxHeartbeats 4000000 in
theorem mX4_init (l : Launch) (G : GG) (N0 : Nat) (h : Hp) (o : Nat) (kd mi sb : Int) (am : UInt32) (ho : h o = some (eO 9 [vI 0, vI 0, vI 0, vF 0])) (r_kd : 0 ≤ kd ∧ kd < 65536) : Ct l G N0 yX4_init (Cond.code yX4_init cX4_init 5 none :: LW) ({ frames := 1, cells := 0, slots := 0, locals := 60 }) [vR o, vI kd, vI mi, vI sb, vF am] h (fun r h' => r = none ∧ h' = hu h o (eO 9 [vI kd, vI mi, vI sb, vF am])) := by
  refine ct_of rfl rfl ?_
  intro p e s m args below meth c F hr hnm
  have F : Fx p s m args meth c RX4 cX4_init 5 G N0 (cA h s.heap.size) := F
  show Z _ _ _ _ _ _ _ _ _ _ _ _ _ _ _ _ _ _ _ [(0, vR o), (1, vI kd), (2, vI mi), (3, vI sb), (4, vF am)] []
  refine z_aload_n F dX4_init_0 rfl 0 rfl ?_
  refine z_objInit F oiX4_1 (Nat.le_of_ble_eq_true rfl) (Nat.le_of_ble_eq_true rfl) rfl dX4_init_1 ?_
  refine z_aload_n F dX4_init_4 rfl 0 rfl ?_
  refine z_iload_n F dX4_init_5 rfl 1 rfl ?_
  obtain ⟨h1, eh1⟩ : ∃ z : Hp, hu h o (eO 9 [vI kd, vI 0, vI 0, vF 0]) = z := ⟨_, rfl⟩
  refine z_putF (fs := [vI 0, vI 0, vI 0, vF 0]) (fs' := [vI kd, vI 0, vI 0, vF 0]) (h' := h1) F hnm ho fX4_7 ftX4_0 (nf_c (by omega)) (Nat.le_of_ble_eq_true rfl) rfl (fun r9 h9 => by cases h9; rfl) dX4_init_6 eh1 ?_
  have g2 : h1 o = some (eO 9 [vI kd, vI 0, vI 0, vF 0]) := by rw [← eh1]; exact hu_s _ _ _
  refine z_aload_n F dX4_init_9 rfl 0 rfl ?_
  refine z_iload_n F dX4_init_10 rfl 2 rfl ?_
  obtain ⟨h3, eh3⟩ : ∃ z : Hp, hu h1 o (eO 9 [vI kd, vI mi, vI 0, vF 0]) = z := ⟨_, rfl⟩
  refine z_putF (fs := [vI kd, vI 0, vI 0, vF 0]) (fs' := [vI kd, vI mi, vI 0, vF 0]) (h' := h3) F hnm g2 fX4_13 ftX4_1 (nf_i _) (Nat.le_of_ble_eq_true rfl) rfl (fun r9 h9 => by cases h9; rfl) dX4_init_11 eh3 ?_
  have g4 : h3 o = some (eO 9 [vI kd, vI mi, vI 0, vF 0]) := by rw [← eh3]; exact hu_s _ _ _
  refine z_aload_n F dX4_init_14 rfl 0 rfl ?_
  refine z_iload_n F dX4_init_15 rfl 3 rfl ?_
  obtain ⟨h5, eh5⟩ : ∃ z : Hp, hu h3 o (eO 9 [vI kd, vI mi, vI sb, vF 0]) = z := ⟨_, rfl⟩
  refine z_putF (fs := [vI kd, vI mi, vI 0, vF 0]) (fs' := [vI kd, vI mi, vI sb, vF 0]) (h' := h5) F hnm g4 fX4_17 ftX4_2 (nf_i _) (Nat.le_of_ble_eq_true rfl) rfl (fun r9 h9 => by cases h9; rfl) dX4_init_16 eh5 ?_
  have g6 : h5 o = some (eO 9 [vI kd, vI mi, vI sb, vF 0]) := by rw [← eh5]; exact hu_s _ _ _
  refine z_aload_n F dX4_init_19 rfl 0 rfl ?_
  refine z_fload F dX4_init_20 4 rfl ?_
  obtain ⟨h7, eh7⟩ : ∃ z : Hp, hu h5 o (eO 9 [vI kd, vI mi, vI sb, vF am]) = z := ⟨_, rfl⟩
  refine z_putF (fs := [vI kd, vI mi, vI sb, vF 0]) (fs' := [vI kd, vI mi, vI sb, vF am]) (h' := h7) F hnm g6 fX4_20 ftX4_3 (nf_f _) (Nat.le_of_ble_eq_true rfl) rfl (fun r9 h9 => by cases h9; rfl) dX4_init_22 eh7 ?_
  have g8 : h7 o = some (eO 9 [vI kd, vI mi, vI sb, vF am]) := by rw [← eh7]; exact hu_s _ _ _
  exact z_vret F hr (Nat.le_of_ble_eq_true rfl) (Nat.le_of_ble_eq_true rfl) dX4_init_25 (⟨rfl, by rw [← eh7, ← eh5, ← eh3, ← eh1, hu_hu, hu_hu, hu_hu]⟩)
set_option maxRecDepth 100000 in
set_option maxHeartbeats 4000000 in
theorem mX0_roundSeconds (l : Launch) (G : GG) (N0 : Nat) (h : Hp) (o : Nat) (nu u9 mo le ra bu s9 : Int) (ho : h o = some (eO 5 [vI nu, vI u9, vI mo, vI le, vI ra, vI bu])) (hu9 : 1 ≤ u9 ∧ u9 ≤ 60) (r_mo : 0 ≤ mo ∧ mo < 65536) (hs : 0 ≤ s9 ∧ s9 ≤ 5000000) : Ct l G N0 yX0_roundSeconds (Cond.code yX0_roundSeconds cX0_roundSeconds 3 (some FieldType.int) :: LW) ({ frames := 0, cells := 0, slots := 0, locals := 0 }) [vR o, vI s9] h (fun r h' => r = some (vI (rndS u9 mo s9)) ∧ h' = h) := by
  refine ct_of rfl rfl ?_
  intro p e s m args below meth c F hr hnm
  have F : Fx p s m args meth c RX0 cX0_roundSeconds 3 G N0 (cA h s.heap.size) := F
  show Z _ _ _ _ _ _ _ _ _ _ _ _ _ _ _ _ _ _ _ [(0, vR o), (1, vI s9)] []
  refine z_bipush F dX0_roundSeconds_0 (by decide) ?_
  refine z_aload_n F dX0_roundSeconds_2 rfl 0 rfl ?_
  refine z_get (v := vI u9) F ho fX0_15 rfl dX0_roundSeconds_3 ?_
  refine z_imul F dX0_roundSeconds_6 ?_
  refine z_istore_n (lv' := [(2, vI (60 * u9)), (0, vR o), (1, vI s9)]) F dX0_roundSeconds_7 rfl (by decide) rfl ?_
  refine z_iload_n F dX0_roundSeconds_8 rfl 0 rfl ?_
  refine z_if_gt (tgt := 14) F dX0_roundSeconds_9 (by decide) (by omega) (fun c9 => ?_) (fun c9 => ?_)
  · refine z_aload_n F dX0_roundSeconds_14 rfl 1 rfl ?_
    refine z_get (v := vI mo) F ho fX0_18 rfl dX0_roundSeconds_15 ?_
    refine z_bipush F dX0_roundSeconds_18 (by decide) ?_
    refine z_icmp_ne (tgt := 36) F dX0_roundSeconds_20 (by decide) (by omega) (by decide) (fun c20 => ?_) (fun c20 => ?_)
    · refine z_aload_n F dX0_roundSeconds_36 rfl 1 rfl ?_
      refine z_get (v := vI mo) F ho fX0_18 rfl dX0_roundSeconds_37 ?_
      refine z_bipush F dX0_roundSeconds_40 (by decide) ?_
      refine z_icmp_ne (tgt := 60) F dX0_roundSeconds_42 (by decide) (by omega) (by decide) (fun c42 => ?_) (fun c42 => ?_)
      · refine z_iload_n F dX0_roundSeconds_60 rfl 2 rfl ?_
        refine z_iload_n F dX0_roundSeconds_61 rfl 0 rfl ?_
        refine z_idiv F dX0_roundSeconds_62 (by omega) (by omega) ?_
        refine z_aload_n F dX0_roundSeconds_63 rfl 1 rfl ?_
        refine z_get (v := vI u9) F ho fX0_15 rfl dX0_roundSeconds_64 ?_
        refine z_imul F dX0_roundSeconds_67 ?_
        exact z_iret (nf_i _) F hr (Nat.le_of_ble_eq_true rfl) (Nat.le_of_ble_eq_true rfl) dX0_roundSeconds_68 (⟨rI (by first | exact rnd_u hu9 hs.1 (by omega) | exact rnd_n hu9 hs.1 (by omega) | exact rnd_d (by omega) (by omega)), rfl⟩)
      · refine z_iconst F dX0_roundSeconds_45 ?_
        refine z_iload_n F dX0_roundSeconds_46 rfl 2 rfl ?_
        refine z_imul F dX0_roundSeconds_47 ?_
        refine z_iload_n F dX0_roundSeconds_48 rfl 0 rfl ?_
        refine z_iadd F dX0_roundSeconds_49 ?_
        refine z_iconst F dX0_roundSeconds_50 ?_
        refine z_iload_n F dX0_roundSeconds_51 rfl 0 rfl ?_
        refine z_imul F dX0_roundSeconds_52 ?_
        refine z_idiv F dX0_roundSeconds_53 (by omega) (by omega) ?_
        refine z_aload_n F dX0_roundSeconds_54 rfl 1 rfl ?_
        refine z_get (v := vI u9) F ho fX0_15 rfl dX0_roundSeconds_55 ?_
        refine z_imul F dX0_roundSeconds_58 ?_
        exact z_iret (nf_i _) F hr (Nat.le_of_ble_eq_true rfl) (Nat.le_of_ble_eq_true rfl) dX0_roundSeconds_59 (⟨rI (by first | exact rnd_u hu9 hs.1 (by omega) | exact rnd_n hu9 hs.1 (by omega) | exact rnd_d (by omega) (by omega)), rfl⟩)
    · refine z_iload_n F dX0_roundSeconds_23 rfl 2 rfl ?_
      refine z_iload_n F dX0_roundSeconds_24 rfl 0 rfl ?_
      refine z_iadd F dX0_roundSeconds_25 ?_
      refine z_iconst F dX0_roundSeconds_26 ?_
      refine z_isub F dX0_roundSeconds_27 ?_
      refine z_iload_n F dX0_roundSeconds_28 rfl 0 rfl ?_
      refine z_idiv F dX0_roundSeconds_29 (by omega) (by omega) ?_
      refine z_aload_n F dX0_roundSeconds_30 rfl 1 rfl ?_
      refine z_get (v := vI u9) F ho fX0_15 rfl dX0_roundSeconds_31 ?_
      refine z_imul F dX0_roundSeconds_34 ?_
      exact z_iret (nf_i _) F hr (Nat.le_of_ble_eq_true rfl) (Nat.le_of_ble_eq_true rfl) dX0_roundSeconds_35 (⟨rI (by first | exact rnd_u hu9 hs.1 (by omega) | exact rnd_n hu9 hs.1 (by omega) | exact rnd_d (by omega) (by omega)), rfl⟩)
  · exfalso; omega
