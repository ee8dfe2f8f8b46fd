theorem and63_ex (x : Int) : ∃ z : Int, (0 ≤ z ∧ z < 64) ∧ iI x &&& iI 63 = iI z := by
  generalize iI x = y
  have q : (y &&& iI 63).toBitVec.toNat ≤ 63 := by
    show (y.toBitVec &&& (iI 63).toBitVec).toNat ≤ 63
    rw [BitVec.toNat_and]
    exact Nat.and_le_right
  generalize y &&& iI 63 = w at q
  refine ⟨(w.toBitVec.toNat : Int), by omega, ?_⟩
  apply Int32.toBitVec_inj.mp
  show w.toBitVec = BitVec.ofInt 32 (w.toBitVec.toNat : Int)
  rw [BitVec.ofInt_natCast]
  simp
set_option maxRecDepth 100000 in
set_option maxHeartbeats 8000000 in
theorem law_loop {p : Program} {l : Launch} {e : Env} {s : State} {m : MethodId} {args : Array Value} {below : List Frame} {meth : Method} {c : Code} {G : GG} {N0 : Nat} {A : Nat → Prop} {Q : State → Prop} (F : Fx p s m args meth c RL cL_law 9 G N0 A) {b ao ad L : Nat} {xs : Nat → Int32} {gm : Nat → Nat} {gc : Int → Nat} (hl9 : l.stackTraces = false) (hcw : ∀ w ∈ tables_1, w.before args s = true) (hX : va_X b L xs s s.heap) (hbl : b < s.heap.size) (hbA : ¬ A b) (hL : L ≤ 2560) (hend : ∀ (h : Hp) (k n : Nat) (lv : List (Nat × AV)), k ≤ 603072 → n ≤ 7198826 → Z p l e room_1 s m args below meth c 9 G N0 A Q h k n 2791 lv []) : ∀ (d j : Nat) (h hm hc : Hp) (k n : Nat) (σ ρ : Sg), j ≤ 512 → j + d = 513 → k ≤ 100 + 130 * j → n ≤ 3000 + 12100 * j → HM h hm hc ao ad → RT G gm gc σ ρ hm hc → Z p l e room_1 s m args below meth c 9 G N0 A Q h k n 28 [(5, vI (5 * (j : Int))), (4, vR ad), (3, vR ao), (2, vR (gm 0)), (1, vR (gc 0)), (0, vR b)] [] := by
  intro d
  induction d with
  | zero => intro j h hm hc k n σ ρ h1 h2; exact absurd h2 (by omega)
  | succ d ih =>
    intro j h hm hc k n σ ρ h1 h2 hk hn H T
    refine z_iload F dL_law_28 0 rfl ?_
    refine z_aload_n F dL_law_30 rfl 5 rfl ?_
    refine z_slen F hX hbl hbA dL_law_31 ?_
    refine z_iconst F dL_law_32 ?_
    refine z_isub F dL_law_33 ?_
    refine z_icmp_gt (tgt := 2791) F dL_law_34 (by decide) (by omega) (by omega) (fun c9 => hend _ _ _ _ (by omega) (by omega)) (fun c9 => ?_)
    have hi : 0 ≤ (5 * (j : Int)) ∧ (5 * (j : Int)) + 5 ≤ (L : Int) := by omega
    have hk0 : k + 130 ≤ 603072 := by omega
    have hn0 : n + 12100 ≤ 7198826 := by omega
    have KK : LK p l e s m args below meth c G N0 A Q b ao ad gm gc (5 * (j : Int)) k n := by
      intro h' k' n' σ' ρ' hm' hc' q1 q2 H' T'
      refine z_iinc (lv' := [(5, vI ((5 * (j : Int)) + 5)), (4, vR ad), (3, vR ao), (2, vR (gm 0)), (1, vR (gc 0)), (0, vR b)]) F dL_law_2785 0 rfl (by decide) rfl ?_
      refine z_goto (tgt := 28) F dL_law_2788 (by decide) ?_
      have e5 : (5 * (j : Int)) + 5 = 5 * ((j + 1 : Nat) : Int) := by omega
      rw [e5]
      exact ih (j + 1) h' hm' hc' k' n' σ' ρ' (by omega) (by omega) (by omega) (by omega) H' T'
    refine z_aload_n F dL_law_37 rfl 5 rfl ?_
    refine z_iload F dL_law_38 0 rfl ?_
    refine z_sld (xs := xs) F hX hbl hbA (by omega) (by omega) (by omega) dL_law_40 ?_
    generalize (xs (5 * (j : Int)).toNat).toInt = x9
    refine z_bipush F dL_law_41 (by decide) ?_
    obtain ⟨z, hz, ez⟩ := and63_ex x9
    refine z_iand F dL_law_43 ez ?_
    by_cases z44 : 44 ≤ z
    · exact z_tableOut (tgt := 2785) F dL_law_44 (by omega) (Or.inr (by omega)) (by decide) (KK h k n σ ρ hm hc (by omega) (by omega) H T)
    have zz : z = 0 ∨ z = 1 ∨ z = 2 ∨ z = 3 ∨ z = 4 ∨ z = 5 ∨ z = 6 ∨ z = 7 ∨ z = 8 ∨ z = 9 ∨ z = 10 ∨ z = 11 ∨ z = 12 ∨ z = 13 ∨ z = 14 ∨ z = 15 ∨ z = 16 ∨ z = 17 ∨ z = 18 ∨ z = 19 ∨ z = 20 ∨ z = 21 ∨ z = 22 ∨ z = 23 ∨ z = 24 ∨ z = 25 ∨ z = 26 ∨ z = 27 ∨ z = 28 ∨ z = 29 ∨ z = 30 ∨ z = 31 ∨ z = 32 ∨ z = 33 ∨ z = 34 ∨ z = 35 ∨ z = 36 ∨ z = 37 ∨ z = 38 ∨ z = 39 ∨ z = 40 ∨ z = 41 ∨ z = 42 ∨ z = 43 := by omega
    rcases zz with rfl | rfl | rfl | rfl | rfl | rfl | rfl | rfl | rfl | rfl | rfl | rfl | rfl | rfl | rfl | rfl | rfl | rfl | rfl | rfl | rfl | rfl | rfl | rfl | rfl | rfl | rfl | rfl | rfl | rfl | rfl | rfl | rfl | rfl | rfl | rfl | rfl | rfl | rfl | rfl | rfl | rfl | rfl | rfl
    · exact z_tableIn (tgt := 236) F dL_law_44 (by decide) (by decide) (by decide) rfl (by decide) (case_now F hl9 hcw hX hbl hbA hL hi hk0 hn0 H T KK)
    · exact z_tableIn (tgt := 249) F dL_law_44 (by decide) (by decide) (by decide) rfl (by decide) (case_pass F hl9 hcw hX hbl hbA hL hi hk0 hn0 H T KK)
    · exact z_tableIn (tgt := 305) F dL_law_44 (by decide) (by decide) (by decide) rfl (by decide) (case_setRule F hl9 hcw hX hbl hbA hL hi hk0 hn0 H T KK)
    · exact z_tableIn (tgt := 363) F dL_law_44 (by decide) (by decide) (by decide) rfl (by decide) (case_addClient F hl9 hcw hX hbl hbA hL hi hk0 hn0 H T KK)
    · exact z_tableIn (tgt := 459) F dL_law_44 (by decide) (by decide) (by decide) rfl (by decide) (case_clients F hl9 hcw hX hbl hbA hL hi hk0 hn0 H T KK)
    · exact z_tableIn (tgt := 472) F dL_law_44 (by decide) (by decide) (by decide) rfl (by decide) (case_setRounding F hl9 hcw hX hbl hbA hL hi hk0 hn0 H T KK)
    · exact z_tableIn (tgt := 568) F dL_law_44 (by decide) (by decide) (by decide) rfl (by decide) (case_setRate F hl9 hcw hX hbl hbA hL hi hk0 hn0 H T KK)
    · exact z_tableIn (tgt := 636) F dL_law_44 (by decide) (by decide) (by decide) rfl (by decide) (case_setBudget F hl9 hcw hX hbl hbA hL hi hk0 hn0 H T KK)
    · exact z_tableIn (tgt := 704) F dL_law_44 (by decide) (by decide) (by decide) rfl (by decide) (case_start F hl9 hcw hX hbl hbA hL hi hk0 hn0 H T KK)
    · exact z_tableIn (tgt := 760) F dL_law_44 (by decide) (by decide) (by decide) rfl (by decide) (case_stop F hl9 hcw hX hbl hbA hL hi hk0 hn0 H T KK)
    · exact z_tableIn (tgt := 816) F dL_law_44 (by decide) (by decide) (by decide) rfl (by decide) (case_addEntry F hl9 hcw hX hbl hbA hL hi hk0 hn0 H T KK)
    · exact z_tableIn (tgt := 896) F dL_law_44 (by decide) (by decide) (by decide) rfl (by decide) (case_setStart F hl9 hcw hX hbl hbA hL hi hk0 hn0 H T KK)
    · exact z_tableIn (tgt := 964) F dL_law_44 (by decide) (by decide) (by decide) rfl (by decide) (case_setEnd F hl9 hcw hX hbl hbA hL hi hk0 hn0 H T KK)
    · exact z_tableIn (tgt := 1032) F dL_law_44 (by decide) (by decide) (by decide) rfl (by decide) (case_remove F hl9 hcw hX hbl hbA hL hi hk0 hn0 H T KK)
    · exact z_tableIn (tgt := 1088) F dL_law_44 (by decide) (by decide) (by decide) rfl (by decide) (case_entries F hl9 hcw hX hbl hbA hL hi hk0 hn0 H T KK)
    · exact z_tableIn (tgt := 1101) F dL_law_44 (by decide) (by decide) (by decide) rfl (by decide) (case_state F hl9 hcw hX hbl hbA hL hi hk0 hn0 H T KK)
    · exact z_tableIn (tgt := 1157) F dL_law_44 (by decide) (by decide) (by decide) rfl (by decide) (case_startOf F hl9 hcw hX hbl hbA hL hi hk0 hn0 H T KK)
    · exact z_tableIn (tgt := 1213) F dL_law_44 (by decide) (by decide) (by decide) rfl (by decide) (case_endOf F hl9 hcw hX hbl hbA hL hi hk0 hn0 H T KK)
    · exact z_tableIn (tgt := 1269) F dL_law_44 (by decide) (by decide) (by decide) rfl (by decide) (case_counted F hl9 hcw hX hbl hbA hL hi hk0 hn0 H T KK)
    · exact z_tableIn (tgt := 1325) F dL_law_44 (by decide) (by decide) (by decide) rfl (by decide) (case_countedByMinutes F hl9 hcw hX hbl hbA hL hi hk0 hn0 H T KK)
    · exact z_tableIn (tgt := 1381) F dL_law_44 (by decide) (by decide) (by decide) rfl (by decide) (case_writeEntry F hl9 hcw hX hbl hbA hL hi hk0 hn0 H T KK)
    · exact z_tableIn (tgt := 1437) F dL_law_44 (by decide) (by decide) (by decide) rfl (by decide) (case_charAt F hl9 hcw hX hbl hbA hL hi hk0 hn0 H T KK)
    · exact z_tableIn (tgt := 1493) F dL_law_44 (by decide) (by decide) (by decide) rfl (by decide) (case_rounded F hl9 hcw hX hbl hbA hL hi hk0 hn0 H T KK)
    · exact z_tableIn (tgt := 1549) F dL_law_44 (by decide) (by decide) (by decide) rfl (by decide) (case_daySeconds F hl9 hcw hX hbl hbA hL hi hk0 hn0 H T KK)
    · exact z_tableIn (tgt := 1617) F dL_law_44 (by decide) (by decide) (by decide) rfl (by decide) (case_daySecondsByMinutes F hl9 hcw hX hbl hbA hL hi hk0 hn0 H T KK)
    · exact z_tableIn (tgt := 1685) F dL_law_44 (by decide) (by decide) (by decide) rfl (by decide) (case_openMinutes F hl9 hcw hX hbl hbA hL hi hk0 hn0 H T KK)
    · exact z_tableIn (tgt := 1741) F dL_law_44 (by decide) (by decide) (by decide) rfl (by decide) (case_openMinutesByLines F hl9 hcw hX hbl hbA hL hi hk0 hn0 H T KK)
    · exact z_tableIn (tgt := 1797) F dL_law_44 (by decide) (by decide) (by decide) rfl (by decide) (case_invoice F hl9 hcw hX hbl hbA hL hi hk0 hn0 H T KK)
    · exact z_tableIn (tgt := 1853) F dL_law_44 (by decide) (by decide) (by decide) rfl (by decide) (case_invoices F hl9 hcw hX hbl hbA hL hi hk0 hn0 H T KK)
    · exact z_tableIn (tgt := 1866) F dL_law_44 (by decide) (by decide) (by decide) rfl (by decide) (case_lines F hl9 hcw hX hbl hbA hL hi hk0 hn0 H T KK)
    · exact z_tableIn (tgt := 1922) F dL_law_44 (by decide) (by decide) (by decide) rfl (by decide) (case_lineKind F hl9 hcw hX hbl hbA hL hi hk0 hn0 H T KK)
    · exact z_tableIn (tgt := 1990) F dL_law_44 (by decide) (by decide) (by decide) rfl (by decide) (case_lineMinutes F hl9 hcw hX hbl hbA hL hi hk0 hn0 H T KK)
    · exact z_tableIn (tgt := 2058) F dL_law_44 (by decide) (by decide) (by decide) rfl (by decide) (case_lineSubject F hl9 hcw hX hbl hbA hL hi hk0 hn0 H T KK)
    · exact z_tableIn (tgt := 2126) F dL_law_44 (by decide) (by decide) (by decide) rfl (by decide) (case_lineAmount F hl9 hcw hX hbl hbA hL hi hk0 hn0 H T KK)
    · exact z_tableIn (tgt := 2216) F dL_law_44 (by decide) (by decide) (by decide) rfl (by decide) (case_total F hl9 hcw hX hbl hbA hL hi hk0 hn0 H T KK)
    · exact z_tableIn (tgt := 2294) F dL_law_44 (by decide) (by decide) (by decide) rfl (by decide) (case_totalBits F hl9 hcw hX hbl hbA hL hi hk0 hn0 H T KK)
    · exact z_tableIn (tgt := 2350) F dL_law_44 (by decide) (by decide) (by decide) rfl (by decide) (case_totalCents F hl9 hcw hX hbl hbA hL hi hk0 hn0 H T KK)
    · exact z_tableIn (tgt := 2406) F dL_law_44 (by decide) (by decide) (by decide) rfl (by decide) (case_correct F hl9 hcw hX hbl hbA hL hi hk0 hn0 H T KK)
    · exact z_tableIn (tgt := 2474) F dL_law_44 (by decide) (by decide) (by decide) rfl (by decide) (case_usedMinutes F hl9 hcw hX hbl hbA hL hi hk0 hn0 H T KK)
    · exact z_tableIn (tgt := 2530) F dL_law_44 (by decide) (by decide) (by decide) rfl (by decide) (case_budgetShare F hl9 hcw hX hbl hbA hL hi hk0 hn0 H T KK)
    · exact z_tableIn (tgt := 2608) F dL_law_44 (by decide) (by decide) (by decide) rfl (by decide) (case_warning F hl9 hcw hX hbl hbA hL hi hk0 hn0 H T KK)
    · exact z_tableIn (tgt := 2664) F dL_law_44 (by decide) (by decide) (by decide) rfl (by decide) (case_meanMinutes F hl9 hcw hX hbl hbA hL hi hk0 hn0 H T KK)
    · exact z_tableIn (tgt := 2729) F dL_law_44 (by decide) (by decide) (by decide) rfl (by decide) (case_meanBits F hl9 hcw hX hbl hbA hL hi hk0 hn0 H T KK)
    · exact z_tableIn (tgt := 2772) F dL_law_44 (by decide) (by decide) (by decide) rfl (by decide) (case_isConsistent F hl9 hcw hX hbl hbA hL hi hk0 hn0 H T KK)
theorem SD_start {h2 hm1 : Hp} {m1 : Nat} {x : AE} (f : h2 m1 = none) (D : ∀ a, hm1 a ≠ none → hu (fun _ => none) m1 x a ≠ none ∨ hu h2 m1 x a = none) : SB hm1 (mgH (hu h2 m1 x) (hu (fun _ => none) m1 x) hm1) ∧ SB h2 (mgH (hu h2 m1 x) (hu (fun _ => none) m1 x) hm1) ∧ ∀ a, hm1 a ≠ none → h2 a = none := by
  have o1 : ∀ a, a ≠ m1 → hu (fun _ => none) m1 x a = none := fun a ha => hu_n (fun _ => none) x ha
  have o2 : ∀ a, a ≠ m1 → hu h2 m1 x a = h2 a := fun a ha => hu_n h2 x ha
  refine ⟨fun a e he => ?_, fun a e he => ?_, fun a ha => ?_⟩
  · by_cases z : a = m1
    · rw [z] at he ⊢
      rw [mgH_in (hu_s _ _ _)]; exact he
    · rcases D a (by rw [he]; exact fun w => by cases w) with q | q
      · exact absurd (o1 a z) q
      · rw [mgH_new (o1 a z) q]; exact he
  · have z : a ≠ m1 := fun z => by rw [z, f] at he; cases he
    exact mgH_out (o1 a z) (by rw [o2 a z]; exact he)
  · by_cases z : a = m1
    · rw [z]; exact f
    · rcases D a ha with q | q
      · exact absurd (o1 a z) q
      · rw [o2 a z] at q; exact q
theorem HM_start {h4 hm hc : Hp} {ao ad : Nat} (s1 : SB hm h4) (s2 : SB hc h4) (s3 : ∀ a, hm a ≠ none → hc a = none) (fa : h4 ao = none) (fd : hu h4 ao (eA 6 1 (fun _ => vL 0)) ad = none) : HM (hu (hu h4 ao (eA 6 1 (fun _ => vL 0))) ad (eA 7 1 (fun _ => vD 0))) hm hc ao ad := by
  have ne : ad ≠ ao := fun z => by rw [z, hu_s] at fd; cases fd
  have fd4 : h4 ad = none := by rw [hu_n _ _ ne] at fd; exact fd
  have non : ∀ {x : Hp} {q : Nat}, SB x h4 → h4 q = none → x q = none := fun {x q} hs hq => by
    cases e : x q with
    | none => rfl
    | some y => have := hs q y e; rw [hq] at this; cases this
  have up : ∀ {x : Hp}, SB x h4 → SB x (hu (hu h4 ao (eA 6 1 (fun _ => vL 0))) ad (eA 7 1 (fun _ => vD 0))) := fun {x} hs a e he => by
    have h := hs a e he
    have n1 : a ≠ ao := fun z => by rw [z, fa] at h; cases h
    have n2 : a ≠ ad := fun z => by rw [z, fd4] at h; cases h
    rw [hu_n _ _ n2, hu_n _ _ n1]; exact h
  exact ⟨up s1, up s2, s3, ⟨fun _ => 0, by rw [hu_n _ _ (Ne.symm ne)]; exact hu_s _ _ _⟩, ⟨fun _ => 0, hu_s _ _ _⟩, non s1 fa, non s2 fa, non s1 fd4, non s2 fd4⟩
theorem RT_start {G : GG} {gm : Nat → Nat} {gc : Int → Nat} {b : Nat} {hm hc : Hp} (mi : MI gm sig0 hm) (ci : CI G gc (iniS G b) hc) : RT G gm gc sig0 (iniS G b) hm hc := by
  have z : ∀ k j, k ≠ 1 → sig0 k j = 0 := fun k j h => if_neg h
  have e : ∀ k, k ≤ 27 → sig0 k = iniS G b k := fun k hk => by
    funext j
    unfold sig0 iniS
    by_cases h1 : k = 1
    · rw [if_pos h1, if_pos h1]
    · rw [if_neg h1, if_neg h1, if_neg (by omega), if_neg (by omega)]
  refine ⟨mi, fun k j => ?_, ci, MC_ini G b, ⟨fun k h => e k h.1, ?_⟩, ⟨?_, fun j h0 h1 => ?_, fun i h0 h1 => ?_⟩, rfl, fun j h0 h1 => absurd h1 (by show ¬ j < (0 : Int); omega)⟩
  · unfold sig0; split <;> decide
  · funext x; unfold enA; rw [e 12 (by decide), e 0 (by decide), e 11 (by decide)]
  · rw [z 29 0 (by decide)]; decide
  · rw [z 28 j (by decide)]; decide
  · rw [z 4 i (by decide), z 5 i (by decide)]; decide
set_option maxHeartbeats 8000000 in
theorem law_body {p : Program} {l : Launch} {e : Env} {s : State} {m : MethodId} {args : Array Value} {below : List Frame} {meth : Method} {c : Code} {G : GG} {N0 : Nat} {A : Nat → Prop} {Q : State → Prop} (F : Fx p s m args meth c RL cL_law 9 G N0 A) {b L : Nat} {xs : Nat → Int32} (hl9 : l.stackTraces = false) (hcw : ∀ w ∈ tables_1, w.before args s = true) (hX : va_X b L xs s s.heap) (hbl : b < s.heap.size) (hbA : ¬ A b) (hL : L ≤ 2560) (hend : ∀ (h : Hp) (k n : Nat) (lv : List (Nat × AV)), k ≤ 603072 → n ≤ 7198826 → Z p l e room_1 s m args below meth c 9 G N0 A Q h k n 2791 lv []) : Z p l e room_1 s m args below meth c 9 G N0 A Q (fun _ => none) 0 0 0 [(0, vR b)] [] := by
  refine z_new (N := 8) F nwL_8 (fun r9 h9 => by cases h9; rfl) (le_c (Nat.le_of_ble_eq_true rfl)) (le_s (Nat.le_of_ble_eq_true rfl)) dL_law_0 (fun o fo => ?_)
  refine z_dup F dL_law_3 rfl ?_
  refine z_callI (rm := { frames := 5, cells := 13, slots := 320, locals := 300 }) (As := []) (st := [vR o]) F (mX8_init l G N0 _ o (hu_s _ _ _)) ciL_148 rfl rfl ⟨le_f (Nat.le_of_ble_eq_true rfl), le_l (Nat.le_of_ble_eq_true rfl)⟩ rfl ⟨le_c (Nat.le_of_ble_eq_true rfl), le_s (Nat.le_of_ble_eq_true rfl)⟩ dL_law_4 ?_
  rintro _ h2 ⟨rfl, gc, b1, rfl, ci⟩
  show Z _ _ _ _ _ _ _ _ _ _ _ _ _ _ _ _ _ _ _ _ [vR (gc 0)]
  refine z_astore_n (lv' := [(1, vR (gc 0)), (0, vR b)]) F dL_law_7 rfl (by decide) rfl ?_
  refine z_new (N := 31) F nwL_149 (fun r9 h9 => by cases h9; rfl) (le_c (Nat.le_of_ble_eq_true rfl)) (le_s (Nat.le_of_ble_eq_true rfl)) dL_law_8 (fun m1 fm => ?_)
  refine z_dup F dL_law_11 rfl ?_
  have sb : SB (hu (fun _ => none) m1 (eO 14 [vI 0, vI 0, vI 0, vN, vN, vN, vN, vN, vI 0, vN, vN, vN, vN, vN, vN, vN, vI 0, vN, vN, vN, vN, vN, vN, vN, vI 0, vN, vN, vN, vN, vI 0, vI 0])) (hu h2 m1 (eO 14 [vI 0, vI 0, vI 0, vN, vN, vN, vN, vN, vI 0, vN, vN, vN, vN, vN, vN, vN, vI 0, vN, vN, vN, vN, vN, vN, vN, vI 0, vN, vN, vN, vN, vI 0, vI 0])) := fun a e he => by
    by_cases z : a = m1
    · rw [z, hu_s] at he ⊢; exact he
    · rw [hu_n _ _ z] at he; cases he
  refine z_callI (rm := { frames := 1, cells := 23, slots := 1701, locals := 60 }) (As := []) (st := [vR m1]) F ((mX9_init l G N0 _ m1 (hu_s (fun _ => none) m1 _)).frame sb) ciL_151 rfl rfl ⟨le_f (Nat.le_of_ble_eq_true rfl), le_l (Nat.le_of_ble_eq_true rfl)⟩ rfl ⟨le_c (Nat.le_of_ble_eq_true rfl), le_s (Nat.le_of_ble_eq_true rfl)⟩ dL_law_12 ?_
  rintro _ h4 ⟨hm1, ⟨rfl, gm, rfl, mi⟩, D, rfl⟩
  show Z _ _ _ _ _ _ _ _ _ _ _ _ _ _ _ _ _ _ _ _ [vR (gm 0)]
  obtain ⟨s1, s2, s3⟩ := SD_start fm D
  generalize mgH (hu h2 (gm 0) (eO 14 [vI 0, vI 0, vI 0, vN, vN, vN, vN, vN, vI 0, vN, vN, vN, vN, vN, vN, vN, vI 0, vN, vN, vN, vN, vN, vN, vN, vI 0, vN, vN, vN, vN, vI 0, vI 0])) (hu (fun _ => none) (gm 0) (eO 14 [vI 0, vI 0, vI 0, vN, vN, vN, vN, vN, vI 0, vN, vN, vN, vN, vN, vN, vN, vI 0, vN, vN, vN, vN, vN, vN, vN, vI 0, vN, vN, vN, vN, vI 0, vI 0])) hm1 = h4 at s1 s2 ⊢
  refine z_astore_n (lv' := [(2, vR (gm 0)), (1, vR (gc 0)), (0, vR b)]) F dL_law_15 rfl (by decide) rfl ?_
  refine z_iconst F dL_law_16 ?_
  refine z_newarr (kk := 6) (N := 1) (v0 := vL 0) (ty := .long) F rfl q1906 rfl (fun C9 h9 => by cases h9) rfl rfl (by decide) (by decide) (le_c (Nat.le_of_ble_eq_true rfl)) (le_s (Nat.le_of_ble_eq_true rfl)) dL_law_17 (fun ao fa => ?_)
  refine z_astore_n (lv' := [(3, vR ao), (2, vR (gm 0)), (1, vR (gc 0)), (0, vR b)]) F dL_law_19 rfl (by decide) rfl ?_
  refine z_iconst F dL_law_20 ?_
  refine z_newarr (kk := 7) (N := 1) (v0 := vD 0) (ty := .double) F rfl q1907 rfl (fun C9 h9 => by cases h9) rfl rfl (by decide) (by decide) (le_c (Nat.le_of_ble_eq_true rfl)) (le_s (Nat.le_of_ble_eq_true rfl)) dL_law_21 (fun ad fd => ?_)
  refine z_astore (lv' := [(4, vR ad), (3, vR ao), (2, vR (gm 0)), (1, vR (gc 0)), (0, vR b)]) F dL_law_23 (by decide) rfl ?_
  refine z_iconst F dL_law_25 ?_
  refine z_istore (lv' := [(5, vI 0), (4, vR ad), (3, vR ao), (2, vR (gm 0)), (1, vR (gc 0)), (0, vR b)]) F dL_law_26 (by decide) rfl ?_
  exact law_loop F hl9 hcw hX hbl hbA hL hend 513 0 _ _ _ _ _ _ _ (by decide) rfl (Nat.le_of_ble_eq_true rfl) (Nat.le_of_ble_eq_true rfl) (HM_start s1 s2 s3 fa fd) (RT_start mi ci)
