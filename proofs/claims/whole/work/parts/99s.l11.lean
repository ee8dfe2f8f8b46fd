theorem tb {args : Array Value} {s : State} (hts : ∀ w ∈ lw_tbl, w.before args s = true) {w : Cond} (i : Nat) (h : tables_1[i]? = some w) : w.before args s = true := hts w (List.mem_append_right _ (List.mem_of_getElem? h))
theorem fb9 {args : Array Value} {s : State} (hgv : (Jvm.Cond.and given_1 narrow_1).before args s = true) {w : Cond} (i : Nat) (h : (flatC (Jvm.Cond.and given_1 narrow_1))[i]? = some w) : w.before args s = true := flat_of_before _ hgv _ (List.mem_of_getElem? h)
theorem tbm {w : Cond} (i : Nat) (h : tables_1[i]? = some w) : w ∈ lw_tbl := List.mem_append_right _ (List.mem_of_getElem? h)
theorem arr_of {args : Array Value} {s : State} {ty : FieldType} (h : (Cond.arrayClass ty).before args s = true) (hno : ∀ C, ty ≠ .object C) : ∃ cA, ArrOfT s cA ty ∧ va_RA s cA ty := by
  obtain ⟨cA, kA, comp, h1, h2, h3⟩ := Cond.arrayClass_spec h
  refine ⟨cA, fun n z => ⟨fun k h => (by cases h), kA, h2, comp, h3⟩, ?_⟩
  cases ty with
  | object C => exact absurd rfl (hno C)
  | _ => exact h1
theorem arr_obj {args : Array Value} {s : State} {C : String} (h : (Cond.arrayOver (.object C)).before args s = true) : ∃ cA, ArrOfT s cA (.object C) ∧ va_RA s cA (.object C) := by
  obtain ⟨comp, c, k, f1, f2, f3, f4, f5⟩ := Cond.arrayOver_spec h
  exact ⟨c, fun n z => ⟨fun k h => (by cases h), k, f3, comp, f4⟩, k, comp, f3, f4, f1, f5⟩
theorem str_of {args : Array Value} {s : State} {cur : ClassId} (hcur : s.vm.findClass "TimerLedger" = some cur) {k : Nat} {tx : String} (h : (Cond.stringRef "TimerLedger" k tx).before args s = true) : ∃ a, vk_R "TimerLedger" k tx a s := by
  obtain ⟨_, _, _, a, _, _, _, _, _, hev⟩ := Cond.stringRef_spec hcur h
  exact ⟨a, vk_R.of h hev⟩
theorem dig_ones : ((flatC (Jvm.Cond.and given_1 narrow_1)).drop 18).take 100 = (List.range 100).map (fun j => Cond.eq (.elem (.static "java/lang/Integer" "DigitOnes" "[B") (.int (Int32.ofNat j))) (.int (iI (48 + (j : Int) % 10)))) := by decide +kernel
theorem dig_tens : ((flatC (Jvm.Cond.and given_1 narrow_1)).drop 121).take 100 = (List.range 100).map (fun j => Cond.eq (.elem (.static "java/lang/Integer" "DigitTens" "[B") (.int (Int32.ofNat j))) (.int (iI (48 + (j : Int) / 10)))) := by decide +kernel
theorem dig_of {args : Array Value} {s : State} (hgv : (Jvm.Cond.and given_1 narrow_1).before args s = true) {g : Nat → Cond} {n : Nat} (e : ((flatC (Jvm.Cond.and given_1 narrow_1)).drop n).take 100 = (List.range 100).map g) (j : Nat) (hj : j < 100) : (g j).before args s = true :=
  flat_of_before _ hgv _ (List.mem_of_mem_drop (List.mem_of_mem_take (by rw [e]; exact List.mem_map.mpr ⟨j, List.mem_range.mpr hj, rfl⟩)))
theorem iw_J0 : ∀ w ∈ u_ws RJ0 TJ0 4, w ∈ lw_tbl := by
  intro w hw
  obtain ⟨k, hk, rfl⟩ := List.mem_map.mp hw
  have hk := List.mem_range.mp hk
  match k, hk with
  | 0, _ => exact tbm 562 (by decide +kernel)
  | 1, _ => exact tbm 564 (by decide +kernel)
  | 2, _ => exact tbm 566 (by decide +kernel)
  | 3, _ => exact tbm 568 (by decide +kernel)
  | k + 4, h => exact absurd h (by omega)
theorem iw_J4 : ∀ w ∈ u_ws RJ4 TJ4 4, w ∈ lw_tbl := by
  intro w hw
  obtain ⟨k, hk, rfl⟩ := List.mem_map.mp hw
  have hk := List.mem_range.mp hk
  match k, hk with
  | 0, _ => exact tbm 160 (by decide +kernel)
  | 1, _ => exact tbm 162 (by decide +kernel)
  | 2, _ => exact tbm 164 (by decide +kernel)
  | 3, _ => exact tbm 166 (by decide +kernel)
  | k + 4, h => exact absurd h (by omega)
theorem iw_Jx00060 : ∀ w ∈ u_ws RJx00060 TJx00060 6, w ∈ lw_tbl := by
  intro w hw
  obtain ⟨k, hk, rfl⟩ := List.mem_map.mp hw
  have hk := List.mem_range.mp hk
  match k, hk with
  | 0, _ => exact tbm 833 (by decide +kernel)
  | 1, _ => exact tbm 834 (by decide +kernel)
  | 2, _ => exact tbm 835 (by decide +kernel)
  | 3, _ => exact tbm 836 (by decide +kernel)
  | 4, _ => exact tbm 837 (by decide +kernel)
  | 5, _ => exact tbm 838 (by decide +kernel)
  | k + 6, h => exact absurd h (by omega)
theorem iw_Jx7c733 : ∀ w ∈ u_ws RJx7c733 TJx7c733 6, w ∈ lw_tbl := by
  intro w hw
  obtain ⟨k, hk, rfl⟩ := List.mem_map.mp hw
  have hk := List.mem_range.mp hk
  match k, hk with
  | 0, _ => exact tbm 1049 (by decide +kernel)
  | 1, _ => exact tbm 1050 (by decide +kernel)
  | 2, _ => exact tbm 1051 (by decide +kernel)
  | 3, _ => exact tbm 1052 (by decide +kernel)
  | 4, _ => exact tbm 1053 (by decide +kernel)
  | 5, _ => exact tbm 1054 (by decide +kernel)
  | k + 6, h => exact absurd h (by omega)
theorem iw_Jx4a65c : ∀ w ∈ u_ws RJx4a65c TJx4a65c 3, w ∈ lw_tbl := by
  intro w hw
  obtain ⟨k, hk, rfl⟩ := List.mem_map.mp hw
  have hk := List.mem_range.mp hk
  match k, hk with
  | 0, _ => exact tbm 76 (by decide +kernel)
  | 1, _ => exact tbm 72 (by decide +kernel)
  | 2, _ => exact tbm 74 (by decide +kernel)
  | k + 3, h => exact absurd h (by omega)
theorem iw_X0 : ∀ w ∈ u_ws RX0 TX0 6, w ∈ lw_tbl := by
  intro w hw
  obtain ⟨k, hk, rfl⟩ := List.mem_map.mp hw
  have hk := List.mem_range.mp hk
  match k, hk with
  | 0, _ => exact tbm 804 (by decide +kernel)
  | 1, _ => exact tbm 806 (by decide +kernel)
  | 2, _ => exact tbm 808 (by decide +kernel)
  | 3, _ => exact tbm 810 (by decide +kernel)
  | 4, _ => exact tbm 812 (by decide +kernel)
  | 5, _ => exact tbm 814 (by decide +kernel)
  | k + 6, h => exact absurd h (by omega)
theorem iw_X1 : ∀ w ∈ u_ws RX1 TX1 3, w ∈ lw_tbl := by
  intro w hw
  obtain ⟨k, hk, rfl⟩ := List.mem_map.mp hw
  have hk := List.mem_range.mp hk
  match k, hk with
  | 0, _ => exact tbm 1385 (by decide +kernel)
  | 1, _ => exact tbm 1387 (by decide +kernel)
  | 2, _ => exact tbm 1389 (by decide +kernel)
  | k + 3, h => exact absurd h (by omega)
theorem iw_X2 : ∀ w ∈ u_ws RX2 TX2 6, w ∈ lw_tbl := by
  intro w hw
  obtain ⟨k, hk, rfl⟩ := List.mem_map.mp hw
  have hk := List.mem_range.mp hk
  match k, hk with
  | 0, _ => exact tbm 915 (by decide +kernel)
  | 1, _ => exact tbm 917 (by decide +kernel)
  | 2, _ => exact tbm 919 (by decide +kernel)
  | 3, _ => exact tbm 921 (by decide +kernel)
  | 4, _ => exact tbm 923 (by decide +kernel)
  | 5, _ => exact tbm 925 (by decide +kernel)
  | k + 6, h => exact absurd h (by omega)
theorem iw_X3 : ∀ w ∈ u_ws RX3 TX3 4, w ∈ lw_tbl := by
  intro w hw
  obtain ⟨k, hk, rfl⟩ := List.mem_map.mp hw
  have hk := List.mem_range.mp hk
  match k, hk with
  | 0, _ => exact tbm 1235 (by decide +kernel)
  | 1, _ => exact tbm 1237 (by decide +kernel)
  | 2, _ => exact tbm 1239 (by decide +kernel)
  | 3, _ => exact tbm 1241 (by decide +kernel)
  | k + 4, h => exact absurd h (by omega)
theorem iw_X4 : ∀ w ∈ u_ws RX4 TX4 4, w ∈ lw_tbl := by
  intro w hw
  obtain ⟨k, hk, rfl⟩ := List.mem_map.mp hw
  have hk := List.mem_range.mp hk
  match k, hk with
  | 0, _ => exact tbm 1270 (by decide +kernel)
  | 1, _ => exact tbm 1272 (by decide +kernel)
  | 2, _ => exact tbm 1274 (by decide +kernel)
  | 3, _ => exact tbm 1276 (by decide +kernel)
  | k + 4, h => exact absurd h (by omega)
theorem iw_X5 : ∀ w ∈ u_ws RX5 TX5 3, w ∈ lw_tbl := by
  intro w hw
  obtain ⟨k, hk, rfl⟩ := List.mem_map.mp hw
  have hk := List.mem_range.mp hk
  match k, hk with
  | 0, _ => exact tbm 128 (by decide +kernel)
  | 1, _ => exact tbm 130 (by decide +kernel)
  | 2, _ => exact tbm 132 (by decide +kernel)
  | k + 3, h => exact absurd h (by omega)
theorem iw_X6 : ∀ w ∈ u_ws RX6 TX6 4, w ∈ lw_tbl := by
  intro w hw
  obtain ⟨k, hk, rfl⟩ := List.mem_map.mp hw
  have hk := List.mem_range.mp hk
  match k, hk with
  | 0, _ => exact tbm 106 (by decide +kernel)
  | 1, _ => exact tbm 108 (by decide +kernel)
  | 2, _ => exact tbm 110 (by decide +kernel)
  | 3, _ => exact tbm 112 (by decide +kernel)
  | k + 4, h => exact absurd h (by omega)
theorem iw_X7 : ∀ w ∈ u_ws RX7 TX7 3, w ∈ lw_tbl := by
  intro w hw
  obtain ⟨k, hk, rfl⟩ := List.mem_map.mp hw
  have hk := List.mem_range.mp hk
  match k, hk with
  | 0, _ => exact tbm 89 (by decide +kernel)
  | 1, _ => exact tbm 91 (by decide +kernel)
  | 2, _ => exact tbm 93 (by decide +kernel)
  | k + 3, h => exact absurd h (by omega)
theorem iw_X8 : ∀ w ∈ u_ws RX8 TX8 8, w ∈ lw_tbl := by
  intro w hw
  obtain ⟨k, hk, rfl⟩ := List.mem_map.mp hw
  have hk := List.mem_range.mp hk
  match k, hk with
  | 0, _ => exact tbm 178 (by decide +kernel)
  | 1, _ => exact tbm 180 (by decide +kernel)
  | 2, _ => exact tbm 182 (by decide +kernel)
  | 3, _ => exact tbm 184 (by decide +kernel)
  | 4, _ => exact tbm 186 (by decide +kernel)
  | 5, _ => exact tbm 188 (by decide +kernel)
  | 6, _ => exact tbm 190 (by decide +kernel)
  | 7, _ => exact tbm 192 (by decide +kernel)
  | k + 8, h => exact absurd h (by omega)
theorem iw_X9 : ∀ w ∈ u_ws RX9 TX9 31, w ∈ lw_tbl := by
  intro w hw
  obtain ⟨k, hk, rfl⟩ := List.mem_map.mp hw
  have hk := List.mem_range.mp hk
  match k, hk with
  | 0, _ => exact tbm 1506 (by decide +kernel)
  | 1, _ => exact tbm 1508 (by decide +kernel)
  | 2, _ => exact tbm 1510 (by decide +kernel)
  | 3, _ => exact tbm 1512 (by decide +kernel)
  | 4, _ => exact tbm 1514 (by decide +kernel)
  | 5, _ => exact tbm 1516 (by decide +kernel)
  | 6, _ => exact tbm 1518 (by decide +kernel)
  | 7, _ => exact tbm 1520 (by decide +kernel)
  | 8, _ => exact tbm 1522 (by decide +kernel)
  | 9, _ => exact tbm 1524 (by decide +kernel)
  | 10, _ => exact tbm 1526 (by decide +kernel)
  | 11, _ => exact tbm 1528 (by decide +kernel)
  | 12, _ => exact tbm 1530 (by decide +kernel)
  | 13, _ => exact tbm 1532 (by decide +kernel)
  | 14, _ => exact tbm 1534 (by decide +kernel)
  | 15, _ => exact tbm 1536 (by decide +kernel)
  | 16, _ => exact tbm 1538 (by decide +kernel)
  | 17, _ => exact tbm 1540 (by decide +kernel)
  | 18, _ => exact tbm 1542 (by decide +kernel)
  | 19, _ => exact tbm 1544 (by decide +kernel)
  | 20, _ => exact tbm 1546 (by decide +kernel)
  | 21, _ => exact tbm 1548 (by decide +kernel)
  | 22, _ => exact tbm 1550 (by decide +kernel)
  | 23, _ => exact tbm 1552 (by decide +kernel)
  | 24, _ => exact tbm 1554 (by decide +kernel)
  | 25, _ => exact tbm 1556 (by decide +kernel)
  | 26, _ => exact tbm 1558 (by decide +kernel)
  | 27, _ => exact tbm 1560 (by decide +kernel)
  | 28, _ => exact tbm 1562 (by decide +kernel)
  | 29, _ => exact tbm 1564 (by decide +kernel)
  | 30, _ => exact tbm 1566 (by decide +kernel)
  | k + 31, h => exact absurd h (by omega)
set_option maxHeartbeats 4000000 in
theorem start_K {args : Array Value} {s : State} (hts : ∀ w ∈ lw_tbl, w.before args s = true) : ∃ (D : va_G) (ca : Nat → ClassId), va_K D kCl (kTys ca) s := by
  obtain ⟨c0, i0, kn0⟩ := u_known (C := RJ0) (T := TJ0) (N := 4) (n := 4) hts iw_J0 (tb hts 476 (by decide +kernel))
  obtain ⟨c1, i1, kn1⟩ := u_known (C := RJ4) (T := TJ4) (N := 4) (n := 4) hts iw_J4 (tb hts 138 (by decide +kernel))
  obtain ⟨c2, i2, kn2⟩ := u_known (C := RJx00060) (T := TJx00060) (N := 6) (n := 6) hts iw_Jx00060 (tb hts 829 (by decide +kernel))
  obtain ⟨c3, i3, kn3⟩ := u_known (C := RJx7c733) (T := TJx7c733) (N := 6) (n := 6) hts iw_Jx7c733 (tb hts 1038 (by decide +kernel))
  obtain ⟨c4, i4, kn4⟩ := u_known (C := RJx4a65c) (T := TJx4a65c) (N := 3) (n := 3) hts iw_Jx4a65c (tb hts 54 (by decide +kernel))
  obtain ⟨c5, i5, kn5⟩ := u_known (C := RX0) (T := TX0) (N := 6) (n := 6) hts iw_X0 (tb hts 786 (by decide +kernel))
  obtain ⟨c6, i6, kn6⟩ := u_known (C := RX1) (T := TX1) (N := 3) (n := 3) hts iw_X1 (tb hts 1374 (by decide +kernel))
  obtain ⟨c7, i7, kn7⟩ := u_known (C := RX2) (T := TX2) (N := 6) (n := 6) hts iw_X2 (tb hts 887 (by decide +kernel))
  obtain ⟨c8, i8, kn8⟩ := u_known (C := RX3) (T := TX3) (N := 4) (n := 4) hts iw_X3 (tb hts 1220 (by decide +kernel))
  obtain ⟨c9, i9, kn9⟩ := u_known (C := RX4) (T := TX4) (N := 4) (n := 4) hts iw_X4 (tb hts 1255 (by decide +kernel))
  obtain ⟨c10, i10, kn10⟩ := u_known (C := RX5) (T := TX5) (N := 3) (n := 3) hts iw_X5 (tb hts 117 (by decide +kernel))
  obtain ⟨c11, i11, kn11⟩ := u_known (C := RX6) (T := TX6) (N := 4) (n := 4) hts iw_X6 (tb hts 97 (by decide +kernel))
  obtain ⟨c12, i12, kn12⟩ := u_known (C := RX7) (T := TX7) (N := 3) (n := 3) hts iw_X7 (tb hts 48 (by decide +kernel))
  obtain ⟨c13, i13, kn13⟩ := u_known (C := RX8) (T := TX8) (N := 8) (n := 8) hts iw_X8 (tb hts 40 (by decide +kernel))
  obtain ⟨c14, i14, kn14⟩ := u_known (C := RX9) (T := TX9) (N := 31) (n := 31) hts iw_X9 (tb hts 1470 (by decide +kernel))
  obtain ⟨a0, ar0⟩ := arr_of (ty := .int) (tb hts 115 (by decide +kernel)) (fun C h => by cases h)
  obtain ⟨a1, ar1⟩ := arr_of (ty := .char) (tb hts 1569 (by decide +kernel)) (fun C h => by cases h)
  obtain ⟨a2, ar2⟩ := arr_of (ty := .float) (tb hts 1570 (by decide +kernel)) (fun C h => by cases h)
  obtain ⟨a3, ar3⟩ := arr_of (ty := .boolean) (tb hts 1571 (by decide +kernel)) (fun C h => by cases h)
  obtain ⟨a4, ar4⟩ := arr_of (ty := .byte) (tb hts 169 (by decide +kernel)) (fun C h => by cases h)
  obtain ⟨a5, ar5⟩ := arr_obj (C := "java/lang/Object") (tb hts 617 (by decide +kernel))
  obtain ⟨a6, ar6⟩ := arr_of (ty := .long) (tb hts 1906 (by decide +kernel)) (fun C h => by cases h)
  obtain ⟨a7, ar7⟩ := arr_of (ty := .double) (tb hts 1907 (by decide +kernel)) (fun C h => by cases h)
  refine ⟨(fun k => ([c0, c1, c2, c3, c4, c5, c6, c7, c8, c9, c10, c11, c12, c13, c14] : List ClassId).getD k c0, fun k => ([i0, i1, i2, i3, i4, i5, i6, i7, i8, i9, i10, i11, i12, i13, i14] : List (Nat → Nat)).getD k i0), fun k => ([a0, a1, a2, a3, a4, a5, a6, a7] : List ClassId).getD k a0, fun k q hq => ?_, fun k q hq => ?_⟩
  · match k, hq with
    | 0, hq => cases hq; exact kn0
    | 1, hq => cases hq; exact kn1
    | 2, hq => cases hq; exact kn2
    | 3, hq => cases hq; exact kn3
    | 4, hq => cases hq; exact kn4
    | 5, hq => cases hq; exact kn5
    | 6, hq => cases hq; exact kn6
    | 7, hq => cases hq; exact kn7
    | 8, hq => cases hq; exact kn8
    | 9, hq => cases hq; exact kn9
    | 10, hq => cases hq; exact kn10
    | 11, hq => cases hq; exact kn11
    | 12, hq => cases hq; exact kn12
    | 13, hq => cases hq; exact kn13
    | 14, hq => cases hq; exact kn14
    | k + 15, hq => exact absurd hq (by simp [kCl])
  · match k, hq with
    | 0, hq => cases hq; exact ar0
    | 1, hq => cases hq; exact ar1
    | 2, hq => cases hq; exact ar2
    | 3, hq => cases hq; exact ar3
    | 4, hq => cases hq; exact ar4
    | 5, hq => cases hq; exact ar5
    | 6, hq => cases hq; exact ar6
    | 7, hq => cases hq; exact ar7
    | k + 8, hq => exact absurd hq (by simp [kTys])
theorem start_str {args : Array Value} {s : State} (hts : ∀ w ∈ lw_tbl, w.before args s = true) : ∀ q ∈ strL, ∃ a, vk_R q.1 q.2.1 q.2.2 a s := by
  obtain ⟨cur, k9, hcur, -⟩ := Cond.instantiable_spec (tb hts 40 (by decide +kernel) : (Cond.instantiable "TimerLedger" 8).before args s = true)
  exact List.forall_mem_cons.mpr ⟨str_of hcur (tb hts 735 (by decide +kernel)), List.forall_mem_cons.mpr ⟨str_of hcur (tb hts 746 (by decide +kernel)), List.forall_mem_cons.mpr ⟨str_of hcur (tb hts 764 (by decide +kernel)), List.forall_mem_cons.mpr ⟨str_of hcur (tb hts 776 (by decide +kernel)), List.forall_mem_cons.mpr ⟨str_of hcur (tb hts 777 (by decide +kernel)), List.forall_mem_cons.mpr ⟨str_of hcur (tb hts 778 (by decide +kernel)), List.forall_mem_cons.mpr ⟨str_of hcur (tb hts 784 (by decide +kernel)), List.forall_mem_cons.mpr ⟨str_of hcur (tb hts 785 (by decide +kernel)), List.forall_mem_cons.mpr ⟨str_of hcur (tb hts 853 (by decide +kernel)), List.forall_mem_cons.mpr ⟨str_of hcur (tb hts 869 (by decide +kernel)), List.forall_mem_cons.mpr ⟨str_of hcur (tb hts 881 (by decide +kernel)), List.forall_mem_cons.mpr ⟨str_of hcur (tb hts 882 (by decide +kernel)), List.forall_mem_cons.mpr ⟨str_of hcur (tb hts 940 (by decide +kernel)), List.forall_mem_cons.mpr ⟨str_of hcur (tb hts 941 (by decide +kernel)), List.forall_mem_cons.mpr ⟨str_of hcur (tb hts 949 (by decide +kernel)), List.forall_mem_cons.mpr ⟨str_of hcur (tb hts 965 (by decide +kernel)), List.forall_mem_cons.mpr ⟨str_of hcur (tb hts 966 (by decide +kernel)), List.forall_mem_cons.mpr ⟨str_of hcur (tb hts 974 (by decide +kernel)), List.forall_mem_cons.mpr ⟨str_of hcur (tb hts 975 (by decide +kernel)), List.forall_mem_cons.mpr ⟨str_of hcur (tb hts 1111 (by decide +kernel)), List.forall_mem_cons.mpr ⟨str_of hcur (tb hts 1139 (by decide +kernel)), List.forall_mem_cons.mpr ⟨str_of hcur (tb hts 1162 (by decide +kernel)), List.forall_mem_cons.mpr ⟨str_of hcur (tb hts 1206 (by decide +kernel)), List.forall_mem_cons.mpr ⟨str_of hcur (tb hts 1219 (by decide +kernel)), List.forall_mem_cons.mpr ⟨str_of hcur (tb hts 1303 (by decide +kernel)), List.forall_mem_cons.mpr ⟨str_of hcur (tb hts 1315 (by decide +kernel)), List.forall_mem_cons.mpr ⟨str_of hcur (tb hts 1371 (by decide +kernel)), List.forall_mem_cons.mpr ⟨str_of hcur (tb hts 1372 (by decide +kernel)), List.forall_mem_cons.mpr ⟨str_of hcur (tb hts 1373 (by decide +kernel)), List.forall_mem_cons.mpr ⟨str_of hcur (tb hts 1429 (by decide +kernel)), List.forall_mem_cons.mpr ⟨str_of hcur (tb hts 1447 (by decide +kernel)), fun _ h => absurd h List.not_mem_nil⟩⟩⟩⟩⟩⟩⟩⟩⟩⟩⟩⟩⟩⟩⟩⟩⟩⟩⟩⟩⟩⟩⟩⟩⟩⟩⟩⟩⟩⟩⟩
theorem start_cast {args : Array Value} {s : State} (hts : ∀ w ∈ lw_tbl, w.before args s = true) : ∀ q ∈ castL, va_Nw (.castable q.1 q.2) s := List.forall_mem_cons.mpr ⟨va_Nw.of rfl (tb hts 1932 (by decide +kernel)), List.forall_mem_cons.mpr ⟨va_Nw.of rfl (tb hts 1941 (by decide +kernel)), List.forall_mem_cons.mpr ⟨va_Nw.of rfl (tb hts 1935 (by decide +kernel)), List.forall_mem_cons.mpr ⟨va_Nw.of rfl (tb hts 1939 (by decide +kernel)), List.forall_mem_cons.mpr ⟨va_Nw.of rfl (tb hts 1940 (by decide +kernel)), List.forall_mem_cons.mpr ⟨va_Nw.of rfl (tb hts 275 (by decide +kernel)), List.forall_mem_cons.mpr ⟨va_Nw.of rfl (tb hts 509 (by decide +kernel)), List.forall_mem_cons.mpr ⟨va_Nw.of rfl (tb hts 739 (by decide +kernel)), List.forall_mem_cons.mpr ⟨va_Nw.of rfl (tb hts 1132 (by decide +kernel)), List.forall_mem_cons.mpr ⟨va_Nw.of rfl (tb hts 1422 (by decide +kernel)), fun _ h => absurd h List.not_mem_nil⟩⟩⟩⟩⟩⟩⟩⟩⟩⟩
theorem start_ncast {args : Array Value} {s : State} (hgv : (Jvm.Cond.and given_1 narrow_1).before args s = true) : ∀ q ∈ ncastL, va_Nc q.1 q.2 s := List.forall_mem_cons.mpr ⟨va_Nc.of (fb9 hgv 239 (by decide +kernel)), List.forall_mem_cons.mpr ⟨va_Nc.of (fb9 hgv 258 (by decide +kernel)), List.forall_mem_cons.mpr ⟨va_Nc.of (fb9 hgv 275 (by decide +kernel)), List.forall_mem_cons.mpr ⟨va_Nc.of (fb9 hgv 294 (by decide +kernel)), List.forall_mem_cons.mpr ⟨va_Nc.of (fb9 hgv 302 (by decide +kernel)), List.forall_mem_cons.mpr ⟨va_Nc.of (fb9 hgv 247 (by decide +kernel)), List.forall_mem_cons.mpr ⟨va_Nc.of (fb9 hgv 266 (by decide +kernel)), List.forall_mem_cons.mpr ⟨va_Nc.of (fb9 hgv 283 (by decide +kernel)), List.forall_mem_cons.mpr ⟨va_Nc.of (fb9 hgv 303 (by decide +kernel)), List.forall_mem_cons.mpr ⟨va_Nc.of (fb9 hgv 228 (by decide +kernel)), List.forall_mem_cons.mpr ⟨va_Nc.of (fb9 hgv 267 (by decide +kernel)), List.forall_mem_cons.mpr ⟨va_Nc.of (fb9 hgv 284 (by decide +kernel)), List.forall_mem_cons.mpr ⟨va_Nc.of (fb9 hgv 306 (by decide +kernel)), List.forall_mem_cons.mpr ⟨va_Nc.of (fb9 hgv 231 (by decide +kernel)), List.forall_mem_cons.mpr ⟨va_Nc.of (fb9 hgv 250 (by decide +kernel)), List.forall_mem_cons.mpr ⟨va_Nc.of (fb9 hgv 287 (by decide +kernel)), List.forall_mem_cons.mpr ⟨va_Nc.of (fb9 hgv 310 (by decide +kernel)), List.forall_mem_cons.mpr ⟨va_Nc.of (fb9 hgv 235 (by decide +kernel)), List.forall_mem_cons.mpr ⟨va_Nc.of (fb9 hgv 254 (by decide +kernel)), List.forall_mem_cons.mpr ⟨va_Nc.of (fb9 hgv 271 (by decide +kernel)), fun _ h => absurd h List.not_mem_nil⟩⟩⟩⟩⟩⟩⟩⟩⟩⟩⟩⟩⟩⟩⟩⟩⟩⟩⟩⟩
theorem start_sel {args : Array Value} {s : State} (hts : ∀ w ∈ lw_tbl, w.before args s = true) : ∀ q ∈ selL, (Cond.selects "java/lang/StringBuilder" q q).before #[] s = true := by
  have h : ∀ q ∈ selL, (Cond.selects "java/lang/StringBuilder" q q).before args s = true := List.forall_mem_cons.mpr ⟨sel_priv (n := 4) ⟨by decide, by decide⟩ (tb hts 138 (by decide +kernel)) (tb hts 337 (by decide +kernel)) (tb hts 338 (by decide +kernel)) (tb hts 1911 (by decide +kernel)), List.forall_mem_cons.mpr ⟨sel_priv (n := 4) ⟨by decide, by decide⟩ (tb hts 138 (by decide +kernel)) (tb hts 341 (by decide +kernel)) (tb hts 342 (by decide +kernel)) (tb hts 1912 (by decide +kernel)), fun _ h => absurd h List.not_mem_nil⟩⟩
  intro q hq
  exact va_Nw.of rfl (h q hq)
set_option maxHeartbeats 4000000 in
theorem start_world {args : Array Value} {s : State} (hts : ∀ w ∈ lw_tbl, w.before args s = true) (hgv : (Jvm.Cond.and given_1 narrow_1).before args s = true) : ∃ G : GG, KD G s ∧ SF G s.heap.size s s.heap := by
  have hA : ∀ a : Nat, a < s.heap.size → ¬ (fun q : Nat => s.heap.size ≤ q) a := fun a h => Nat.not_le.mpr h
  obtain ⟨D, ca, hK⟩ := start_K hts
  obtain ⟨t0, ev0, T0⟩ := va_Tof (tm := .static "java/util/ArrayList" "DEFAULTCAPACITY_EMPTY_ELEMENTDATA" "[Ljava/lang/Object;") (ty := .object "java/lang/Object") (N := 0) (f := fun _ => .null) (by decide) (fb9 hgv 5 (by decide +kernel)) (va_eqt (z := Int32.ofNat 0) (fb9 hgv 7 (by decide +kernel))) (fun j hj => absurd hj (Nat.not_lt_zero j)) hA
  obtain ⟨t1, ev1, T1⟩ := va_Tof (tm := .static "java/lang/Integer" "DigitTens" "[B") (ty := .byte) (N := 100) (f := fun j => .int (iI (48 + (j : Int) / 10))) (by decide) (fb9 hgv 119 (by decide +kernel)) (va_eqt (z := Int32.ofNat 100) (fb9 hgv 120 (by decide +kernel))) (fun j hj => va_eqt (dig_of hgv dig_tens j hj)) hA
  obtain ⟨t2, ev2, T2⟩ := va_Tof (tm := .static "java/lang/Integer" "DigitOnes" "[B") (ty := .byte) (N := 100) (f := fun j => .int (iI (48 + (j : Int) % 10))) (by decide) (fb9 hgv 16 (by decide +kernel)) (va_eqt (z := Int32.ofNat 100) (fb9 hgv 17 (by decide +kernel))) (fun j hj => va_eqt (dig_of hgv dig_ones j hj)) hA
  obtain ⟨mi, hmi⟩ := va_Mi.of (C := "[Ljava/lang/Object;") (fb9 hgv 314 (by decide +kernel))
  have hs := start_str hts
  have hc := start_cast hts
  have hn := start_ncast hgv
  have hl := start_sel hts
  refine ⟨(D, ca, fun k => ([t0, t1, t2, mi] : List Nat).getD k mi), hK, Nat.le_refl _, ?_, T0, ?_, ?_, ⟨hs, hc, hn, ?_, hmi, ?_, ?_, hl⟩, ?_, ?_, ?_, T1, T2, ?_⟩
  · exact va_Zref (tb hts 66 (by decide +kernel)) (tb hts 5 (by decide +kernel)) ev0 hA
  · exact vx_Zqof (C := Bundle.tN) (n := "UNASSIGNED_STACK") (d := Bundle.steD) (tb hts 300 (by decide +kernel)) (tb hts 13 (by decide +kernel)) (fb9 hgv 9 (by decide +kernel)) hA
  · exact vx_Zqof (C := Bundle.tN) (n := "SUPPRESSED_SENTINEL") (d := Bundle.listD) (tb hts 302 (by decide +kernel)) (tb hts 13 (by decide +kernel)) (fb9 hgv 10 (by decide +kernel)) hA
  · exact va_AO.of (tb hts 617 (by decide +kernel))
  · exact va_Dc.of (tb hts 1946 (by decide +kernel))
  · exact va_Nw.of rfl (tb hts 49 (by decide +kernel))
  · exact va_Zof (tb hts 147 (by decide +kernel)) (tb hts 10 (by decide +kernel)) (va_eqt (fb9 hgv 8 (by decide +kernel))) hA
  · exact va_Zref (tb hts 461 (by decide +kernel)) (tb hts 31 (by decide +kernel)) ev1 hA
  · exact va_Zref (tb hts 459 (by decide +kernel)) (tb hts 31 (by decide +kernel)) ev2 hA
  · exact vx_Zqof (tb hts 389 (by decide +kernel)) (tb hts 19 (by decide +kernel)) (fb9 hgv 11 (by decide +kernel)) hA
