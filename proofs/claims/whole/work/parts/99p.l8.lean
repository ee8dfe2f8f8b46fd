theorem mgH_self {h h1 : Hp} (hs : SB h1 h) : mgH h h1 h1 = h := by
  funext a
  unfold mgH
  cases e : h1 a with
  | some x => exact (hs a x e).symm
  | none =>
    cases e2 : h a with
    | some y => rfl
    | none => rfl
theorem le_c {x : Nat} (h : x ≤ 603072) : x ≤ room_1.cells := h
theorem le_s {x : Nat} (h : x ≤ 7198826) : x ≤ room_1.slots := h
theorem le_f {x : Nat} (h : x ≤ 2048) : x ≤ room_1.frames := h
theorem le_l {x : Nat} (h : x ≤ 94400) : x ≤ room_1.locals := h
section LZ
variable {p : Program} {l : Launch} {e : Env} {R : Room} {s : State} {m : MethodId} {args : Array Value} {below : List Frame} {meth : Method} {c : Code} {own : String} {cc : ByteArray} {nL : Nat} {G : GG} {N0 : Nat} {A : Nat → Prop}
variable {Q : State → Prop} {h : Hp} {k n pc : Nat} {lv : List (Nat × AV)} {st : List AV}
theorem z_lcmpE (F : Fx p s m args meth c own cc nL G N0 A) {x : Int} (d : decode cc pc = .ok (.lcmp, 1)) (K : Z p l e R s m args below meth c nL G N0 A Q h k n (pc + 1) lv (vI 0 :: st)) : Z p l e R s m args below meth c nL G N0 A Q h k n pc lv (vL x :: vL x :: st) := by
  obtain ⟨hx, hb, hml, hown, hts, hlocks, hKD, hSF, hA0, hAN⟩ := F
  intro H locs ls hP hA hS hl
  refine lv_lcmp hx hb d (v := iI 0) ?_ (K H locs ls hP hA hS hl)
  rw [if_neg (fun w => by have := Int64.lt_iff_toInt_lt.mp w; omega), if_pos (beq_self_eq_true _)]
  rfl
theorem z_dcmpE {x : UInt64} (F : Fx p s m args meth c own cc nL G N0 A) (hn : NN x) (d : decode cc pc = .ok (.dcmp .l, 1)) (K : Z p l e R s m args below meth c nL G N0 A Q h k n (pc + 1) lv (vI 0 :: st)) : Z p l e R s m args below meth c nL G N0 A Q h k n pc lv (vD x :: vD x :: st) := by
  refine z_dcmp (op := .l) F d ?_
  rw [hn.cmp]
  exact K
end LZ
/-- behind a turn -/
def LK (p : Program) (l : Launch) (e : Env) (s : State) (m : MethodId) (args : Array Value) (below : List Frame) (meth : Method) (c : Code) (G : GG) (N0 : Nat) (A : Nat → Prop) (Q : State → Prop) (b ao ad : Nat) (gm : Nat → Nat) (gc : Int → Nat) (i : Int) (k n : Nat) : Prop := ∀ (h' : Hp) (k' n' : Nat) (σ' ρ' : Sg) (hm' hc' : Hp), k' ≤ k + 130 → n' ≤ n + 12100 → HM h' hm' hc' ao ad → RT G gm gc σ' ρ' hm' hc' → Z p l e room_1 s m args below meth c 9 G N0 A Q h' k' n' 2785 [(5, vI i), (4, vR ad), (3, vR ao), (2, vR (gm 0)), (1, vR (gc 0)), (0, vR b)] []
theorem tail_I {p : Program} {l : Launch} {e : Env} {s : State} {m : MethodId} {args : Array Value} {below : List Frame} {meth : Method} {c : Code} {G : GG} {N0 : Nat} {A : Nat → Prop} {Q : State → Prop} (F : Fx p s m args meth c RL cL_law 9 G N0 A) {b ao ad : Nat} {gm : Nat → Nat} {gc : Int → Nat} {i : Int} {k n k9 n9 pc : Nat} {off : Int} {h2 hm hc : Hp} {σ ρ : Sg} {v : Int} (hk0 : k + 130 ≤ 603072) (hn0 : n + 12100 ≤ 7198826) (hk : k9 ≤ k + 130) (hn : n9 ≤ n + 12100) (H : HM h2 hm hc ao ad) (T : RT G gm gc σ ρ hm hc) (q3 : 0 ≤ σ 30 0 ∧ σ 30 0 ≤ 3) (q4 : σ 30 0 = 0 → ∃ f : Int → Int, h2 ao = some (eA 6 1 (fun j => vL (f j))) ∧ f 0 = (iI v).toInt) (d0 : decode cL_law pc = .ok (.istore 7, 2)) (d2 : decode cL_law (pc + 2) = .ok (.aload_n 2, 1)) (d3 : decode cL_law (pc + 3) = .ok (.invokevirtual 163, 3)) (d6 : decode cL_law (pc + 6) = .ok (.iload 6, 2)) (d8 : decode cL_law (pc + 8) = .ok (.if_icmp .eq 5, 3)) (d13 : decode cL_law (pc + 13) = .ok (.iload 6, 2)) (d15 : decode cL_law (pc + 15) = .ok (.ifCond .ne 15, 3)) (d18 : decode cL_law (pc + 18) = .ok (.aload_n 3, 1)) (d19 : decode cL_law (pc + 19) = .ok (.iconst 0, 1)) (d20 : decode cL_law (pc + 20) = .ok (.laload, 1)) (d21 : decode cL_law (pc + 21) = .ok (.iload 7, 2)) (d23 : decode cL_law (pc + 23) = .ok (.i2l, 1)) (d24 : decode cL_law (pc + 24) = .ok (.lcmp, 1)) (d25 : decode cL_law (pc + 25) = .ok (.ifCond .eq 5, 3)) (d30 : decode cL_law (pc + 30) = .ok (.goto off, 3)) (hoff : ((pc + 30 : Nat) : Int) + off = (2785 : Nat)) (K : LK p l e s m args below meth c G N0 A Q b ao ad gm gc i k n) : Z p l e room_1 s m args below meth c 9 G N0 A Q h2 k9 n9 pc [(6, vI (σ 30 0)), (5, vI i), (4, vR ad), (3, vR ao), (2, vR (gm 0)), (1, vR (gc 0)), (0, vR b)] [vI v] := by
  refine z_istore (lv' := [(7, vI v), (6, vI (σ 30 0)), (5, vI i), (4, vR ad), (3, vR ao), (2, vR (gm 0)), (1, vR (gc 0)), (0, vR b)]) F d0 (by decide) rfl ?_
  refine z_aload_n F d2 rfl 5 rfl ?_
  refine z_callV (As := []) (st := []) F ((mX9_thrown l G N0 hm gm σ T.1 T.2.1).frame H.m) cvL_163 (H.m _ _ (mI T.1 0 rfl)) (fun r9 h9 => by cases h9; rfl) rfl rfl ⟨le_f (Nat.le_of_ble_eq_true rfl), le_l (Nat.le_of_ble_eq_true rfl)⟩ rfl ⟨le_c (by (try simp only []); omega), le_s (by (try simp only []); omega)⟩ d3 ?_
  rintro _ h9 ⟨h1p, ⟨rfl, e9⟩, -, rfl⟩
  rw [e9, mgH_self H.m]
  show Z _ _ _ _ _ _ _ _ _ _ _ _ _ _ _ _ _ _ _ _ [vI (σ 30 0)]
  have rz : -2147483648 ≤ σ 30 0 ∧ σ 30 0 < 2147483648 := by omega
  have KK : Z p l e room_1 s m args below meth c 9 G N0 A Q h2 (k9 + 0) (n9 + 0) (pc + 30) [(7, vI v), (6, vI (σ 30 0)), (5, vI i), (4, vR ad), (3, vR ao), (2, vR (gm 0)), (1, vR (gc 0)), (0, vR b)] [] := by
    refine z_goto (tgt := 2785) F d30 hoff ?_
    refine z_pick (lv' := [(5, vI i), (4, vR ad), (3, vR ao), (2, vR (gm 0)), (1, vR (gc 0)), (0, vR b)]) [2, 3, 4, 5, 6, 7] rfl ?_
    exact K h2 (k9 + 0) (n9 + 0) σ ρ hm hc (by omega) (by omega) H T
  refine z_iload F d6 1 rfl ?_
  refine z_icmp_eq (tgt := pc + 13) F d8 (by omega) rz rz (fun _ => ?_) (fun c9 => absurd rfl c9)
  refine z_iload F d13 1 rfl ?_
  refine z_if_ne (tgt := pc + 30) F d15 (by omega) rz (fun c9 => KK) (fun c9 => ?_)
  obtain ⟨f, ho, hf⟩ := q4 c9
  refine z_aload_n F d18 rfl 4 rfl ?_
  refine z_iconst F d19 ?_
  refine z_laload (N := 1) (f := f) F ho (by decide) (by decide) (by decide) d20 ?_
  rw [hf]
  refine z_iload F d21 0 rfl ?_
  refine z_i2l2 F d23 ?_
  refine z_lcmpE F d24 ?_
  refine z_if_eq (tgt := pc + 30) F d25 (by omega) (by decide) (fun _ => KK) (fun c8 => absurd rfl c8)
theorem tail_L {p : Program} {l : Launch} {e : Env} {s : State} {m : MethodId} {args : Array Value} {below : List Frame} {meth : Method} {c : Code} {G : GG} {N0 : Nat} {A : Nat → Prop} {Q : State → Prop} (F : Fx p s m args meth c RL cL_law 9 G N0 A) {b ao ad : Nat} {gm : Nat → Nat} {gc : Int → Nat} {i : Int} {k n k9 n9 pc : Nat} {off : Int} {h2 hm hc : Hp} {σ ρ : Sg} {v : Int} (hk0 : k + 130 ≤ 603072) (hn0 : n + 12100 ≤ 7198826) (hk : k9 ≤ k + 130) (hn : n9 ≤ n + 12100) (H : HM h2 hm hc ao ad) (T : RT G gm gc σ ρ hm hc) (q3 : 0 ≤ σ 30 0 ∧ σ 30 0 ≤ 3) (q4 : σ 30 0 = 0 → ∃ f : Int → Int, h2 ao = some (eA 6 1 (fun j => vL (f j))) ∧ f 0 = v) (d0 : decode cL_law pc = .ok (.lstore 7, 2)) (d2 : decode cL_law (pc + 2) = .ok (.aload_n 2, 1)) (d3 : decode cL_law (pc + 3) = .ok (.invokevirtual 163, 3)) (d6 : decode cL_law (pc + 6) = .ok (.iload 6, 2)) (d8 : decode cL_law (pc + 8) = .ok (.if_icmp .eq 5, 3)) (d13 : decode cL_law (pc + 13) = .ok (.iload 6, 2)) (d15 : decode cL_law (pc + 15) = .ok (.ifCond .ne 14, 3)) (d18 : decode cL_law (pc + 18) = .ok (.aload_n 3, 1)) (d19 : decode cL_law (pc + 19) = .ok (.iconst 0, 1)) (d20 : decode cL_law (pc + 20) = .ok (.laload, 1)) (d21 : decode cL_law (pc + 21) = .ok (.lload 7, 2)) (d23 : decode cL_law (pc + 23) = .ok (.lcmp, 1)) (d24 : decode cL_law (pc + 24) = .ok (.ifCond .eq 5, 3)) (d29 : decode cL_law (pc + 29) = .ok (.goto off, 3)) (hoff : ((pc + 29 : Nat) : Int) + off = (2785 : Nat)) (K : LK p l e s m args below meth c G N0 A Q b ao ad gm gc i k n) : Z p l e room_1 s m args below meth c 9 G N0 A Q h2 k9 n9 pc [(6, vI (σ 30 0)), (5, vI i), (4, vR ad), (3, vR ao), (2, vR (gm 0)), (1, vR (gc 0)), (0, vR b)] [vL v] := by
  refine z_lstore (lv' := [(7, vL v), (6, vI (σ 30 0)), (5, vI i), (4, vR ad), (3, vR ao), (2, vR (gm 0)), (1, vR (gc 0)), (0, vR b)]) F d0 (by decide) rfl ?_
  refine z_aload_n F d2 rfl 5 rfl ?_
  refine z_callV (As := []) (st := []) F ((mX9_thrown l G N0 hm gm σ T.1 T.2.1).frame H.m) cvL_163 (H.m _ _ (mI T.1 0 rfl)) (fun r9 h9 => by cases h9; rfl) rfl rfl ⟨le_f (Nat.le_of_ble_eq_true rfl), le_l (Nat.le_of_ble_eq_true rfl)⟩ rfl ⟨le_c (by (try simp only []); omega), le_s (by (try simp only []); omega)⟩ d3 ?_
  rintro _ h9 ⟨h1p, ⟨rfl, e9⟩, -, rfl⟩
  rw [e9, mgH_self H.m]
  show Z _ _ _ _ _ _ _ _ _ _ _ _ _ _ _ _ _ _ _ _ [vI (σ 30 0)]
  have rz : -2147483648 ≤ σ 30 0 ∧ σ 30 0 < 2147483648 := by omega
  have KK : Z p l e room_1 s m args below meth c 9 G N0 A Q h2 (k9 + 0) (n9 + 0) (pc + 29) [(7, vL v), (6, vI (σ 30 0)), (5, vI i), (4, vR ad), (3, vR ao), (2, vR (gm 0)), (1, vR (gc 0)), (0, vR b)] [] := by
    refine z_goto (tgt := 2785) F d29 hoff ?_
    refine z_pick (lv' := [(5, vI i), (4, vR ad), (3, vR ao), (2, vR (gm 0)), (1, vR (gc 0)), (0, vR b)]) [2, 3, 4, 5, 6, 7] rfl ?_
    exact K h2 (k9 + 0) (n9 + 0) σ ρ hm hc (by omega) (by omega) H T
  refine z_iload F d6 1 rfl ?_
  refine z_icmp_eq (tgt := pc + 13) F d8 (by omega) rz rz (fun _ => ?_) (fun c9 => absurd rfl c9)
  refine z_iload F d13 1 rfl ?_
  refine z_if_ne (tgt := pc + 29) F d15 (by omega) rz (fun c9 => KK) (fun c9 => ?_)
  obtain ⟨f, ho, hf⟩ := q4 c9
  refine z_aload_n F d18 rfl 4 rfl ?_
  refine z_iconst F d19 ?_
  refine z_laload (N := 1) (f := f) F ho (by decide) (by decide) (by decide) d20 ?_
  rw [hf]
  refine z_lload F d21 0 rfl ?_
  refine z_lcmpE F d23 ?_
  refine z_if_eq (tgt := pc + 29) F d24 (by omega) (by decide) (fun _ => KK) (fun c8 => absurd rfl c8)
theorem tail_F {p : Program} {l : Launch} {e : Env} {s : State} {m : MethodId} {args : Array Value} {below : List Frame} {meth : Method} {c : Code} {G : GG} {N0 : Nat} {A : Nat → Prop} {Q : State → Prop} (F : Fx p s m args meth c RL cL_law 9 G N0 A) {b ao ad : Nat} {gm : Nat → Nat} {gc : Int → Nat} {i : Int} {k n k9 n9 pc : Nat} {off : Int} {h2 hm hc : Hp} {σ ρ : Sg} {x : UInt32} (hk0 : k + 130 ≤ 603072) (hn0 : n + 12100 ≤ 7198826) (hk : k9 ≤ k + 130) (hn : n9 ≤ n + 12100) (H : HM h2 hm hc ao ad) (T : RT G gm gc σ ρ hm hc) (q3 : 0 ≤ σ 30 0 ∧ σ 30 0 ≤ 3) (q4 : σ 30 0 = 0 → NN (FP.f2d x) ∧ ∃ f : Int → UInt64, h2 ad = some (eA 7 1 (fun j => vD (f j))) ∧ f 0 = FP.f2d x) (d0 : decode cL_law pc = .ok (.fstore 7, 2)) (d2 : decode cL_law (pc + 2) = .ok (.aload_n 2, 1)) (d3 : decode cL_law (pc + 3) = .ok (.invokevirtual 163, 3)) (d6 : decode cL_law (pc + 6) = .ok (.iload 6, 2)) (d8 : decode cL_law (pc + 8) = .ok (.if_icmp .eq 5, 3)) (d13 : decode cL_law (pc + 13) = .ok (.iload 6, 2)) (d15 : decode cL_law (pc + 15) = .ok (.ifCond .ne 36, 3)) (d18 : decode cL_law (pc + 18) = .ok (.aload 4, 2)) (d20 : decode cL_law (pc + 20) = .ok (.iconst 0, 1)) (d21 : decode cL_law (pc + 21) = .ok (.daload, 1)) (d22 : decode cL_law (pc + 22) = .ok (.fload 7, 2)) (d24 : decode cL_law (pc + 24) = .ok (.f2d, 1)) (d25 : decode cL_law (pc + 25) = .ok (.dcmp .l, 1)) (d26 : decode cL_law (pc + 26) = .ok (.ifCond .eq 25, 3)) (d51 : decode cL_law (pc + 51) = .ok (.goto off, 3)) (hoff : ((pc + 51 : Nat) : Int) + off = (2785 : Nat)) (K : LK p l e s m args below meth c G N0 A Q b ao ad gm gc i k n) : Z p l e room_1 s m args below meth c 9 G N0 A Q h2 k9 n9 pc [(6, vI (σ 30 0)), (5, vI i), (4, vR ad), (3, vR ao), (2, vR (gm 0)), (1, vR (gc 0)), (0, vR b)] [vF x] := by
  refine z_fstore (lv' := [(7, vF x), (6, vI (σ 30 0)), (5, vI i), (4, vR ad), (3, vR ao), (2, vR (gm 0)), (1, vR (gc 0)), (0, vR b)]) F d0 (by decide) rfl ?_
  refine z_aload_n F d2 rfl 5 rfl ?_
  refine z_callV (As := []) (st := []) F ((mX9_thrown l G N0 hm gm σ T.1 T.2.1).frame H.m) cvL_163 (H.m _ _ (mI T.1 0 rfl)) (fun r9 h9 => by cases h9; rfl) rfl rfl ⟨le_f (Nat.le_of_ble_eq_true rfl), le_l (Nat.le_of_ble_eq_true rfl)⟩ rfl ⟨le_c (by (try simp only []); omega), le_s (by (try simp only []); omega)⟩ d3 ?_
  rintro _ h9 ⟨h1p, ⟨rfl, e9⟩, -, rfl⟩
  rw [e9, mgH_self H.m]
  show Z _ _ _ _ _ _ _ _ _ _ _ _ _ _ _ _ _ _ _ _ [vI (σ 30 0)]
  have rz : -2147483648 ≤ σ 30 0 ∧ σ 30 0 < 2147483648 := by omega
  have KK : Z p l e room_1 s m args below meth c 9 G N0 A Q h2 (k9 + 0) (n9 + 0) (pc + 51) [(7, vF x), (6, vI (σ 30 0)), (5, vI i), (4, vR ad), (3, vR ao), (2, vR (gm 0)), (1, vR (gc 0)), (0, vR b)] [] := by
    refine z_goto (tgt := 2785) F d51 hoff ?_
    refine z_pick (lv' := [(5, vI i), (4, vR ad), (3, vR ao), (2, vR (gm 0)), (1, vR (gc 0)), (0, vR b)]) [2, 3, 4, 5, 6, 7] rfl ?_
    exact K h2 (k9 + 0) (n9 + 0) σ ρ hm hc (by omega) (by omega) H T
  refine z_iload F d6 1 rfl ?_
  refine z_icmp_eq (tgt := pc + 13) F d8 (by omega) rz rz (fun _ => ?_) (fun c9 => absurd rfl c9)
  refine z_iload F d13 1 rfl ?_
  refine z_if_ne (tgt := pc + 51) F d15 (by omega) rz (fun c9 => KK) (fun c9 => ?_)
  obtain ⟨hn9, f, ho, hf⟩ := q4 c9
  refine z_aload F d18 3 rfl ?_
  refine z_iconst F d20 ?_
  refine z_daload (N := 1) (f := f) F ho (by decide) (by decide) (by decide) d21 ?_
  rw [hf]
  refine z_fload F d22 0 rfl ?_
  refine z_f2d F d24 hn9.v ?_
  refine z_dcmpE F hn9 d25 ?_
  refine z_if_eq (tgt := pc + 51) F d26 (by omega) (by decide) (fun _ => KK) (fun c8 => absurd rfl c8)
theorem tail_D {p : Program} {l : Launch} {e : Env} {s : State} {m : MethodId} {args : Array Value} {below : List Frame} {meth : Method} {c : Code} {G : GG} {N0 : Nat} {A : Nat → Prop} {Q : State → Prop} (F : Fx p s m args meth c RL cL_law 9 G N0 A) {b ao ad : Nat} {gm : Nat → Nat} {gc : Int → Nat} {i : Int} {k n k9 n9 pc : Nat} {off : Int} {h2 hm hc : Hp} {σ ρ : Sg} {x : UInt64} (hk0 : k + 130 ≤ 603072) (hn0 : n + 12100 ≤ 7198826) (hk : k9 ≤ k + 130) (hn : n9 ≤ n + 12100) (H : HM h2 hm hc ao ad) (T : RT G gm gc σ ρ hm hc) (q3 : 0 ≤ σ 30 0 ∧ σ 30 0 ≤ 3) (q4 : σ 30 0 = 0 → NN x ∧ ∃ f : Int → UInt64, h2 ad = some (eA 7 1 (fun j => vD (f j))) ∧ f 0 = x) (d0 : decode cL_law pc = .ok (.dstore 7, 2)) (d2 : decode cL_law (pc + 2) = .ok (.aload_n 2, 1)) (d3 : decode cL_law (pc + 3) = .ok (.invokevirtual 163, 3)) (d6 : decode cL_law (pc + 6) = .ok (.iload 6, 2)) (d8 : decode cL_law (pc + 8) = .ok (.if_icmp .eq 5, 3)) (d13 : decode cL_law (pc + 13) = .ok (.iload 6, 2)) (d15 : decode cL_law (pc + 15) = .ok (.ifCond .ne 35, 3)) (d18 : decode cL_law (pc + 18) = .ok (.aload 4, 2)) (d20 : decode cL_law (pc + 20) = .ok (.iconst 0, 1)) (d21 : decode cL_law (pc + 21) = .ok (.daload, 1)) (d22 : decode cL_law (pc + 22) = .ok (.dload 7, 2)) (d24 : decode cL_law (pc + 24) = .ok (.dcmp .l, 1)) (d25 : decode cL_law (pc + 25) = .ok (.ifCond .eq 25, 3)) (d50 : decode cL_law (pc + 50) = .ok (.goto off, 3)) (hoff : ((pc + 50 : Nat) : Int) + off = (2785 : Nat)) (K : LK p l e s m args below meth c G N0 A Q b ao ad gm gc i k n) : Z p l e room_1 s m args below meth c 9 G N0 A Q h2 k9 n9 pc [(6, vI (σ 30 0)), (5, vI i), (4, vR ad), (3, vR ao), (2, vR (gm 0)), (1, vR (gc 0)), (0, vR b)] [vD x] := by
  refine z_dstore (lv' := [(7, vD x), (6, vI (σ 30 0)), (5, vI i), (4, vR ad), (3, vR ao), (2, vR (gm 0)), (1, vR (gc 0)), (0, vR b)]) F d0 (by decide) rfl ?_
  refine z_aload_n F d2 rfl 5 rfl ?_
  refine z_callV (As := []) (st := []) F ((mX9_thrown l G N0 hm gm σ T.1 T.2.1).frame H.m) cvL_163 (H.m _ _ (mI T.1 0 rfl)) (fun r9 h9 => by cases h9; rfl) rfl rfl ⟨le_f (Nat.le_of_ble_eq_true rfl), le_l (Nat.le_of_ble_eq_true rfl)⟩ rfl ⟨le_c (by (try simp only []); omega), le_s (by (try simp only []); omega)⟩ d3 ?_
  rintro _ h9 ⟨h1p, ⟨rfl, e9⟩, -, rfl⟩
  rw [e9, mgH_self H.m]
  show Z _ _ _ _ _ _ _ _ _ _ _ _ _ _ _ _ _ _ _ _ [vI (σ 30 0)]
  have rz : -2147483648 ≤ σ 30 0 ∧ σ 30 0 < 2147483648 := by omega
  have KK : Z p l e room_1 s m args below meth c 9 G N0 A Q h2 (k9 + 0) (n9 + 0) (pc + 50) [(7, vD x), (6, vI (σ 30 0)), (5, vI i), (4, vR ad), (3, vR ao), (2, vR (gm 0)), (1, vR (gc 0)), (0, vR b)] [] := by
    refine z_goto (tgt := 2785) F d50 hoff ?_
    refine z_pick (lv' := [(5, vI i), (4, vR ad), (3, vR ao), (2, vR (gm 0)), (1, vR (gc 0)), (0, vR b)]) [2, 3, 4, 5, 6, 7] rfl ?_
    exact K h2 (k9 + 0) (n9 + 0) σ ρ hm hc (by omega) (by omega) H T
  refine z_iload F d6 1 rfl ?_
  refine z_icmp_eq (tgt := pc + 13) F d8 (by omega) rz rz (fun _ => ?_) (fun c9 => absurd rfl c9)
  refine z_iload F d13 1 rfl ?_
  refine z_if_ne (tgt := pc + 50) F d15 (by omega) rz (fun c9 => KK) (fun c9 => ?_)
  obtain ⟨hn9, f, ho, hf⟩ := q4 c9
  refine z_aload F d18 3 rfl ?_
  refine z_iconst F d20 ?_
  refine z_daload (N := 1) (f := f) F ho (by decide) (by decide) (by decide) d21 ?_
  rw [hf]
  refine z_dload F d22 0 rfl ?_
  refine z_dcmpE F hn9 d24 ?_
  refine z_if_eq (tgt := pc + 50) F d25 (by omega) (by decide) (fun _ => KK) (fun c8 => absurd rfl c8)
