/-! THE LAW: its own script, its switch -/
section LROWS
variable {p : Program} {l : Launch} {e : Env} {R : Room} {s : State} {m : MethodId} {args : Array Value} {below : List Frame} {meth : Method} {c : Code} {own : String} {cc : ByteArray} {nL : Nat} {G : GG} {N0 : Nat} {A : Nat → Prop}
variable {Q : State → Prop} {h : Hp} {k n pc : Nat} {lv : List (Nat × AV)} {st : List AV}
theorem z_sld {b L : Nat} {xs : Nat → Int32} {i : Int} (F : Fx p s m args meth c own cc nL G N0 A) (hX : va_X b L xs s s.heap) (hbl : b < s.heap.size) (hbA : ¬ A b) (h0 : 0 ≤ i) (h1 : i < L) (hL : L < 2147483648) (d : decode cc pc = .ok (.iaload, 1))
    (K : Z p l e R s m args below meth c nL G N0 A Q h k n (pc + 1) lv (vI (xs i.toNat).toInt :: st)) : Z p l e R s m args below meth c nL G N0 A Q h k n pc lv (vI i :: vR b :: st) := by
  obtain ⟨hx, hb, hml, hown, hts, hlocks, hKD, hSF, hA0, hAN⟩ := F
  intro H locs ls hP hA hS hl
  have K1 := K H locs ls hP hA hS hl
  rw [List.map_cons, iI_toI] at K1
  refine va_sld hx hb hX hbl hbA hS (iI_vp h0 h1 hL) d ?_
  rw [iI_clamp (by omega)]
  exact K1
theorem z_slen {b L : Nat} {xs : Nat → Int32} (F : Fx p s m args meth c own cc nL G N0 A) (hX : va_X b L xs s s.heap) (hbl : b < s.heap.size) (hbA : ¬ A b) (d : decode cc pc = .ok (.arraylength, 1))
    (K : Z p l e R s m args below meth c nL G N0 A Q h k n (pc + 1) lv (vI (L : Int) :: st)) : Z p l e R s m args below meth c nL G N0 A Q h k n pc lv (vR b :: st) := by
  obtain ⟨hx, hb, hml, hown, hts, hlocks, hKD, hSF, hA0, hAN⟩ := F
  intro H locs ls hP hA hS hl
  exact va_slen hx hb hX hbl hbA hS d (K H locs ls hP hA hS hl)
theorem z_tableIn {dflt lo hi : Int} {offs : Array Int} {len : Nat} {x off : Int} {tgt : Nat} (F : Fx p s m args meth c own cc nL G N0 A) (d : decode cc pc = .ok (.tableswitch dflt lo hi offs, len)) (hr : -2147483648 ≤ x ∧ x < 2147483648) (h1 : lo ≤ x) (h2 : x ≤ hi) (ho : offs[(x - lo).toNat]? = some off) (ht : (pc : Int) + off = (tgt : Int))
    (K : Z p l e R s m args below meth c nL G N0 A Q h k n tgt lv st) : Z p l e R s m args below meth c nL G N0 A Q h k n pc lv (vI x :: st) := by
  obtain ⟨hx, hb, hml, hown, hts, hlocks, hKD, hSF, hA0, hAN⟩ := F
  intro H locs ls hP hA hS hl
  have e := iI_toInt hr
  exact lv_tableIn hx hb d (by rw [e]; omega) (by rw [e]; omega) (by rw [e]; exact ho) ht (K H locs ls hP hA hS hl)
theorem z_tableOut {dflt lo hi : Int} {offs : Array Int} {len : Nat} {x : Int} {tgt : Nat} (F : Fx p s m args meth c own cc nL G N0 A) (d : decode cc pc = .ok (.tableswitch dflt lo hi offs, len)) (hr : -2147483648 ≤ x ∧ x < 2147483648) (h1 : x < lo ∨ hi < x) (ht : (pc : Int) + dflt = (tgt : Int))
    (K : Z p l e R s m args below meth c nL G N0 A Q h k n tgt lv st) : Z p l e R s m args below meth c nL G N0 A Q h k n pc lv (vI x :: st) := by
  obtain ⟨hx, hb, hml, hown, hts, hlocks, hKD, hSF, hA0, hAN⟩ := F
  intro H locs ls hP hA hS hl
  exact lv_tableOut hx hb d (by rw [iI_toInt hr]; exact h1) ht (K H locs ls hP hA hS hl)
end LROWS
