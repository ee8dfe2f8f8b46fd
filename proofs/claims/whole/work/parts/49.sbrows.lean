/-! rows for StringBuilder: static tables, bytes' arraycopy -/
theorem byte_fits {x : Int} (h : -128 ≤ x ∧ x < 128) : fits .byte (.int (iI x)) = true := (nf_b h).2
section ZB
variable {p : Program} {l : Launch} {e : Env} {R : Room} {s : State} {m : MethodId} {args : Array Value} {below : List Frame} {meth : Method} {c : Code} {own : String} {cc : ByteArray} {nL : Nat} {G : GG} {N0 : Nat} {A : Nat → Prop}
variable {Q : State → Prop} {h : Hp} {k n pc : Nat} {lv : List (Nat × AV)} {st : List AV}
theorem z_bcopy {a0 a M0 M1 idx : Nat} {f g : Int → Int} {sp dp len : Int} (F : Fx p s m args meth c own cc nL G N0 A) (h0 : h a0 = some (eA 4 M0 (fun j => vI (f j)))) (h1 : h a = some (eA 4 M1 (fun j => vI (g j))))
    (hb : 0 ≤ sp ∧ 0 ≤ dp ∧ 0 ≤ len ∧ sp + len ≤ M0 ∧ dp + len ≤ M1 ∧ (M0 : Int) < 2147483648 ∧ (M1 : Int) < 2147483648)
    (hel : ∀ i : Int, 0 ≤ i → i < len → -128 ≤ f (sp + i) ∧ f (sp + i) < 128)
    (hw : Cond.methodLink own idx arraycopyName ∈ LW ∧ Cond.native arraycopyName ∈ LW ∧ Cond.static arraycopyName ∈ LW ∧ Cond.initialized "java/lang/System" ∈ LW) (hR : 1 ≤ R.frames ∧ catS st + 30 ≤ R.locals) (d : decode cc pc = .ok (.invokestatic idx, 3))
    (K : Z p l e R s m args below meth c nL G N0 A Q (hu h a (eA 4 M1 (fun j => vI (cpI f g sp dp len j)))) k n (pc + 3) lv st) : Z p l e R s m args below meth c nL G N0 A Q h k n pc lv (vI len :: vI dp :: vR a :: vI sp :: vR a0 :: st) := by
  obtain ⟨hx, hbc, hml, hown, hts, hlocks, hKD, hSF, hA0, hAN⟩ := F
  intro H locs ls hP hA hS hl
  have z0 : (0 : Int32) = iI 0 := by decide
  have n1 : ¬ iI sp < 0 := by rw [z0, iI_lt (by omega) (by omega)]; omega
  have n2 : ¬ iI dp < 0 := by rw [z0, iI_lt (by omega) (by omega)]; omega
  have n3 : ¬ iI len < 0 := by rw [z0, iI_lt (by omega) (by omega)]; omega
  have c1 : (iI sp).toNatClampNeg = sp.toNat := iI_clamp (by omega)
  have c2 : (iI dp).toNatClampNeg = dp.toNat := iI_clamp (by omega)
  have c3 : (iI len).toNatClampNeg = len.toNat := iI_clamp (by omega)
  have hc0 : H[a0]? = some (arrV (G.2.1 4) M0 (fun j => Value.int (iI (f (j : Int))))) := (hP _ _ h0).2
  have hc1 : H[a]? = some (arrV (G.2.1 4) M1 (fun j => Value.int (iI (g (j : Int))))) := (hP _ _ h1).2
  obtain ⟨-, k0, hk0, cm0, hkk0⟩ := (hKD.2 4 _ rfl).1 M0 (fun j => Value.int (iI (f (j : Int))))
  intro T hT X
  obtain ⟨vm', X', step⟩ := X.arraycopy hx hown (hts _ hw.1) (hts _ hw.2.1) (hts _ hw.2.2.1) (hts _ hw.2.2.2) (src := a0) (dst := a) (cs := arrV (G.2.1 4) M0 (fun j => Value.int (iI (f (j : Int))))) (cd := arrV (G.2.1 4) M1 (fun j => Value.int (iI (g (j : Int))))) (srcPos := iI sp) (destPos := iI dp) (n := iI len) (by rw [hT]; exact hc0) (by rw [hT]; exact hc1)
    (fun _ h => by cases h) (fun _ h => by cases h) (fun h => by cases h) (fun h => by cases h) hk0 hk0 hkk0 hkk0 rfl n1 n2 n3
    (by rw [iI_toInt (by omega), iI_toInt (by omega), arrV_size]; omega)
    (by rw [iI_toInt (by omega), iI_toInt (by omega), arrV_size]; omega)
    (fun vm₁ hal i hi => by
      rw [c3] at hi
      have e9 : (arrV (G.2.1 4) M0 (fun j => Value.int (iI (f (j : Int))))).slots.getD ((iI sp).toNatClampNeg + i) .null = Value.int (iI (f (sp + i))) := by
        rw [c1, Array.getD_eq_getD_getElem?, arrV_read _ _ (by omega)]
        show Value.int (iI (f ((sp.toNat + i : Nat) : Int))) = _
        rw [show ((sp.toNat + i : Nat) : Int) = sp + i by omega]
      rw [e9]
      exact ⟨byte_fits (hel i (by omega) (by omega)), trivial⟩)
    (g := F0 m pc ls ((vI len :: vI dp :: vR a :: vI sp :: vR a0 :: st).map cv)) rfl (by rw [hml]; exact hl.1) (rest := st.map cv) rfl (by rw [hbc]; exact d) hR.1 (by
      have hz : nativeFrameWords "java/lang/System" "arraycopy" 5 + 11 ≤ 30 := by decide
      have hs := catS_map st
      show 2 * 0 + _ + _ ≤ _
      omega)
  have e1 : copied (arrV (G.2.1 4) M0 (fun j => Value.int (iI (f (j : Int))))) (arrV (G.2.1 4) M1 (fun j => Value.int (iI (g (j : Int))))) (iI sp) (iI dp) (iI len) = arrV (G.2.1 4) M1 (fun j => Value.int (iI (cpI f g sp dp len (j : Int)))) := by
    have q := va_copied (fun z => Value.int (iI z)) (G.2.1 4) (G.2.1 4) (n0 := M0) (n1 := M1) (sp := sp.toNat) (dp := dp.toNat) (n := len.toNat) (fun j : Nat => f (j : Int)) (fun j : Nat => g (j : Int)) (by omega)
    unfold copied
    rw [c1, c2, c3, q]
    congr 1
    funext j
    rw [cpI_nat hb.1 hb.2.1 hb.2.2.1 j]
  rw [e1] at X' step
  have hl9 : a < H.size := (hP _ _ h1).2.lt
  have oq : ∀ q : Nat, q ≠ a → (H.setIfInBounds a (arrV (G.2.1 4) M1 (fun j => Value.int (iI (cpI f g sp dp len (j : Int))))))[q]? = H[q]? := fun q hq => by simp [Array.getElem?_setIfInBounds, Ne.symm hq]
  have aA : A a := mem_dom hA h1
  obtain ⟨t, a1, b1⟩ := K (H.setIfInBounds a (arrV (G.2.1 4) M1 (fun j => Value.int (iI (cpI f g sp dp len (j : Int)))))) _ ls (hP.put (hP _ _ h1).1 (show (H.setIfInBounds a _)[a]? = some _ by simp [Array.getElem?_setIfInBounds, hl9]; rfl) (fun b hb9 _ => oq b hb9)) (dom_hu hA aA) ⟨by simp; exact hS.1, fun q g1 g2 => by
      rw [oq q (fun w => g2 (by rw [w]; exact aA))]
      exact hS.2.1 q g1 g2, fun q hq => by
      rcases List.mem_append.mp hq with w | w
      · exact hS.2.2 q w
      · obtain ⟨z, -, hz⟩ := List.mem_map.mp w
        rw [← hz]
        exact aA⟩ hl _ (by rw [← hT]; rfl) X'
  exact ⟨t, step t a1, b1⟩
theorem z_getCS {idx : Nat} (F : Fx p s m args meth c own cc nL G N0 A) (hlink : Cond.fieldLink own idx "java/lang/String" "COMPACT_STRINGS" "Z" ∈ LW) (d : decode cc pc = .ok (.getstatic idx, 3))
    (K : Z p l e R s m args below meth c nL G N0 A Q h k n (pc + 3) lv (vI 1 :: st)) : Z p l e R s m args below meth c nL G N0 A Q h k n pc lv st := by
  obtain ⟨hx, hb, hml, hown, hts, hlocks, hKD, hSF, hA0, hAN⟩ := F
  intro H locs ls hP hA hS hl
  exact va_gets hx hb hSF.2.2.2.2.2.2.1 (hAH (F0' := A) hAN hS hSF) hown (hts _ hlink) (fun _ z => z) d (K H locs ls hP hA hS hl)
theorem z_getSI {idx : Nat} (F : Fx p s m args meth c own cc nL G N0 A) (hlink : Cond.fieldLink own idx "jdk/internal/util/Preconditions" "SIOOBE_FORMATTER" "Ljava/util/function/BiFunction;" ∈ LW) (d : decode cc pc = .ok (.getstatic idx, 3))
    (K : ∀ r : Option Nat, Z p l e R s m args below meth c nL G N0 A Q h k n (pc + 3) lv (vQ r :: st)) : Z p l e R s m args below meth c nL G N0 A Q h k n pc lv st := by
  obtain ⟨hx, hb, hml, hown, hts, hlocks, hKD, hSF, hA0, hAN⟩ := F
  intro H locs ls hP hA hS hl
  rcases hSF.2.2.2.2.2.2.2.2.2.2.2.1 with hr | ⟨r, hr⟩
  · exact va_gets hx hb hr (hAH (F0' := A) hAN hS hSF) hown (hts _ hlink) (fun _ z => z) d (K none H locs ls hP hA hS hl)
  · exact va_gets hx hb hr (hAH (F0' := A) hAN hS hSF) hown (hts _ hlink) (fun _ z => z) d (K (some r) H locs ls hP hA hS hl)
theorem z_getTens {idx : Nat} (F : Fx p s m args meth c own cc nL G N0 A) (hlink : Cond.fieldLink own idx "java/lang/Integer" "DigitTens" "[B" ∈ LW) (d : decode cc pc = .ok (.getstatic idx, 3))
    (K : Z p l e R s m args below meth c nL G N0 A Q h k n (pc + 3) lv (vR (G.2.2 1) :: st)) : Z p l e R s m args below meth c nL G N0 A Q h k n pc lv st := by
  obtain ⟨hx, hb, hml, hown, hts, hlocks, hKD, hSF, hA0, hAN⟩ := F
  intro H locs ls hP hA hS hl
  exact va_gets hx hb hSF.2.2.2.2.2.2.2.1 (hAH (F0' := A) hAN hS hSF) hown (hts _ hlink) (fun _ z => z) d (K H locs ls hP hA hS hl)
theorem z_getOnes {idx : Nat} (F : Fx p s m args meth c own cc nL G N0 A) (hlink : Cond.fieldLink own idx "java/lang/Integer" "DigitOnes" "[B" ∈ LW) (d : decode cc pc = .ok (.getstatic idx, 3))
    (K : Z p l e R s m args below meth c nL G N0 A Q h k n (pc + 3) lv (vR (G.2.2 2) :: st)) : Z p l e R s m args below meth c nL G N0 A Q h k n pc lv st := by
  obtain ⟨hx, hb, hml, hown, hts, hlocks, hKD, hSF, hA0, hAN⟩ := F
  intro H locs ls hP hA hS hl
  exact va_gets hx hb hSF.2.2.2.2.2.2.2.2.1 (hAH (F0' := A) hAN hS hSF) hown (hts _ hlink) (fun _ z => z) d (K H locs ls hP hA hS hl)
theorem z_tens {z : Int} (F : Fx p s m args meth c own cc nL G N0 A) (hz : 0 ≤ z ∧ z < 100) (d : decode cc pc = .ok (.baload, 1))
    (K : Z p l e R s m args below meth c nL G N0 A Q h k n (pc + 1) lv (vI (48 + z / 10) :: st)) : Z p l e R s m args below meth c nL G N0 A Q h k n pc lv (vI z :: vR (G.2.2 1) :: st) := by
  obtain ⟨hx, hb, hml, hown, hts, hlocks, hKD, hSF, hA0, hAN⟩ := F
  intro H locs ls hP hA hS hl
  refine va_tb (v := .int (iI (48 + z / 10))) hx hb hSF.2.2.2.2.2.2.2.2.2.1 (hAH (F0' := A) hAN hS hSF) (iI_vp hz.1 (by omega) (by decide)) ?_ d (K H locs ls hP hA hS hl)
  rw [iI_clamp (by omega), show ((z.toNat : Nat) : Int) = z by omega]
theorem z_ones {z : Int} (F : Fx p s m args meth c own cc nL G N0 A) (hz : 0 ≤ z ∧ z < 100) (d : decode cc pc = .ok (.baload, 1))
    (K : Z p l e R s m args below meth c nL G N0 A Q h k n (pc + 1) lv (vI (48 + z % 10) :: st)) : Z p l e R s m args below meth c nL G N0 A Q h k n pc lv (vI z :: vR (G.2.2 2) :: st) := by
  obtain ⟨hx, hb, hml, hown, hts, hlocks, hKD, hSF, hA0, hAN⟩ := F
  intro H locs ls hP hA hS hl
  refine va_tb (v := .int (iI (48 + z % 10))) hx hb hSF.2.2.2.2.2.2.2.2.2.2.1 (hAH (F0' := A) hAN hS hSF) (iI_vp hz.1 (by omega) (by decide)) ?_ d (K H locs ls hP hA hS hl)
  rw [iI_clamp (by omega), show ((z.toNat : Nat) : Int) = z by omega]
end ZB
