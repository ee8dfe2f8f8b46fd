/-! System.arraycopy of references and of bytes, over the Z layer -/
def cpI {α : Type} (f g : Int → α) (sp dp n : Int) : Int → α := fun j => if dp ≤ j ∧ j < dp + n then f (sp + (j - dp)) else g j
theorem cpI_nat {α : Type} {f g : Int → α} {sp dp n : Int} (h1 : 0 ≤ sp) (h2 : 0 ≤ dp) (h3 : 0 ≤ n) (j : Nat) : va_cpy (fun i : Nat => f (i : Int)) (fun i : Nat => g (i : Int)) sp.toNat dp.toNat n.toNat j = cpI f g sp dp n (j : Int) := by
  unfold va_cpy cpI
  by_cases q : dp ≤ (j : Int) ∧ (j : Int) < dp + n
  · rw [if_pos q, if_pos (by omega)]
    show f ((sp.toNat + (j - dp.toNat) : Nat) : Int) = f (sp + ((j : Int) - dp))
    rw [show ((sp.toNat + (j - dp.toNat) : Nat) : Int) = sp + ((j : Int) - dp) by omega]
  · rw [if_neg q, if_neg (by omega)]
section ZA
variable {p : Program} {l : Launch} {e : Env} {R : Room} {s : State} {m : MethodId} {args : Array Value} {below : List Frame} {meth : Method} {c : Code} {own : String} {cc : ByteArray} {nL : Nat} {G : GG} {N0 : Nat} {A : Nat → Prop}
variable {Q : State → Prop} {h : Hp} {k n pc : Nat} {lv : List (Nat × AV)} {st : List AV}
theorem z_acopy {a0 a M0 M1 idx : Nat} {f g : Int → Option Nat} {sp dp len : Int} (F : Fx p s m args meth c own cc nL G N0 A) (h0 : h a0 = some (eA 5 M0 (fun j => vQ (f j)))) (h1 : h a = some (eA 5 M1 (fun j => vQ (g j))))
    (hb : 0 ≤ sp ∧ 0 ≤ dp ∧ 0 ≤ len ∧ sp + len ≤ M0 ∧ dp + len ≤ M1 ∧ (M0 : Int) < 2147483648 ∧ (M1 : Int) < 2147483648)
    (hel : ∀ i : Int, 0 ≤ i → i < len → ∀ y, f (sp + i) = some y → ∃ ci fs, h y = some (eO ci fs) ∧ ∀ r : vw_C, kCl[ci]? = some r → (r.1, "java/lang/Object") ∈ castL)
    (hw : Cond.methodLink own idx arraycopyName ∈ LW ∧ Cond.native arraycopyName ∈ LW ∧ Cond.static arraycopyName ∈ LW ∧ Cond.initialized "java/lang/System" ∈ LW) (hR : 1 ≤ R.frames ∧ catS st + 30 ≤ R.locals) (d : decode cc pc = .ok (.invokestatic idx, 3))
    (K : Z p l e R s m args below meth c nL G N0 A Q (hu h a (eA 5 M1 (fun j => vQ (cpI f g sp dp len j)))) k n (pc + 3) lv st) : Z p l e R s m args below meth c nL G N0 A Q h k n pc lv (vI len :: vI dp :: vR a :: vI sp :: vR a0 :: st) := by
  obtain ⟨hx, hbc, hml, hown, hts, hlocks, hKD, hSF, hA0, hAN⟩ := F
  intro H locs ls hP hA hS hl
  have z0 : (0 : Int32) = iI 0 := by decide
  have n1 : ¬ iI sp < 0 := by rw [z0, iI_lt (by omega) (by omega)]; omega
  have n2 : ¬ iI dp < 0 := by rw [z0, iI_lt (by omega) (by omega)]; omega
  have n3 : ¬ iI len < 0 := by rw [z0, iI_lt (by omega) (by omega)]; omega
  have c1 : (iI sp).toNatClampNeg = sp.toNat := iI_clamp (by omega)
  have c2 : (iI dp).toNatClampNeg = dp.toNat := iI_clamp (by omega)
  have c3 : (iI len).toNatClampNeg = len.toNat := iI_clamp (by omega)
  have hc0 : H[a0]? = some (arrV (G.2.1 5) M0 (fun j => va_rf (f (j : Int)))) := (hP _ _ h0).2
  have hc1 : H[a]? = some (arrV (G.2.1 5) M1 (fun j => va_rf (g (j : Int)))) := (hP _ _ h1).2
  obtain ⟨-, k0, hk0, cm0, hkk0⟩ := (hKD.2 5 _ rfl).1 M0 (fun j => va_rf (f (j : Int)))
  intro T hT X
  obtain ⟨vm', X', step⟩ := X.arraycopy hx hown (hts _ hw.1) (hts _ hw.2.1) (hts _ hw.2.2.1) (hts _ hw.2.2.2) (src := a0) (dst := a) (cs := arrV (G.2.1 5) M0 (fun j => va_rf (f (j : Int)))) (cd := arrV (G.2.1 5) M1 (fun j => va_rf (g (j : Int)))) (srcPos := iI sp) (destPos := iI dp) (n := iI len) (by rw [hT]; exact hc0) (by rw [hT]; exact hc1)
    (fun _ h => by cases h) (fun _ h => by cases h) (fun h => by cases h) (fun h => by cases h) hk0 hk0 hkk0 hkk0 rfl n1 n2 n3
    (by rw [iI_toInt (by omega), iI_toInt (by omega), arrV_size]; omega)
    (by rw [iI_toInt (by omega), iI_toInt (by omega), arrV_size]; omega)
    (fun vm₁ hal i hi => by
      rw [c3] at hi
      have e9 : (arrV (G.2.1 5) M0 (fun j => va_rf (f (j : Int)))).slots.getD ((iI sp).toNatClampNeg + i) .null = va_rf (f (sp + i)) := by
        rw [c1, Array.getD_eq_getD_getElem?, arrV_read _ _ (by omega)]
        show va_rf (f ((sp.toNat + i : Nat) : Int)) = _
        rw [show ((sp.toNat + i : Nat) : Int) = sp + i by omega]
      rw [e9]
      cases hy : f (sp + i) with
      | none => exact ⟨rfl, trivial⟩
      | some y =>
        obtain ⟨ci, fs, hy1, hy2⟩ := hel i (by omega) (by omega) y hy
        obtain ⟨r, hr, cellV, g1, g2, g3, -⟩ := (hP _ _ hy1).2
        have hcls := (hKD.1 ci r hr).2
        obtain ⟨kA, comp, r1, r2, r3, -⟩ := (hKD.2 5 _ rfl).2
        cases hk0.symm.trans r1
        cases hkk0.symm.trans r2
        obtain ⟨cc0, t1, f1, f2, f3⟩ := Cond.castable_spec (va_Nw.use (A := args) rfl (hSF.2.2.2.2.2.1.2.1 _ (hy2 r hr)))
        cases hcls.1.symm.trans f1
        cases r3.symm.trans f2
        obtain ⟨kC, hkC, -⟩ := hcls.2
        obtain ⟨kE, hkE, -⟩ := Vm.findClass_spec r3
        obtain ⟨kC', hkC', -⟩ := hal.2.2 _ _ hkC
        obtain ⟨kE', hkE', -⟩ := hal.2.2 _ _ hkE
        refine ⟨rfl, cellV, (show T.heap[y]? = some cellV by rw [hT]; exact g1), (fun q h => by rw [g3] at h; cases h), ⟨kC', by rw [g2]; exact hkC'⟩, ⟨kE', hkE'⟩, ?_⟩
        show vm₁.assignable _ _ = true
        rw [hal.assignable, g2]
        exact f3)
    (g := F0 m pc ls ((vI len :: vI dp :: vR a :: vI sp :: vR a0 :: st).map cv)) rfl (by rw [hml]; exact hl.1) (rest := st.map cv) rfl (by rw [hbc]; exact d) hR.1 (by
      have hz : nativeFrameWords "java/lang/System" "arraycopy" 5 + 11 ≤ 30 := by decide
      have hs := catS_map st
      show 2 * 0 + _ + _ ≤ _
      omega)
  have e1 : copied (arrV (G.2.1 5) M0 (fun j => va_rf (f (j : Int)))) (arrV (G.2.1 5) M1 (fun j => va_rf (g (j : Int)))) (iI sp) (iI dp) (iI len) = arrV (G.2.1 5) M1 (fun j => va_rf (cpI f g sp dp len (j : Int))) := by
    have q := va_copied (fun z => va_rf z) (G.2.1 5) (G.2.1 5) (n0 := M0) (n1 := M1) (sp := sp.toNat) (dp := dp.toNat) (n := len.toNat) (fun j : Nat => f (j : Int)) (fun j : Nat => g (j : Int)) (by omega)
    unfold copied
    rw [c1, c2, c3, q]
    congr 1
    funext j
    rw [cpI_nat hb.1 hb.2.1 hb.2.2.1 j]
  rw [e1] at X' step
  have hl9 : a < H.size := (hP _ _ h1).2.lt
  have oq : ∀ q : Nat, q ≠ a → (H.setIfInBounds a (arrV (G.2.1 5) M1 (fun j => va_rf (cpI f g sp dp len (j : Int)))))[q]? = H[q]? := fun q hq => by simp [Array.getElem?_setIfInBounds, Ne.symm hq]
  have aA : A a := mem_dom hA h1
  obtain ⟨t, a1, b1⟩ := K (H.setIfInBounds a (arrV (G.2.1 5) M1 (fun j => va_rf (cpI f g sp dp len (j : Int))))) _ ls (hP.put (hP _ _ h1).1 (show (H.setIfInBounds a _)[a]? = some _ by simp [Array.getElem?_setIfInBounds, hl9]; rfl) (fun b hb9 _ => oq b hb9)) (dom_hu hA aA) ⟨by simp; exact hS.1, fun q g1 g2 => by
      rw [oq q (fun w => g2 (by rw [w]; exact aA))]
      exact hS.2.1 q g1 g2, fun q hq => by
      rcases List.mem_append.mp hq with w | w
      · exact hS.2.2 q w
      · obtain ⟨z, -, hz⟩ := List.mem_map.mp w
        rw [← hz]
        exact aA⟩ hl _ (by rw [← hT]; rfl) X'
  exact ⟨t, step t a1, b1⟩
/-- the mirror of Object[] -/
theorem z_ldcM {idx : Nat} (F : Fx p s m args meth c own cc nL G N0 A) (hcl : Cond.classLink own idx "[Ljava/lang/Object;" ∈ LW) (d : decode cc pc = .ok (.ldc idx, 2))
    (K : Z p l e R s m args below meth c nL G N0 A Q h k n (pc + 2) lv (vR (G.2.2 3) :: st)) : Z p l e R s m args below meth c nL G N0 A Q h k n pc lv st := by
  obtain ⟨hx, hb, hml, hown, hts, hlocks, hKD, hSF, hA0, hAN⟩ := F
  intro H locs ls hP hA hS hl
  exact va_ldcM hx hb hown (hts _ hcl) hSF.2.2.2.2.2.1.2.2.2.2.1 d (K H locs ls hP hA hS hl)
theorem z_getCl {a N idx : Nat} {f : Int → AV} (F : Fx p s m args meth c own cc nL G N0 A) (he : h a = some (eA 5 N f)) (hw : Cond.methodLink own idx ⟨"java/lang/Object", "getClass", "()Ljava/lang/Class;"⟩ ∈ LW ∧ Cond.selects "[Ljava/lang/Object;" ⟨"java/lang/Object", "getClass", "()Ljava/lang/Class;"⟩ ⟨"java/lang/Object", "getClass", "()Ljava/lang/Class;"⟩ ∈ LW ∧ Cond.instanceMethod ⟨"java/lang/Object", "getClass", "()Ljava/lang/Class;"⟩ ∈ LW ∧ Cond.native ⟨"java/lang/Object", "getClass", "()Ljava/lang/Class;"⟩ ∈ LW) (hR : 1 ≤ R.frames ∧ catS st + 14 ≤ R.locals) (d : decode cc pc = .ok (.invokevirtual idx, 3))
    (K : Z p l e R s m args below meth c nL G N0 A Q h k n (pc + 3) lv (vR (G.2.2 3) :: st)) : Z p l e R s m args below meth c nL G N0 A Q h k n pc lv (vR a :: st) := by
  obtain ⟨hx, hb, hml, hown, hts, hlocks, hKD, hSF, hA0, hAN⟩ := F
  intro H locs ls hP hA hS hl
  obtain ⟨kA, comp, k1, k2, k3, k4⟩ := (hKD.2 5 _ rfl).2
  exact va_getC hx hb (by rw [hml]; exact hl.1.symm) hown (hts _ hw.1) (va_Dc.use hSF.2.2.2.2.2.1.2.2.2.2.2.1) (hts _ hw.2.1) (hts _ hw.2.2.1) (hts _ hw.2.2.2) hSF.2.2.2.2.2.1.2.2.2.2.1 ⟨_, (hP _ _ he).2, rfl, k4⟩ hR.1 (by have := catS_map st; have h2 := hR.2; omega) d (K H locs ls hP hA hS hl)
end ZA
