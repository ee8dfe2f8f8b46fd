/-! the frame, for methods that may throw -/
theorem CtX.frame {l : Launch} {G : GG} {N0 : Nat} {y : MethodName} {ws : List Cond} {rm : Room} {as : List AV} {h h1 : Hp} {P : Option AV → Hp → Prop} {X : String → Hp → Prop} (H : CtX l G N0 y ws rm as h1 P X) (hs : SB h1 h) : CtX l G N0 y ws rm as h (fun r h' => ∃ h1', P r h1' ∧ (∀ a, h1' a ≠ none → h1 a ≠ none ∨ h a = none) ∧ h' = mgH h h1 h1') (fun E h' => ∃ h1', X E h1' ∧ (∀ a, h1' a ≠ none → h1 a ≠ none ∨ h a = none) ∧ h' = mgH h h1 h1') := by
  intro sz
  refine MetFree.mono (H sz) (fun a s hp => ?_) (fun _ _ _ _ _ k => k) (fun a st o t hp hq => ?_)
  · obtain ⟨q0, q1, q2, q3, q4⟩ := hp
    exact ⟨q0, q1, fun b e he => q2 b e (hs b e he), q3, q4⟩
  · obtain ⟨q0, q1, q2, q3, q4⟩ := hp
    rcases hq with ⟨⟨r, h1', ho, hP, hB⟩, L, hF, hL⟩ | ⟨q, ho, E, ce, L, ⟨h1', hX, hB⟩, x1, x2, x3, x4, x5, hL⟩
    · obtain ⟨b1, b2⟩ := cB_frame hs q2 q1 hB
      exact Or.inl ⟨⟨r, _, ho, ⟨h1', hP, b2, rfl⟩, b1⟩, L, hF, fun q hq => hs.cA (hL q hq)⟩
    · obtain ⟨b1, b2⟩ := cB_frame hs q2 q1 hB
      exact Or.inr ⟨q, ho, E, ce, L, ⟨_, ⟨h1', hX, b2, rfl⟩, b1⟩, x1, x2, x3, x4, x5, fun z hz => hs.cA (hL z hz)⟩
theorem CtX.mono {l : Launch} {G : GG} {N0 : Nat} {y : MethodName} {ws : List Cond} {rm : Room} {as : List AV} {h : Hp} {P P2 : Option AV → Hp → Prop} {X X2 : String → Hp → Prop} (H : CtX l G N0 y ws rm as h P X) (hp : ∀ r h', P r h' → P2 r h') (hx : ∀ E h', X E h' → X2 E h') : CtX l G N0 y ws rm as h P2 X2 := fun sz => MetFree.mono (H sz) (fun _ _ z => z) (fun _ _ _ _ _ k => k) (fun _ _ _ _ _ hq => by
  rcases hq with ⟨⟨r, h', ho, hP, hB⟩, hL⟩ | ⟨q, ho, E, ce, L, ⟨h', hX, hB⟩, rest⟩
  · exact Or.inl ⟨⟨r, h', ho, hp r h' hP, hB⟩, hL⟩
  · exact Or.inr ⟨q, ho, E, ce, L, ⟨h', hx E h' hX, hB⟩, rest⟩)
/-- a method that only returns is one that may throw -/
theorem Ct.toX {l : Launch} {G : GG} {N0 : Nat} {y : MethodName} {ws : List Cond} {rm : Room} {as : List AV} {h : Hp} {P : Option AV → Hp → Prop} (H : Ct l G N0 y ws rm as h P) (X : String → Hp → Prop) : CtX l G N0 y ws rm as h P X := fun sz => MetFree.mono (H sz) (fun _ _ z => z) (fun _ _ _ _ _ k => k) (fun _ _ _ _ _ hq => Or.inl hq)
