theorem e_supAt {nb np i : Nat} {S C u m : Nat → Int32} {x y : Int32} (h : Rel nb np S C u m) (hi : i < nb) (hy : ¬ y = -2147483648) : f5_supportAt u i x y (-1) = f7_supportBut m (nI i) x y (-1) := e_support (h.i4 hi) h.T (h.B hi) h.ok h.P hy
theorem e_b119 {nb np i : Nat} {S C u m : Nat → Int32} {x y : Int32} (h : Rel nb np S C u m) (hi : i < nb) : R2 nb np S C (f5_stepSideways_b119 u i x y) (f7_movesAcross_b142 m (nI i) x y) := by
  have h4 := h.i4 hi
  unfold f5_stepSideways_b119 f7_movesAcross_b142
  simp only [bnd_e]
  rw [s_0 h4, s_1 h4]
  exact ⟨rfl, e_set (e_set h hi (by decide) rfl) hi (by decide) rfl⟩
theorem e_b57 {nb np i : Nat} {S C u m : Nat → Int32} {x w : Int32} (h : Rel nb np S C u m) (hi : i < nb) (hw : ¬ w = -2147483648) (hw1 : ¬ w - 1 = -2147483648) (hy : ¬ m (336+24*i+1) = -2147483648) : R2 nb np S C (f5_stepSideways_b57 u i x w) (f7_movesAcross_b82 m (nI i) x w) := by
  have h4 := h.i4 hi
  have hB := h.B hi
  have hb := fun z => e_b119 (x := x) (y := z) h hi
  unfold f5_stepSideways_b57 f7_movesAcross_b82 f7_movesAcross_b108 f7_supportOf f7_supportAt
  simp only [bnd_e, ↓reduceIte]
  rw [e_block h4 h.T hB, e_supAt h hi hw, e_supAt h hi hw1, e_stepDown h hi hy]
  by_cases c1 : f7_blocks m (nI i) x w = 0
  · rw [if_pos c1, if_pos c1]
    by_cases c2 : f7_supportBut m (nI i) (f7_of m (nI i) 0) (f7_of m (nI i) 1) (-1) = 0
    · rw [if_pos c2, if_pos c2]
      split
      · exact hb w
      · exact hb w
    · rw [if_neg c2, if_neg c2]
      by_cases c3 : f7_supportBut m (nI i) x w (-1) = 0
      · rw [if_pos c3, if_pos c3]
        by_cases c4 : f7_supportBut m (nI i) x (w - 1) (-1) = 0
        · rw [if_pos c4, if_pos c4]; exact hb w
        · rw [if_neg c4, if_neg c4]; exact hb _
      · rw [if_neg c3, if_neg c3]; exact hb w
  · rw [if_neg c1, if_neg c1]
    exact ⟨rfl, h⟩
