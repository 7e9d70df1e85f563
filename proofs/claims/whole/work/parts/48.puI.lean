theorem e_stepDown {nb np i : Nat} {S C u m : Nat → Int32} {d : Int32} (h : Rel nb np S C u m) (hi : i < nb) (hy : ¬ m (336+24*i+1) = -2147483648) : f5_supportAt u i (u (336+24*i+0)) (u (336+24*i+1)) d = f7_supportBut m (nI i) (f7_of m (nI i) 0) (f7_of m (nI i) 1) d := by
  have h4 := h.i4 hi
  have hB := h.B hi
  rw [o_0 h4, o_1 h4, hB 0 (by decide), hB 1 (by decide)]
  exact e_support h4 h.T hB h.ok h.P hy
theorem e_movesDown {nb np i : Nat} {S C u m : Nat → Int32} (h : Rel nb np S C u m) (hi : i < nb) (hy : ¬ m (336+24*i+1) = -2147483648) : (f5_stepDown u i (-1)).1 = (f7_movesDown m (nI i)).1 ∧ Rel nb np S C (f5_stepDown u i (-1)).2 (f7_movesDown m (nI i)).2 := by
  have h4 := h.i4 hi
  have hB := h.B hi
  unfold f5_stepDown f7_movesDown f7_supportOf f7_supportAt
  simp only [bnd_e]
  rw [e_stepDown h hi hy, a_1 h4]
  by_cases hb : f7_supportBut m (nI i) (f7_of m (nI i) 0) (f7_of m (nI i) 1) (-1) = 0
  · rw [if_pos hb, if_pos hb]
    refine ⟨rfl, h.up (Or.inl (by omega)) ?_⟩
    rw [hB 1 (by decide), Int32.sub_eq_add_neg]
  · rw [if_neg hb, if_neg hb]
    exact ⟨rfl, h⟩
theorem e_isStanding {nb np i : Nat} {S C u m : Nat → Int32} (h : Rel nb np S C u m) (hi : i < nb) (hy : ¬ m (336+24*i+1) = -2147483648) : f5_isStanding u i = f7_doesStand m (nI i) := by
  have h4 := h.i4 hi
  have hB := h.B hi
  unfold f5_isStanding f7_doesStand f7_supportOf f7_supportAt
  simp only [bnd_e]
  rw [e_stepDown h hi hy, o_3 h4, hB 3 (by decide)]
