/-- heights far from the ends of the ints -/
def YR (y : Int32) : Prop := -1000000000 < y.toInt ∧ y.toInt < 1000000000
theorem YR.ne {y : Int32} (h : YR y) : ¬ y = -2147483648 := fun e => by
  have h1 := h.1
  rw [e, show ((-2147483648 : Int32)).toInt = -2147483648 from rfl] at h1
  omega
theorem YR.p1 {y : Int32} (h : YR y) : (y + 1).toInt = y.toInt + 1 := by
  have h1 := h.1
  have h2 := h.2
  rw [Int32.toInt_add, show (1 : Int32).toInt = 1 from rfl, Int.bmod_def]
  split <;> omega
theorem YR.m1 {y : Int32} (h : YR y) : (y - 1).toInt = y.toInt - 1 := by
  have h1 := h.1
  have h2 := h.2
  rw [Int32.toInt_sub, show (1 : Int32).toInt = 1 from rfl, Int.bmod_def]
  split <;> omega
theorem ne_min {y : Int32} (h : -2147483648 < y.toInt) : ¬ y = -2147483648 := fun e => by
  rw [e, show ((-2147483648 : Int32)).toInt = -2147483648 from rfl] at h
  omega
/-- stepSideways: movesAcross -/
theorem e_sideways {nb np i : Nat} {S C u m : Nat → Int32} {d : Int32} (h : Rel nb np S C u m) (hi : i < nb) (hy : YR (m (336+24*i+1))) : R2 nb np S C (f5_stepSideways u i d) (f7_movesAcross m (nI i) d) := by
  have h4 := h.i4 hi
  have hB := h.B hi
  have p1 := hy.p1
  have m1 := hy.m1
  have y1 := hy.1
  have y2 := hy.2
  have hb := fun z hw hw1 => e_b57 (x := m (336+24*i+0) + d) (w := z) h hi hw hw1 hy.ne
  have h0 : R2 nb np S C ((0 : Int32), u) (0, m) := ⟨rfl, h⟩
  unfold f5_stepSideways f7_movesAcross f7_movesAcross_b80
  simp only [bnd_e]
  rw [o_0 h4, o_1 h4, hB 0 (by decide), hB 1 (by decide), e_foot h4 hB, e_surf h.T]
  by_cases c1 : f7_isSlope (f7_kindAt m (f0_footAt u i (m (336+24*i+0) + d)) (m (336+24*i+1))) = 0
  · rw [if_pos c1, if_pos c1, if_pos (by rw [Int32.le_iff_toInt_le, p1, show ((-2147483648 : Int32)).toInt = -2147483648 from rfl]; omega), if_neg (fun e => ne_min (y := m (336+24*i+1) + 1) (by omega) e.symm)]
    exact hb _ hy.ne (ne_min (by omega))
  · rw [if_neg c1, if_neg c1]
    by_cases c2 : f7_surfaceAt m (f0_footAt u i (m (336+24*i+0) + d)) (m (336+24*i+1)) ≤ m (336+24*i+1) + 1
    · rw [if_pos c2, if_pos c2]
      by_cases c3 : f7_surfaceAt m (f0_footAt u i (m (336+24*i+0) + d)) (m (336+24*i+1)) = m (336+24*i+1) + 1
      · rw [if_pos c3, if_pos c3, c3]
        exact hb _ (ne_min (by omega)) (by rw [show m (336+24*i+1) + 1 - 1 = m (336+24*i+1) by rw [Int32.sub_eq_add_neg, Int32.add_assoc, Int32.add_right_neg, Int32.add_zero]]; exact hy.ne)
      · rw [if_neg c3, if_neg c3]
        exact hb _ hy.ne (ne_min (by omega))
    · rw [if_neg c2, if_neg c2]
      exact h0
