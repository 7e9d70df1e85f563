theorem mv142 {m : Nat → Int32} {i : Nat} {x w : Int32} (hi : i < 4) : (f7_movesAcross_b142 m (nI i) x w).2 (336+24*i+1) = w := by
  unfold f7_movesAcross_b142
  simp only [bnd_e]
  rw [s_1 hi, va_up_self]
theorem mv82 {m : Nat → Int32} {i : Nat} {x w : Int32} (hi : i < 4) : (f7_movesAcross_b82 m (nI i) x w).2 (336+24*i+1) = m (336+24*i+1) ∨ (f7_movesAcross_b82 m (nI i) x w).2 (336+24*i+1) = w ∨ (f7_movesAcross_b82 m (nI i) x w).2 (336+24*i+1) = w + -1 := by
  have hb := fun z => mv142 (m := m) (x := x) (w := z) hi
  unfold f7_movesAcross_b82 f7_movesAcross_b108
  simp only [bnd_e, ↓reduceIte]
  by_cases c1 : f7_blocks m (nI i) x w = 0
  · rw [if_pos c1]
    by_cases c2 : f7_supportOf m (nI i) = 0
    · rw [if_pos c2]; exact Or.inr (Or.inl (hb w))
    · rw [if_neg c2]
      by_cases c3 : f7_supportAt m (nI i) x w = 0
      · rw [if_pos c3]
        by_cases c4 : f7_supportAt m (nI i) x (w - 1) = 0
        · rw [if_pos c4]; exact Or.inr (Or.inl (hb w))
        · rw [if_neg c4]; exact Or.inr (Or.inr (hb _))
      · rw [if_neg c3]; exact Or.inr (Or.inl (hb w))
  · rw [if_neg c1]; exact Or.inl rfl
/-- movesAcross shifts the height by one at most -/
theorem mv_y {m : Nat → Int32} {i : Nat} {d : Int32} (hi : i < 4) : ∃ z, (f7_movesAcross m (nI i) d).2 (336+24*i+1) = z ∧ (z = m (336+24*i+1) ∨ z = m (336+24*i+1) + -1 ∨ z = m (336+24*i+1) + 1 ∨ z = m (336+24*i+1) + 1 + -1) := by
  refine ⟨_, rfl, ?_⟩
  have hb := fun x z => mv82 (m := m) (x := x) (w := z) hi
  unfold f7_movesAcross f7_movesAcross_b80
  simp only [bnd_e]
  rw [o_0 hi, o_1 hi]
  split
  · rcases hb (m (336+24*i+0) + d) (m (336+24*i+1)) with q | q | q
    · exact Or.inl q
    · exact Or.inl q
    · exact Or.inr (Or.inl q)
  · split
    · split
      · rename_i c3
        rw [c3]
        rcases hb (m (336+24*i+0) + d) (m (336+24*i+1) + 1) with q | q | q
        · exact Or.inl q
        · exact Or.inr (Or.inr (Or.inl q))
        · exact Or.inr (Or.inr (Or.inr q))
      · rcases hb (m (336+24*i+0) + d) (m (336+24*i+1)) with q | q | q
        · exact Or.inl q
        · exact Or.inl q
        · exact Or.inr (Or.inl q)
    · exact Or.inl rfl
