def YB (k : Int) (y : Int32) : Prop := -1000000000 + k < y.toInt ∧ y.toInt < 1000000000 - k
theorem YB.R {k : Int} {y : Int32} (h : YB k y) (h0 : 0 ≤ k) : YR y := ⟨by have := h.1; omega, by have := h.2; omega⟩
theorem YB.le {k k2 : Int} {y : Int32} (h : YB k y) (h0 : k2 ≤ k) : YB k2 y := ⟨by have := h.1; omega, by have := h.2; omega⟩
theorem add_m1 {x : Int32} (h : 0 < x.toInt) : (x + -1).toInt = x.toInt - 1 := by
  have h1 := x.toInt_lt
  rw [Int32.toInt_add, show ((-1 : Int32)).toInt = -1 from rfl, Int.bmod_def]
  split <;> omega
theorem YR.n1 {y : Int32} (h : YR y) : (y + -1).toInt = y.toInt - 1 := by
  have h1 := h.1
  have h2 := h.2
  rw [Int32.toInt_add, show ((-1 : Int32)).toInt = -1 from rfl, Int.bmod_def]
  split <;> omega
theorem mv_yb {m : Nat → Int32} {i : Nat} {d : Int32} {k : Int} (hi : i < 4) (h0 : 0 ≤ k) (h : YB (k+1) (m (336+24*i+1))) : YB k ((f7_movesAcross m (nI i) d).2 (336+24*i+1)) := by
  obtain ⟨z, e, hz⟩ := mv_y (m := m) (d := d) hi
  rw [e]
  have hr := h.R (by omega)
  have h1 := h.1
  have h2 := h.2
  have a := hr.n1
  have b := hr.p1
  rcases hz with q | q | q | q
  · rw [q]; exact ⟨by omega, by omega⟩
  · rw [q]; exact ⟨by omega, by omega⟩
  · rw [q]; exact ⟨by omega, by omega⟩
  · rw [q, show m (336+24*i+1) + 1 + -1 = m (336+24*i+1) by rw [Int32.add_assoc, show (1 : Int32) + -1 = 0 from rfl, Int32.add_zero]]; exact ⟨by omega, by omega⟩
/-- stepsAcross: a move and its count -/
theorem e_stepsAcross {nb np i : Nat} {S C u m : Nat → Int32} {d : Int32} (h : Rel nb np S C u m) (hi : i < nb) (hy : YR (m (336+24*i+1))) :
    (f5_stepSideways u i d).1 = (f7_stepsAcross m (nI i) d).1 ∧ ((f5_stepSideways u i d).1 = 0 → Rel nb np S C (f5_stepSideways u i d).2 (f7_stepsAcross m (nI i) d).2) ∧ (¬ (f5_stepSideways u i d).1 = 0 → Rel nb np S C (va_up (f5_stepSideways u i d).2 (336+24*i+18) ((f5_stepSideways u i d).2 (336+24*i+18) + 1)) (f7_stepsAcross m (nI i) d).2) ∧ (f7_stepsAcross m (nI i) d).2 (336+24*i+1) = (f7_movesAcross m (nI i) d).2 (336+24*i+1) := by
  have h4 := h.i4 hi
  obtain ⟨e1, e2⟩ := e_sideways (d := d) h hi hy
  unfold f7_stepsAcross bnd2
  simp only [bnd_e]
  rw [e1]
  by_cases c : (f7_movesAcross m (nI i) d).1 = 0
  · rw [if_pos c, a_18 h4]
    exact ⟨rfl, fun _ => e2.noR, fun z => absurd c z, va_up_ne _ _ (by omega)⟩
  · rw [if_neg c, a_18 h4]
    refine ⟨rfl, fun z => absurd z c, fun _ => e_set e2 hi (by decide) ?_, va_up_ne _ _ (by omega)⟩
    rw [e2.B hi 18 (by decide)]
