theorem e_steerIce {nb np i : Nat} {S C u m : Nat → Int32} (h : Rel nb np S C u m) (hi : i < nb) : f4_firmKindsBelow u i (u (336+24*i+0)) (u (336+24*i+1)) = f7_firmBelow m (nI i) (f7_of m (nI i) 0) (f7_of m (nI i) 1) := by
  have h4 := h.i4 hi
  have hB := h.B hi
  rw [o_0 h4, o_1 h4, hB 0 (by decide), hB 1 (by decide)]
  exact e_firmBelow h4 h.T hB
theorem up_comm {u : Nat → Int32} {a b : Nat} {x y : Int32} (h : a ≠ b) : va_up (va_up u a x) b y = va_up (va_up u b y) a x := by
  funext t
  by_cases h1 : t = b
  · subst h1
    rw [va_up_self, va_up_ne _ _ (fun z => h z.symm), va_up_self]
  · rw [va_up_ne _ _ h1]
    by_cases h2 : t = a
    · subst h2
      rw [va_up_self, va_up_self]
    · rw [va_up_ne _ _ h2, va_up_ne _ _ h2, va_up_ne _ _ h1]
/-- stepsAcross's count: one more place, or as it stands -/
theorem Rel.noR {nb np t : Nat} {S C u m : Nat → Int32} (h : Rel nb np S C u m) : Rel nb np S C u (va_up m t (m t + 0)) := by
  rw [Int32.add_zero, up_eta]
  exact h
