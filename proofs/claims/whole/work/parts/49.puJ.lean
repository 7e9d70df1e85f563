/-- the two rows' values are alike in 1 and Rel in 2 -/
def R2 (nb np : Nat) (S C : Nat → Int32) (a b : Int32 × (Nat → Int32)) : Prop := a.1 = b.1 ∧ Rel nb np S C a.2 b.2
theorem R2_bnd {nb np : Nat} {S C : Nat → Int32} {a b : Int32 × (Nat → Int32)} {k l : Int32 → (Nat → Int32) → (Nat → Int32)} (h : R2 nb np S C a b) (hk : ∀ r u m, Rel nb np S C u m → Rel nb np S C (k r u) (l r m)) : Rel nb np S C (bnd2 a k) (bnd2 b l) := by
  unfold bnd2
  have h1 := h.1
  have h2 := h.2
  rw [h1]
  exact hk _ _ _ h2
theorem e_set {nb np i k : Nat} {S C u m : Nat → Int32} {x y : Int32} (h : Rel nb np S C u m) (hi : i < nb) (hk : k < 22) (hx : x = y) : Rel nb np S C (va_up u (336+24*i+k) x) (va_up m (336+24*i+k) y) := h.up (Or.inl (by have := h.i4 hi; omega)) hx
theorem e_calm {nb np i : Nat} {S C u m : Nat → Int32} (h : Rel nb np S C u m) (hi : i < nb) : Rel nb np S C (f0_calmDown u i) (va_up (va_up (va_up (va_up (va_up (va_up m (336+24*i+2) 0) (336+24*i+3) 0) (336+24*i+4) 0) (336+24*i+5) 0) (336+24*i+6) 0) (336+24*i+11) 0) := by
  unfold f0_calmDown
  simp only [bnd_e]
  exact e_set (e_set (e_set (e_set (e_set (e_set h hi (by decide) rfl) hi (by decide) rfl) hi (by decide) rfl) hi (by decide) rfl) hi (by decide) rfl) hi (by decide) rfl
