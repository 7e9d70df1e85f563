/-! PURE, part C: the mutators. Rel: class's world row u and reference's row m are alike on what lives; settings and carriers are named -/
def LV (nb np t : Nat) : Prop := t < 336 ∨ (∃ i k, i < nb ∧ k < 22 ∧ t = 336+24*i+k) ∨ (∃ p k, p < np ∧ k < 7 ∧ t = 432+8*p+k) ∨ (464 ≤ t ∧ t < 467)
def Rel (nb np : Nat) (S C : Nat → Int32) (u m : Nat → Int32) : Prop := (∀ t, LV nb np t → u t = m t) ∧ (∀ k, k < 4 → m (480+k) = S k) ∧ (∀ k, k < 4 → u (470+k) = C k) ∧ (∀ k, k < 4 → m (484+k) = C k) ∧ nb ≤ 4 ∧ np ≤ 4 ∧ (m 464).toInt = nb ∧ (m 465).toInt = np
theorem Rel.eq {nb np : Nat} {S C u m : Nat → Int32} (h : Rel nb np S C u m) : ∀ t, LV nb np t → u t = m t := h.1
theorem Rel.se {nb np : Nat} {S C u m : Nat → Int32} (h : Rel nb np S C u m) : ∀ k, k < 4 → m (480+k) = S k := h.2.1
theorem Rel.cu {nb np : Nat} {S C u m : Nat → Int32} (h : Rel nb np S C u m) : ∀ k, k < 4 → u (470+k) = C k := h.2.2.1
theorem Rel.cm {nb np : Nat} {S C u m : Nat → Int32} (h : Rel nb np S C u m) : ∀ k, k < 4 → m (484+k) = C k := h.2.2.2.1
theorem Rel.nb4 {nb np : Nat} {S C u m : Nat → Int32} (h : Rel nb np S C u m) : nb ≤ 4 := h.2.2.2.2.1
theorem Rel.np4 {nb np : Nat} {S C u m : Nat → Int32} (h : Rel nb np S C u m) : np ≤ 4 := h.2.2.2.2.2.1
theorem Rel.nbm {nb np : Nat} {S C u m : Nat → Int32} (h : Rel nb np S C u m) : (m 464).toInt = nb := h.2.2.2.2.2.2.1
theorem Rel.npm {nb np : Nat} {S C u m : Nat → Int32} (h : Rel nb np S C u m) : (m 465).toInt = np := h.2.2.2.2.2.2.2
theorem Rel.T {nb np : Nat} {S C u m : Nat → Int32} (h : Rel nb np S C u m) : ET u m := fun t ht => h.eq t (Or.inl ht)
theorem Rel.B {nb np i : Nat} {S C u m : Nat → Int32} (h : Rel nb np S C u m) (hi : i < nb) : EI u m i := fun k hk => h.eq _ (Or.inr (Or.inl ⟨i, k, hi, hk, rfl⟩))
theorem Rel.P {nb np : Nat} {S C u m : Nat → Int32} (h : Rel nb np S C u m) : EP u m := ⟨h.eq 465 (Or.inr (Or.inr (Or.inr ⟨by decide, by decide⟩))), fun p _ hp k hk => h.eq _ (Or.inr (Or.inr (Or.inl ⟨p, k, by have := h.npm; omega, hk, rfl⟩)))⟩
theorem Rel.ok {nb np : Nat} {S C u m : Nat → Int32} (h : Rel nb np S C u m) : okW m := by
  have h1 := h.nb4
  have h2 := h.np4
  have h3 := h.nbm
  have h4 := h.npm
  exact ⟨by omega, by omega, by omega, by omega⟩
theorem Rel.up {nb np t : Nat} {S C u m : Nat → Int32} {x y : Int32} (h : Rel nb np S C u m) (ht : t < 464 ∨ t = 466) (hx : x = y) : Rel nb np S C (va_up u t x) (va_up m t y) := by
  subst hx
  refine ⟨fun q hq => ?_, fun k hk => ?_, fun k hk => ?_, fun k hk => ?_, h.nb4, h.np4, ?_, ?_⟩
  · by_cases e : q = t
    · subst e; rw [va_up_self, va_up_self]
    · rw [va_up_ne _ _ e, va_up_ne _ _ e]; exact h.eq q hq
  · rw [va_up_ne _ _ (by omega)]; exact h.se k hk
  · rw [va_up_ne _ _ (by omega)]; exact h.cu k hk
  · rw [va_up_ne _ _ (by omega)]; exact h.cm k hk
  · rw [va_up_ne _ _ (by omega)]; exact h.nbm
  · rw [va_up_ne _ _ (by omega)]; exact h.npm
theorem Rel.i4 {nb np i : Nat} {S C u m : Nat → Int32} (h : Rel nb np S C u m) (hi : i < nb) : i < 4 := Nat.lt_of_lt_of_le hi h.nb4
/-- stepUp: movesUp -/
theorem e_stepUp {nb np i : Nat} {S C u m : Nat → Int32} (h : Rel nb np S C u m) (hi : i < nb) : (f5_stepUp u i).1 = (f7_movesUp m (nI i)).1 ∧ Rel nb np S C (f5_stepUp u i).2 (f7_movesUp m (nI i)).2 := by
  have h4 := h.i4 hi
  have hB := h.B hi
  unfold f5_stepUp f7_movesUp
  simp only [bnd_e]
  rw [o_0 h4, o_1 h4, a_1 h4, e_block h4 h.T hB, hB 0 (by decide), hB 1 (by decide)]
  by_cases hb : f7_blocks m (nI i) (m (336+24*i+0)) (m (336+24*i+1) + 1) = 0
  · rw [if_pos hb, if_pos hb]
    exact ⟨rfl, h.up (Or.inl (by omega)) rfl⟩
  · rw [if_neg hb, if_neg hb]
    exact ⟨rfl, h⟩
