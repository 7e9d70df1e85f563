theorem copyT_ch {σ : Nat → Nat → Int32} {w v : Nat} : (∀ r t, ¬ r = w → f4_copyFrom σ w v r t = σ r t) ∧ (∀ t, t < 336 → f4_copyFrom σ w v w t = σ v t) ∧ (∀ t, 336 ≤ t → f4_copyFrom σ w v w t = σ w t) := by
  unfold f4_copyFrom
  simp only [bnd_e]
  refine ⟨fun r t h => (by rw [va_up_ne _ _ h]), fun t h => ?_, fun t h => ?_⟩
  · rw [va_up_self]
    have h2 := cpw_in (v := σ v) (u := σ w) (o := 0) (o2 := 0) (n := 336) (k := t) h
    rw [Nat.zero_add] at h2
    exact h2
  · rw [va_up_self, cpw_out (by omega)]
def CW (σ : Nat → Nat → Int32) (w v : Nat) (m : Nat) (s : Nat → Nat → Int32) : Prop := (∀ r t, ¬ r = w → s r t = σ r t) ∧ (∀ t, t < 336 → s w t = σ v t) ∧ (∀ t, 464 ≤ t → t < m → s w t = σ v t) ∧ (∀ t, 336 ≤ t → (t < 464 ∨ m ≤ t) → s w t = σ w t)
theorem CW_up {σ s : Nat → Nat → Int32} {w v m : Nat} (hne : ¬ w = v) (hm : 464 ≤ m) (h : CW σ w v m s) : CW σ w v (m+1) (va_up s w (va_up (s w) m (s v m))) := by
  refine ⟨fun r t hr => (by rw [va_up_ne _ _ hr]; exact h.1 r t hr), fun t ht => ?_, fun t h1 h2 => ?_, fun t h1 h2 => ?_⟩
  · rw [va_up_self, va_up_ne _ _ (by omega)]; exact h.2.1 t ht
  · rw [va_up_self]
    by_cases e : t = m
    · subst e
      rw [va_up_self]
      exact h.1 v t (fun z => hne z.symm)
    · rw [va_up_ne _ _ e]; exact h.2.2.1 t h1 (by omega)
  · rw [va_up_self, va_up_ne _ _ (by omega)]; exact h.2.2.2 t h1 (by omega)
theorem copyW_ex {σ : Nat → Nat → Int32} {w v : Nat} (hne : ¬ w = v) : ∃ s, f5_copyFrom σ w v = f5_copyFrom_L37 w v BIG 0 s ∧ CW σ w v 467 s := by
  unfold f5_copyFrom
  refine bnd_p (P := fun (z : Nat → Nat → Int32) => ∃ s, z = f5_copyFrom_L37 w v BIG 0 s ∧ CW σ w v 467 s) (fun (s : Nat → Nat → Int32) => CW σ w v 464 s) ⟨copyT_ch.1, copyT_ch.2.1, fun t h1 h2 => by omega, fun t h1 _ => copyT_ch.2.2 t h1⟩ (fun s h => ?_)
  refine bnd_p (P := fun (z : Nat → Nat → Int32) => ∃ s, z = f5_copyFrom_L37 w v BIG 0 s ∧ CW σ w v 467 s) (fun (s : Nat → Nat → Int32) => CW σ w v 465 s) (CW_up hne (by decide) h) (fun s h => ?_)
  refine bnd_p (P := fun (z : Nat → Nat → Int32) => ∃ s, z = f5_copyFrom_L37 w v BIG 0 s ∧ CW σ w v 467 s) (fun (s : Nat → Nat → Int32) => CW σ w v 466 s) (CW_up hne (by decide) h) (fun s h => ?_)
  refine bnd_p (P := fun (z : Nat → Nat → Int32) => ∃ s, z = f5_copyFrom_L37 w v BIG 0 s ∧ CW σ w v 467 s) (fun (s : Nat → Nat → Int32) => CW σ w v 467 s) (CW_up hne (by decide) h) (fun s h => ?_)
  exact ⟨s, rfl, h⟩
/-- World.copyFrom: w's tiles, counts, time, live bodies and platforms are v's; the rest stands -/
theorem copyW_ch {σ : Nat → Nat → Int32} {w v : Nat} (hne : ¬ w = v) (h4 : (σ v 464).toInt ≤ 4) (h5 : (σ v 465).toInt ≤ 4) :
    (∀ r t, ¬ r = w → f5_copyFrom σ w v r t = σ r t) ∧ (∀ t, t < 336 → f5_copyFrom σ w v w t = σ v t) ∧ (∀ t, 464 ≤ t → t < 467 → f5_copyFrom σ w v w t = σ v t) ∧ (∀ t, 467 ≤ t → f5_copyFrom σ w v w t = σ w t) ∧
    (∀ i k : Nat, k < 22 → (i : Int) < (σ v 464).toInt → f5_copyFrom σ w v w (336+24*i+k) = bval σ v i k) ∧
    (∀ p k : Nat, k < 7 → (p : Int) < (σ v 465).toInt → f5_copyFrom σ w v w (432+8*p+k) = σ v (432+8*p+k)) := by
  obtain ⟨s, e, h1, h2, h3, h6⟩ := copyW_ex (σ := σ) hne
  rw [e]
  have a4 : s w 464 = σ v 464 := h3 464 (by decide) (by decide)
  have a5 : s w 465 = σ v 465 := h3 465 (by decide) (by decide)
  have hv : ∀ t, s v t = σ v t := fun t => h1 v t (fun z => hne z.symm)
  obtain ⟨i1, i2, -, i4⟩ := L37_ch hne BIG 0 s (by decide) (by rw [a4]; exact h4) (by rw [a5]; exact h5) (big_i4 0)
  refine ⟨fun r t h => (i1 r t (Or.inl h)).trans (h1 r t h), fun t h => (i1 w t (Or.inr (Or.inl h))).trans (h2 t h), fun t q1 q2 => (i1 w t (Or.inr (Or.inr q1))).trans (h3 t q1 q2), fun t q => (i1 w t (Or.inr (Or.inr (by omega)))).trans (h6 t (by omega) (Or.inr q)), fun i k hk hi => ?_, fun p k hk hp => ?_⟩
  · rw [i2 i k hk (show (0 : Int) ≤ i by omega) (by rw [a4]; exact hi)]
    exact bval_eq hv
  · rw [i4 p k hk (by rw [a5]; exact hp)]
    exact hv _
