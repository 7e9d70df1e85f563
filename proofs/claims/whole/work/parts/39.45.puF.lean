theorem nx_clamp {x : Int32} (h0 : 0 ≤ x.toInt) (h4 : x.toInt < 4) : (x + 1).toNatClampNeg = x.toNatClampNeg + 1 := by
  have h := i4_step h0 h4
  have h1 := clampI h0
  have h2 := clampI (c := x + 1) (by omega)
  omega
/-- dropOutBody's loop: from place c on, each body is its successor's copy -/
theorem dropB_ch {w : Nat} : ∀ (n : Nat) (c : Int32) (σ : Nat → Nat → Int32), 0 ≤ c.toInt → c.toInt < 4 → (σ w 464).toInt ≤ 4 → (4 - c.toInt).toNat < n →
    (∀ r t, (¬ r = w ∨ t < 336 ∨ 464 < t) → f5_dropOutBody_L2 w n c σ r t = σ r t) ∧
    f5_dropOutBody_L2 w n c σ w 464 = σ w 464 - 1 ∧
    (∀ i k : Nat, k < 22 → c.toInt ≤ i → (i : Int) + 1 < (σ w 464).toInt → f5_dropOutBody_L2 w n c σ w (336+24*i+k) = bval σ w (i+1) k) ∧
    (∀ i k : Nat, k < 22 → i < 4 → (i : Int) < c.toInt → f5_dropOutBody_L2 w n c σ w (336+24*i+k) = σ w (336+24*i+k)) := by
  intro n
  induction n with
  | zero => intro c σ h0 hc4 h4 hn; omega
  | succ n ih =>
    intro c σ h0 hc4 h4 hn
    rw [f5_dropOutBody_L2]
    simp only [bnd_e]
    have hs := i4_step h0 hc4
    have hc := clampI h0
    have hx := nx_clamp h0 hc4
    by_cases hl : σ w 464 ≤ c + 1
    · rw [if_pos hl]
      rw [Int32.le_iff_toInt_le] at hl
      refine ⟨fun r t h => ?_, by rw [va_up_self, va_up_self], fun i k _ h1 h2 => by omega, fun i k hk hi _ => by rw [va_up_self, va_up_ne _ _ (by omega)]⟩
      by_cases hr : r = w
      · subst hr
        rw [va_up_self, va_up_ne _ _ (by have h1 := h.resolve_left (fun z => z rfl); omega)]
      · rw [va_up_ne _ _ hr]
    · rw [if_neg hl]
      rw [Int32.le_iff_toInt_le] at hl
      have hn2 : ¬ (w = w ∧ c.toNatClampNeg = (c + 1).toNatClampNeg) := fun z => by have := z.2; omega
      have hf : f0_copyFrom σ w c.toNatClampNeg w (c + 1).toNatClampNeg w 464 = σ w 464 := copyB_fr hn2 (Or.inr (Or.inr (by omega)))
      obtain ⟨i1, i2, i3, i4⟩ := ih (c + 1) (f0_copyFrom σ w c.toNatClampNeg w (c + 1).toNatClampNeg) (by omega) (by omega) (by rw [hf]; exact h4) (by omega)
      refine ⟨fun r t h => ?_, by rw [i2, hf], fun i k hk h1 h2 => ?_, fun i k hk hi h1 => ?_⟩
      · rw [i1 r t h]
        exact copyB_fr hn2 (h.imp_right (fun z => z.elim (fun z => Or.inl (by omega)) (fun z => Or.inr (by omega))))
      · by_cases he : (i : Int) = c.toInt
        · have he2 : i = c.toNatClampNeg := by omega
          rw [i4 i k hk (by omega) (by omega), he2, copyB_in hn2 hk, hx]
        · rw [i3 i k hk (by omega) (by rw [hf]; exact h2)]
          unfold bval
          rw [copyB_fr hn2 (Or.inr (by omega)), copyB_fr hn2 (Or.inr (by omega))]
      · rw [i4 i k hk hi (by omega)]
        exact copyB_fr hn2 (Or.inr (by omega))
