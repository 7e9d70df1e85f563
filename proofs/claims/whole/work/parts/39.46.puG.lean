theorem dropP_ch {w : Nat} : ∀ (n : Nat) (c : Int32) (σ : Nat → Nat → Int32), 0 ≤ c.toInt → c.toInt < 4 → (σ w 465).toInt ≤ 4 → (4 - c.toInt).toNat < n →
    (∀ r t, (¬ r = w ∨ t < 432 ∨ t = 464 ∨ 465 < t) → f5_dropOutPlatform_L2 w n c σ r t = σ r t) ∧
    f5_dropOutPlatform_L2 w n c σ w 465 = σ w 465 - 1 ∧
    (∀ i k : Nat, k < 7 → c.toInt ≤ i → (i : Int) + 1 < (σ w 465).toInt → f5_dropOutPlatform_L2 w n c σ w (432+8*i+k) = σ w (432+8*(i+1)+k)) ∧
    (∀ i k : Nat, k < 7 → i < 4 → (i : Int) < c.toInt → f5_dropOutPlatform_L2 w n c σ w (432+8*i+k) = σ w (432+8*i+k)) := by
  intro n
  induction n with
  | zero => intro c σ h0 hc4 h4 hn; omega
  | succ n ih =>
    intro c σ h0 hc4 h4 hn
    rw [f5_dropOutPlatform_L2]
    simp only [bnd_e]
    have hs := i4_step h0 hc4
    have hc := clampI h0
    have hx := nx_clamp h0 hc4
    by_cases hl : σ w 465 ≤ c + 1
    · rw [if_pos hl]
      rw [Int32.le_iff_toInt_le] at hl
      refine ⟨fun r t h => ?_, by rw [va_up_self, va_up_self], fun i k _ h1 h2 => by omega, fun i k hk hi _ => by rw [va_up_self, va_up_ne _ _ (by omega)]⟩
      by_cases hr : r = w
      · subst hr
        rw [va_up_self, va_up_ne _ _ (by have h1 := h.resolve_left (fun z => z rfl); omega)]
      · rw [va_up_ne _ _ hr]
    · rw [if_neg hl]
      rw [Int32.le_iff_toInt_le] at hl
      have hn2 : ¬ (w = w ∧ c.toNatClampNeg = (c + 1).toNatClampNeg) := fun z => by have := z.2; omega
      have hf : f2_copyFrom σ w c.toNatClampNeg w (c + 1).toNatClampNeg w 465 = σ w 465 := copyP_fr (Or.inr (Or.inr (by omega)))
      obtain ⟨i1, i2, i3, i4⟩ := ih (c + 1) (f2_copyFrom σ w c.toNatClampNeg w (c + 1).toNatClampNeg) (by omega) (by omega) (by rw [hf]; exact h4) (by omega)
      refine ⟨fun r t h => ?_, by rw [i2, hf], fun i k hk h1 h2 => ?_, fun i k hk hi h1 => ?_⟩
      · rw [i1 r t h]
        exact copyP_fr (h.imp_right (fun z => by omega))
      · by_cases he : (i : Int) = c.toInt
        · have he2 : i = c.toNatClampNeg := by omega
          rw [i4 i k hk (by omega) (by omega), he2, copyP_in hn2 hk, hx]
        · rw [i3 i k hk (by omega) (by rw [hf]; exact h2)]
          exact copyP_fr (Or.inr (by omega))
      · rw [i4 i k hk hi (by omega)]
        exact copyP_fr (Or.inr (by omega))
