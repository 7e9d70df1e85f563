/-! PURE: what World.copyFrom leaves -/
theorem i4_step {c : Int32} (h0 : 0 ≤ c.toInt) (h4 : c.toInt < 4) : (c + 1).toInt = c.toInt + 1 := by
  rw [Int32.toInt_add, show (1 : Int32).toInt = 1 from rfl, Int.bmod_def]
  split <;> omega
theorem clampI {c : Int32} (h0 : 0 ≤ c.toInt) : ((c.toNatClampNeg : Nat) : Int) = c.toInt := by
  show ((c.toInt.toNat : Nat) : Int) = c.toInt
  omega
/-- s is as σ but for places c.. below N of the rows of m of w's blocks (b + g*q + k, k < m), where it's as v's -/
theorem L68_ch {w v : Nat} (hne : ¬ w = v) : ∀ (n : Nat) (c : Int32) (σ : Nat → Nat → Int32), 0 ≤ c.toInt → (σ w 465).toInt ≤ 4 → (4 - c.toInt).toNat < n →
    (∀ r t, (¬ r = w ∨ t < 432 ∨ 464 ≤ t) → f5_copyFrom_L68 w v n c σ r t = σ r t) ∧
    (∀ p k : Nat, k < 7 → c.toInt ≤ p → (p : Int) < (σ w 465).toInt → f5_copyFrom_L68 w v n c σ w (432+8*p+k) = σ v (432+8*p+k)) ∧
    (∀ p k : Nat, k < 7 → (p : Int) < c.toInt → f5_copyFrom_L68 w v n c σ w (432+8*p+k) = σ w (432+8*p+k)) := by
  intro n
  induction n with
  | zero => intro c σ h0 h4 hn; omega
  | succ n ih =>
    intro c σ h0 h4 hn
    rw [f5_copyFrom_L68]
    simp only [bnd_e]
    by_cases hl : σ w 465 ≤ c
    · rw [if_pos hl]
      rw [Int32.le_iff_toInt_le] at hl
      exact ⟨fun _ _ _ => rfl, fun p k _ h1 h2 => by omega, fun _ _ _ _ => rfl⟩
    · rw [if_neg hl]
      rw [Int32.le_iff_toInt_le] at hl
      have hs := i4_step h0 (by omega)
      have hc := clampI h0
      have hn2 : ¬ (w = v ∧ c.toNatClampNeg = c.toNatClampNeg) := fun z => hne z.1
      have hf : f2_copyFrom σ w c.toNatClampNeg v c.toNatClampNeg w 465 = σ w 465 := copyP_fr (Or.inr (Or.inr (by omega)))
      obtain ⟨i1, i2, i3⟩ := ih (c + 1) (f2_copyFrom σ w c.toNatClampNeg v c.toNatClampNeg) (by omega) (by rw [hf]; exact h4) (by omega)
      refine ⟨fun r t h => ?_, fun p k hk h1 h2 => ?_, fun p k hk h1 => ?_⟩
      · rw [i1 r t h]
        exact copyP_fr (h.imp_right (fun z => z.elim (fun z => Or.inl (by omega)) (fun z => Or.inr (by omega))))
      · by_cases he : (p : Int) = c.toInt
        · have he2 : p = c.toNatClampNeg := by omega
          rw [i3 p k hk (by omega), he2]
          exact copyP_in hn2 hk
        · rw [i2 p k hk (by omega) (by rw [hf]; exact h2)]
          exact copyP_fr (Or.inl (fun z => hne z.symm))
      · rw [i3 p k hk (by omega)]
        exact copyP_fr (Or.inr (by omega))
