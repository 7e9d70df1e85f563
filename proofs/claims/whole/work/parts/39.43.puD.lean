theorem bval_eq {σ σ1 : Nat → Nat → Int32} {v j k : Nat} (h : ∀ t, σ1 v t = σ v t) : bval σ1 v j k = bval σ v j k := by
  unfold bval
  rw [h, h]
set_option maxHeartbeats 400000 in
theorem L37_ch {w v : Nat} (hne : ¬ w = v) : ∀ (n : Nat) (c : Int32) (σ : Nat → Nat → Int32), 0 ≤ c.toInt → (σ w 464).toInt ≤ 4 → (σ w 465).toInt ≤ 4 → (4 - c.toInt).toNat < n →
    (∀ r t, (¬ r = w ∨ t < 336 ∨ 464 ≤ t) → f5_copyFrom_L37 w v n c σ r t = σ r t) ∧
    (∀ i k : Nat, k < 22 → c.toInt ≤ i → (i : Int) < (σ w 464).toInt → f5_copyFrom_L37 w v n c σ w (336+24*i+k) = bval σ v i k) ∧
    (∀ i k : Nat, k < 22 → i < 4 → (i : Int) < c.toInt → f5_copyFrom_L37 w v n c σ w (336+24*i+k) = σ w (336+24*i+k)) ∧
    (∀ p k : Nat, k < 7 → (p : Int) < (σ w 465).toInt → f5_copyFrom_L37 w v n c σ w (432+8*p+k) = σ v (432+8*p+k)) := by
  intro n
  induction n with
  | zero => intro c σ h0 h4 h5 hn; omega
  | succ n ih =>
    intro c σ h0 h4 h5 hn
    rw [f5_copyFrom_L37]
    simp only [bnd_e]
    by_cases hl : σ w 464 ≤ c
    · rw [if_pos hl]
      rw [Int32.le_iff_toInt_le] at hl
      obtain ⟨j1, j2, j3⟩ := L68_ch hne BIG 0 σ (by decide) h5 (big_i4 0)
      refine ⟨fun r t h => j1 r t (h.imp_right (fun z => z.elim (fun z => Or.inl (by omega)) Or.inr)), fun i k _ h1 h2 => by omega, fun i k hk hi _ => j1 w _ (Or.inr (Or.inl (by omega))), fun p k hk hp => j2 p k hk ?_ hp⟩
      show (0 : Int) ≤ p
      omega
    · rw [if_neg hl]
      rw [Int32.le_iff_toInt_le] at hl
      have hs := i4_step h0 (by omega)
      have hc := clampI h0
      have hn2 : ¬ (w = v ∧ c.toNatClampNeg = c.toNatClampNeg) := fun z => hne z.1
      have hv : ∀ t, f0_copyFrom σ w c.toNatClampNeg v c.toNatClampNeg v t = σ v t := fun t => copyB_fr hn2 (Or.inl (fun z => hne z.symm))
      have hf : f0_copyFrom σ w c.toNatClampNeg v c.toNatClampNeg w 464 = σ w 464 := copyB_fr hn2 (Or.inr (Or.inr (by omega)))
      have hg : f0_copyFrom σ w c.toNatClampNeg v c.toNatClampNeg w 465 = σ w 465 := copyB_fr hn2 (Or.inr (Or.inr (by omega)))
      obtain ⟨i1, i2, i3, i4⟩ := ih (c + 1) (f0_copyFrom σ w c.toNatClampNeg v c.toNatClampNeg) (by omega) (by rw [hf]; exact h4) (by rw [hg]; exact h5) (by omega)
      refine ⟨fun r t h => ?_, fun i k hk h1 h2 => ?_, fun i k hk hi h1 => ?_, fun p k hk hp => ?_⟩
      · rw [i1 r t h]
        exact copyB_fr hn2 (h.imp_right (fun z => z.elim (fun z => Or.inl (by omega)) (fun z => Or.inr (by omega))))
      · by_cases he : (i : Int) = c.toInt
        · have he2 : i = c.toNatClampNeg := by omega
          rw [i3 i k hk (by omega) (by omega), he2]
          exact copyB_in hn2 hk
        · rw [i2 i k hk (by omega) (by rw [hf]; exact h2)]
          exact bval_eq hv
      · rw [i3 i k hk hi (by omega)]
        exact copyB_fr hn2 (Or.inr (by omega))
      · rw [i4 p k hk (by rw [hg]; exact hp)]
        exact hv _
