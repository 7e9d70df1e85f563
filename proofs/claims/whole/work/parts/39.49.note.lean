/-! PURE: who is carried, and the first half of a tick -/
section
variable {KK : Int} {lo : Nat → Int} {sz M0 : Nat → Int32} {N Q c : Nat} {k l : Int} {u m : Nat → Int32} {i j p : Nat}
theorem e_note {x : Int32} : ∀ (n q : Nat) (u m : Nat → Int32), RC KK lo sz M0 N Q q k (va_up u 466 x) m → q ≤ N → N < n + q → (KK + k ≤ 1000000000 ∧ k ≤ 900000) → ∃ m1, f7_goesTick_L14 n (nI q) m = f7_goesTick_L81 BIG 0 m1 ∧ RC KK lo sz M0 N Q N k (va_up (f5_noteCarriers_L2 n (nI q) u) 466 x) m1 ∧ f5_noteCarriers_L2 n (nI q) u 466 = u 466 := by
  intro n
  induction n with
  | zero => intro q u m h h1 h2; omega
  | succ n ih =>
    intro q u m h hq hn hk
    have h2 := h.cnts
    have hu : ∀ t, t ≠ 466 → u t = va_up u 466 x t := fun t h => (va_up_ne _ _ h).symm
    rw [f5_noteCarriers_L2, f7_goesTick_L14, hu 464 (by decide), h.e4]
    by_cases c0 : m 464 ≤ nI q
    · rw [if_pos c0, if_pos c0]
      rw [ti_le, nI_toInt (by omega), h.nbm] at c0
      have e : q = N := by omega
      subst e
      exact ⟨m, rfl, h, rfl⟩
    · rw [if_neg c0, if_neg c0]
      have hqN : q < N := by
        rw [ti_le, nI_toInt (by omega), h.nbm] at c0; omega
      have q4 : q < 4 := by omega
      have hB : EI u m q := fun j hj => (hu _ (by omega)).trans (h.B hqN j hj)
      have hP : EP u m := ⟨(hu _ (by decide)).trans h.e5, fun p hp hpm j hj => (hu _ (by omega)).trans (h.P.2 p hp hpm j hj)⟩
      have hnx : ∀ z : Int32, ∃ m1, f7_goesTick_L14 n (nI (q+1)) (va_up m (484+q) z) = f7_goesTick_L81 BIG 0 m1 ∧ RC KK lo sz M0 N Q N k (va_up (f5_noteCarriers_L2 n (nI (q+1)) (va_up u (470+q) z)) 466 x) m1 ∧ f5_noteCarriers_L2 n (nI (q+1)) (va_up u (470+q) z) 466 = u 466 := fun z => by
        have h9 := h.sc (x := z) (y := z) q4 rfl
        rw [← up_comm (a := 470+q) (b := 466) (by omega)] at h9
        obtain ⟨m1, a1, a2, a3⟩ := ih (q+1) _ _ h9 (by omega) (by omega) hk
        exact ⟨m1, a1, a2, a3.trans (va_up_ne _ _ (by omega))⟩
      unfold f5_noteCarriers_b35 f5_noteCarriers_b36 f5_noteCarriers_b64 f7_goesTick_b71 f7_goesTick_b72
      simp only [bnd_e, ↓reduceIte]
      rw [nI_clamp (by omega), nI_s, o_3 q4, o_6 q4, o_0 q4, o_1 q4, hB 3 (by decide), hB 6 (by decide), hB 0 (by decide), hB 1 (by decide)]
      by_cases c1 : 0 < m (336+24*q+3)
      · rw [if_pos c1, if_pos c1]
        exact hnx _
      · rw [if_neg c1, if_neg c1]
        by_cases c2 : m (336+24*q+6) = 0
        · rw [if_pos c2, if_pos c2, if_neg (by decide), e_platformUnder q4 hB.G h.ok hP]
          exact hnx _
        · rw [if_neg c2, if_neg c2]
          exact hnx _
theorem e_pre (h : RC KK lo sz M0 N Q 0 k u m) (hk : KK + k + 112 ≤ 1000000000 ∧ k + 112 ≤ 900000) : ∃ m1, f7_goesTick m = f7_goesTick_L106 BIG 0 m1 ∧ RC KK lo sz M0 N Q N (k+112) (f5_movePlatforms (va_up (f5_noteCarriers u) 466 ((f5_noteCarriers u) 466 + 1))) m1 := by
  have h0 := h.st (t := 466) (x := u 466 + 1) (y := m 466 + 1) (Or.inr rfl) (by rw [h.e6])
  obtain ⟨m1, a1, a2, a3⟩ := e_note BIG 0 u _ h0 (Nat.zero_le _) (by have := h.cnts; unfold BIG; omega) (by omega)
  have a3 : f5_noteCarriers u 466 = u 466 := a3
  have a2 : RC KK lo sz M0 N Q N k (va_up (f5_noteCarriers u) 466 (u 466 + 1)) m1 := a2
  rw [a3]
  obtain ⟨m2, b1, b2⟩ := e_L2 (Nat.le_refl N) BIG 0 k _ m1 a2 (Nat.zero_le _) (by have := h.cnts; unfold BIG; omega) (by omega)
  refine ⟨m2, ?_, b2.mono (by omega)⟩
  unfold f7_goesTick
  simp only [bnd_e]
  exact Eq.trans a1 b1
end
