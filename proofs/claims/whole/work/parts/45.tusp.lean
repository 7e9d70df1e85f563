/-! PURE: tickUntilStanding -/
section
variable {sz M0 : Nat → Int32} {N Q c : Nat} {k K L : Int} {u w m u2 w2 m2 : Nat → Int32} {i j p : Nat} {σ σ2 : Nat → Nat → Int32}
theorem e_stand_top {i : Nat} (h : Top K σ m) (hi : (i : Int) < (m 464).toInt) (hK : K ≤ 900000000) : f5_isStanding (σ 0) i = f7_doesStand m (nI i) := by
  obtain ⟨N, Q, hr⟩ := h.rb
  exact e_isStanding hr (by have := hr.nbm; omega) (by omega)
theorem tus_end {i q : Nat} (h : Top K σ m) (hi : (i : Int) < (m 464).toInt) (hi4 : i < 4) (hK : K ≤ 900000000) : PM (cd3 xOB xIA xNS) K σ (f6_tickUntilStanding_b69 (nI i) (nI q) σ) (f7_tickUntilStanding_b56 (nI i) (nI q) m) := by
  unfold f6_tickUntilStanding_b69 f7_tickUntilStanding_b56 f7_tickUntilStanding_b70
  simp only [bnd_e]
  rw [nI_clamp (by omega), e_stand_top h hi hK, va_up_self, va_up_self]
  by_cases d : f7_doesStand m (nI i) = 0
  · rw [if_pos d, if_pos d, if_neg (c := (3 : Int32) = 0) (by decide)]
    exact PM.fl h (Or.inr (Or.inr ⟨rfl, rfl⟩))
  · rw [if_neg d, if_neg d, if_pos (c := (0 : Int32) = 0) rfl]
    exact PM.rd h rfl
theorem one_tick {m1 : Nat → Int32} (h : ∀ f x, (if m 491 = 12 then f7_ticks_L18 f x BIG 0 m else f7_ticks_b57 f x m) = f (x + 1) m1) : f7_ticks m 1 = m1 := by
  obtain ⟨B, hB⟩ : ∃ B, BIG = B + 2 := ⟨BIG - 2, by unfold BIG; omega⟩
  have h0 : f7_ticks m 1 = f7_ticks_L2 1 (B+1+1) 0 m := congrArg (fun z => f7_ticks_L2 1 z 0 m) hB
  rw [h0, f7_ticks_L2, if_neg (c := (1 : Int32) ≤ 0) (by decide), h, f7_ticks_L2, if_pos (c := (1 : Int32) ≤ 0 + 1) (by decide)]
theorem tus_L {i B : Nat} (hi4 : i < 4) (hB : B ≤ 100) : ∀ (n n2 q : Nat) (K : Int) (σ : Nat → Nat → Int32) (m : Nat → Int32), Top K σ m → (i : Int) < (m 464).toInt → q ≤ B → B < n + q → B < n2 + q → K + 248 * B ≤ 900000000 + 248 * q →
    PM (cd3 xOB xIA xNS) (K + 248 * B - 248 * q) σ (f6_tickUntilStanding_L17 (nI i) (nI B) n (nI q) σ) (f7_tickUntilStanding_L32 (nI i) (nI B) n2 (nI q) m) := by
  intro n
  induction n with
  | zero => intro n2 q K σ m h h1 h2 h3; omega
  | succ n ih =>
    intro n2 q K σ m h hi hq hn hn2 hK
    cases n2 with
    | zero => omega
    | succ n2 =>
      rw [f6_tickUntilStanding_L17, f7_tickUntilStanding_L32]
      by_cases c0 : nI B ≤ nI q
      · rw [if_pos c0, if_pos c0]
        rw [ti_le, nI_toInt (by omega), nI_toInt (by omega)] at c0
        exact (tus_end h hi hi4 (by omega)).mono (by omega)
      · rw [if_neg c0, if_neg c0]
        rw [ti_le, nI_toInt (by omega), nI_toInt (by omega)] at c0
        simp only [bnd_e]
        rw [nI_clamp (by omega), e_stand_top h hi (by omega)]
        by_cases d : f7_doesStand m (nI i) = 0
        · rw [if_pos d, if_pos d]
          obtain ⟨m1, b1, b2, b3, b4, b5, b6⟩ := e_stp h (by omega)
          rw [one_tick b6, nI_s]
          have := ih n2 (q+1) (K+248) (stp σ) m1 b1 (by rw [b5]; exact hi) (by omega) (by omega) (by omega) (by omega)
          exact (this.mono (by omega)).of (b2 16 (by omega) (by decide))
        · rw [if_neg d, if_neg d]
          exact (tus_end h hi hi4 (by omega)).mono (by omega)
theorem t_tickUntilStanding {a b : Int32} (h : Top K σ m) (hK : K ≤ 800000000) : PM (cd3 xOB xIA xNS) (K+50000) σ (f6_tickUntilStanding σ a b) (f7_tickUntilStanding m a b) := by
  have t100 : ((100 : Int32)).toInt = 100 := rfl
  unfold f6_tickUntilStanding f7_tickUntilStanding
  simp only [bnd_e, fails_k, wi_e]
  rcases rqB (a := a) h with ⟨e1, e2⟩ | ⟨N, Q, i, hr, hi, rfl, e1, e2⟩
  · rw [e1, bndx_r, e2, if_pos rfl]; exact (PM.fl h (Or.inl ⟨rfl, rfl⟩)).mono (by omega)
  · rw [e1, bndx_l, e2, if_neg n10]
    by_cases d1 : f7_isBetween b 1 100 = 0
    · rw [d1, rq0, bndx_r, if_pos rfl]; exact (PM.fl h (Or.inr (Or.inl ⟨rfl, rfl⟩))).mono (by omega)
    · rw [rq1 d1, bndx_l, if_neg d1]
      have b1 := bt_in d1
      rw [t_1, t100] at b1
      obtain ⟨B, hB, rfl⟩ := vp_nI (w := b) (K := 101) (vp_in_iff.mpr ⟨by omega, by omega⟩) (by decide)
      have g := tus_L (i := i) (B := B) (hr.i4 hi) (by omega) BIG BIG 0 K σ m h (by have := hr.nbm; omega) (Nat.zero_le _) (by unfold BIG; omega) (by unfold BIG; omega) (by omega)
      have g : PM (cd3 xOB xIA xNS) (K + 248 * B - 248 * (0 : Nat)) σ (f6_tickUntilStanding_L17 (nI i) (nI B) BIG 0 σ) (f7_tickUntilStanding_L32 (nI i) (nI B) BIG 0 m) := g
      exact g.mono (by omega)
end
