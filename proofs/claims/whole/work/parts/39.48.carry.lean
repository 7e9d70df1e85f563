/-! PURE: platforms carry and go -/
section
variable {KK : Int} {lo : Nat → Int} {sz M0 : Nat → Int32} {N Q c : Nat} {k l : Int} {u m : Nat → Int32} {i j p : Nat}
theorem e_L83 (hi : i < N) : ∀ (n q : Nat) (w : Int32) (k : Int) (u m : Nat → Int32), RC KK lo sz M0 N Q c k u m → w.toInt ≤ q → q < n → (KK + k + q ≤ 1000000000 ∧ k + q ≤ 900000) → RC KK lo sz M0 N Q c (k+q) (f5_carry_L83 i (nI p) n w u) (f7_carries_L81 (nI i) (nI p) n w m) := by
  intro n
  induction n with
  | zero => intro q w k u m h h1 h2; omega
  | succ n ih =>
    intro q w k u m h hw hn hk
    have h4 := h.i4 hi
    rw [f5_carry_L83, f7_carries_L81]
    by_cases c0 : w ≤ 0
    · rw [if_pos c0, if_pos c0]; exact h.mono (by omega)
    · rw [if_neg c0, if_neg c0]
      rw [ti_le, t_0] at c0
      have hn1 := ti_n1 (x := w) (by omega)
      unfold f5_stepDown bnd2
      simp only [bnd_e]
      rw [e_supOf h hi (by omega), a_1 h4]
      by_cases c1 : f7_supportBut m (nI i) (f7_of m (nI i) 0) (f7_of m (nI i) 1) (nI p) = 0
      · rw [if_pos c1, if_pos c1]
        have := ih (q-1) (w + -1) (k+1) _ _ (h.dn hi (by omega)) (by omega) (by omega) (by omega)
        rw [show k + 1 + ((q - 1 : Nat) : Int) = k + q by omega] at this
        exact this
      · rw [if_neg c1, if_neg c1]
        exact h.mono (by omega)
theorem RC.dy (h : RC KK lo sz M0 N Q c k u m) (hp : p < Q) : -2 ≤ (m (432+8*p+4)).toInt ∧ (m (432+8*p+4)).toInt ≤ 2 := h.pd hp (by decide : 4 < 7)
theorem RC.dx (h : RC KK lo sz M0 N Q c k u m) (hp : p < Q) : -2 ≤ (m (432+8*p+3)).toInt ∧ (m (432+8*p+3)).toInt ≤ 2 := h.pd hp (by decide : 3 < 7)
theorem e_b76 (h : RC KK lo sz M0 N Q c k u m) (hi : i < N) (hp : p < Q) (hk : KK + k + 2 ≤ 1000000000 ∧ k + 2 ≤ 900000) : RC KK lo sz M0 N Q c (k+2) (f5_carry_b76 i (nI p) u) (f7_carries_b72 (nI i) (nI p) m) := by
  have p4 := h.p4 hp
  have hd := h.dy hp
  unfold f5_carry_b76 f7_carries_b72
  simp only [bnd_e]
  rw [nI_clamp (by omega), p_4 p4, h.Pq hp 4 (by decide)]
  have hn := ti_neg (x := m (432+8*p+4)) (by omega)
  exact e_L83 hi BIG 2 _ k u m h (by omega) (big_lt (by decide)) (by omega)
theorem e_L57 (hi : i < N) (hp : p < Q) : ∀ (n q : Nat) (w : Int32) (k : Int) (u m : Nat → Int32), RC KK lo sz M0 N Q c k u m → w.toInt ≤ q → q < n → (KK + k + q + 2 ≤ 1000000000 ∧ k + q + 2 ≤ 900000) → RC KK lo sz M0 N Q c (k+q+2) (f5_carry_L57 i (nI p) n w u) (f7_carries_L53 (nI i) (nI p) n w m) := by
  intro n
  induction n with
  | zero => intro q w k u m h h1 h2; omega
  | succ n ih =>
    intro q w k u m h hw hn hk
    rw [f5_carry_L57, f7_carries_L53]
    by_cases c0 : w ≤ 0
    · rw [if_pos c0, if_pos c0]; exact (e_b76 h hi hp (by omega)).mono (by omega)
    · rw [if_neg c0, if_neg c0]
      rw [ti_le, t_0] at c0
      have hn1 := ti_n1 (x := w) (by omega)
      refine (e_stepUp h hi (by omega)).rb (fun r u1 m1 _ _ h1 => ?_)
      by_cases c1 : r = 0
      · rw [if_pos c1, if_pos c1]
        exact (e_b76 h1 hi hp (by omega)).mono (by omega)
      · rw [if_neg c1, if_neg c1]
        have := ih (q-1) (w + -1) (k+1) _ _ h1 (by omega) (by omega) (by omega)
        rw [show k + 1 + ((q - 1 : Nat) : Int) + 2 = k + q + 2 by omega] at this
        exact this
theorem e_b51 (h : RC KK lo sz M0 N Q c k u m) (hi : i < N) (hp : p < Q) (hk : KK + k + 4 ≤ 1000000000 ∧ k + 4 ≤ 900000) : RC KK lo sz M0 N Q c (k+4) (f5_carry_b51 i (nI p) u) (f7_carries_b45 (nI i) (nI p) m) := by
  have p4 := h.p4 hp
  have hd := h.dy hp
  unfold f5_carry_b51 f7_carries_b45
  simp only [bnd_e]
  rw [nI_clamp (by omega), p_4 p4, h.Pq hp 4 (by decide)]
  have := e_L57 hi hp BIG 2 (m (432+8*p+4)) k u m h (by omega) (big_lt (by decide)) (by omega)
  exact this.mono (by omega)
theorem e_L30 {d : Int32} (hi : i < N) (hp : p < Q) (hd : d = 1 ∨ d = -1) : ∀ (n q : Nat) (w : Int32) (k : Int) (u m : Nat → Int32), RC KK lo sz M0 N Q c k u m → w.toInt ≤ q → q < n → (KK + k + q + 4 ≤ 1000000000 ∧ k + q + 4 ≤ 900000) → RC KK lo sz M0 N Q c (k+q+4) (f5_carry_L30 i (nI p) d n w u) (f7_carries_L25 (nI i) (nI p) d n w m) := by
  intro n
  induction n with
  | zero => intro q w k u m h h1 h2; omega
  | succ n ih =>
    intro q w k u m h hw hn hk
    rw [f5_carry_L30, f7_carries_L25]
    by_cases c0 : w ≤ 0
    · rw [if_pos c0, if_pos c0]; exact (e_b51 h hi hp (by omega)).mono (by omega)
    · rw [if_neg c0, if_neg c0]
      rw [ti_le, t_0] at c0
      have hn1 := ti_n1 (x := w) (by omega)
      refine (e_sideways h hi (by omega) hd).rb (fun r u1 m1 _ _ h1 => ?_)
      by_cases c1 : r = 0
      · rw [if_pos c1, if_pos c1]
        exact (e_b51 h1 hi hp (by omega)).mono (by omega)
      · rw [if_neg c1, if_neg c1]
        have := ih (q-1) (w + -1) (k+1) _ _ h1 (by omega) (by omega) (by omega)
        rw [show k + 1 + ((q - 1 : Nat) : Int) + 4 = k + q + 4 by omega] at this
        exact this
theorem mabs_p {x : Int32} (h : 0 ≤ x) : mAbs x = x := if_pos h
theorem mabs_n {x : Int32} (h : ¬ 0 ≤ x) : mAbs x = 0 - x := if_neg h
theorem mul_m1 {x : Int32} : x * (-1) = 0 - x := by
  refine ti_inj ?_
  rw [Int32.toInt_mul, Int32.toInt_sub, t_m1, t_0]
  congr 1
  omega
/-- carry: carries -/
theorem e_carry (h : RC KK lo sz M0 N Q c k u m) (hi : i < N) (hp : p < Q) (hk : KK + k + 6 ≤ 1000000000 ∧ k + 6 ≤ 900000) : RC KK lo sz M0 N Q c (k+6) (f5_carry u i (nI p)) (f7_carries m (nI i) (nI p)) := by
  have p4 := h.p4 hp
  have hd := h.dx hp
  unfold f5_carry f7_carries f5_carry_b19 f7_carries_b14
  simp only [bnd_e]
  rw [nI_clamp (by omega), p_3 p4, h.Pq hp 3 (by decide)]
  by_cases c0 : 0 ≤ m (432+8*p+3)
  · rw [if_pos c0, if_pos c0, mabs_p c0, Int32.mul_one]
    have := e_L30 hi hp (Or.inl rfl) BIG 2 (m (432+8*p+3)) k u m h (by omega) (big_lt (by decide)) (by omega)
    exact this.mono (by omega)
  · rw [if_neg c0, if_neg c0, mabs_n c0, mul_m1]
    have hs := ti_sub (x := 0) (y := m (432+8*p+3)) (by rw [t_0]; omega) (by rw [t_0]; omega)
    rw [t_0] at hs
    have := e_L30 hi hp (Or.inr rfl) BIG 2 (0 - m (432+8*p+3)) k u m h (by omega) (big_lt (by decide)) (by omega)
    exact this.mono (by omega)
/-- a platform's own move -/
theorem e_move {n : Nat} {w : Int32} (h : RC KK lo sz M0 N Q c k u m) (hp : p < Q) (hk : KK + k + 4 ≤ 1000000000 ∧ k + 4 ≤ 900000) (hw : m 464 ≤ w) : RC KK lo sz M0 N Q c (k+4) (f2_move u p) (f7_goesPlatform_L2 (nI p) (n+1) w m) := by
  have p4 := h.p4 hp
  rw [f7_goesPlatform_L2, if_pos hw]
  unfold f2_move
  refine bnd_R (bnd_R ?_)
  refine bnd_rb (k := k+2) ?_ (fun u1 m1 h1 => ?_)
  · rw [q_0 p4, p_0 p4, p_3 p4]
    have a1 : -(KK+k) ≤ (m (432+8*p+0)).toInt ∧ (m (432+8*p+0)).toInt ≤ KK+k := h.pd hp (by decide : 0 < 7)
    have a2 := h.dx hp
    have a3 := ti_add (x := m (432+8*p+0)) (y := m (432+8*p+3)) (by omega) (by omega)
    exact (h.mono (l := k+2) (by omega)).sp (j := 0) hp (by decide) (by rw [h.Pq hp 0 (by decide), h.Pq hp 3 (by decide)]) ⟨by omega, by omega⟩
  refine bnd_R (bnd_R ?_)
  refine bnd_rb (k := k+4) ?_ (fun u2 m2 h2 => ?_)
  · rw [q_1 p4, p_1 p4, p_4 p4]
    have a1 : -(KK+(k+2)) ≤ (m1 (432+8*p+1)).toInt ∧ (m1 (432+8*p+1)).toInt ≤ KK+(k+2) := h1.pd hp (by decide : 1 < 7)
    have a2 := h1.dy hp
    have a3 := ti_add (x := m1 (432+8*p+1)) (y := m1 (432+8*p+4)) (by omega) (by omega)
    exact (h1.mono (l := k+4) (by omega)).sp (j := 1) hp (by decide) (by rw [h1.Pq hp 1 (by decide), h1.Pq hp 4 (by decide)]) ⟨by omega, by omega⟩
  refine bnd_R ?_
  refine bnd_rb (k := k+4) ?_ (fun u3 m3 h3 => ?_)
  · rw [q_5 p4, p_5 p4]
    exact h2.sp (j := 5) hp (by decide) (by rw [h2.Pq hp 5 (by decide)]) trivial
  refine bnd_R ?_
  rw [p_5 p4, h3.Pq hp 5 (by decide)]
  have ax := h3.dx hp
  have ay := h3.dy hp
  by_cases c0 : m3 (432+8*p+5) ≤ 0
  · rw [if_neg (fun z => by rw [ti_lt] at z; rw [ti_le] at c0; omega), if_pos c0]
    simp only [bnd_e]
    rw [p_6 p4, q_5 p4, p_3 p4, q_3 p4, p_4 p4, q_4 p4]
    repeat first | rw [va_up_self] | rw [va_up_ne _ _ (by omega)]
    rw [up_comm (a := 432+8*p+5) (b := 432+8*p+3) (by omega), up_comm (a := 432+8*p+5) (b := 432+8*p+4) (by omega)]
    rw [h3.Pq hp 3 (by decide), h3.Pq hp 4 (by decide), h3.Pq hp 6 (by decide)]
    have b1 := ti_neg (x := m3 (432+8*p+3)) (by omega)
    have b2 := ti_neg (x := m3 (432+8*p+4)) (by omega)
    exact ((h3.sp (j := 3) hp (by decide) rfl ⟨by omega, by omega⟩).sp (j := 4) hp (by decide) rfl ⟨by omega, by omega⟩).sp (j := 5) hp (by decide) rfl trivial
  · rw [if_pos (by rw [ti_lt]; rw [ti_le] at c0; omega), if_neg c0]
    exact h3
theorem vp_nI {w : Int32} {K : Nat} (h : vp_in w K) (hK : K < 2 ^ 31) : ∃ q, q < K ∧ w = nI q := by
  obtain ⟨q, hq, e⟩ := vp_in_of h hK
  exact ⟨q, hq, e⟩
theorem RC.bi {w : Int32} (h : RC KK lo sz M0 N Q c k u m) (h0 : 0 ≤ w) (hl : ¬ m 464 ≤ w) : ∃ q, q < N ∧ w = nI q := by
  have h1 := h.nbm
  have h2 := h.cnts
  obtain ⟨q, hq, rfl⟩ := vp_nI (w := w) (K := 4) (in_n h0 (nle_lt hl) (by omega)) (by decide)
  rw [ti_le, nI_toInt (by omega)] at hl
  exact ⟨q, by omega, rfl⟩
theorem RC.pi {w : Int32} (h : RC KK lo sz M0 N Q c k u m) (h0 : 0 ≤ w) (hl : ¬ m 465 ≤ w) : ∃ q, q < Q ∧ w = nI q := by
  have h1 := h.npm
  have h2 := h.cnts
  obtain ⟨q, hq, rfl⟩ := vp_nI (w := w) (K := 4) (in_n h0 (nle_lt hl) (by omega)) (by decide)
  rw [ti_le, nI_toInt (by omega)] at hl
  exact ⟨q, by omega, rfl⟩
theorem nI_s {q : Nat} : nI q + 1 = nI (q+1) := nI_1 q
theorem nI_g0 {q : Nat} (h : q < 1000) : (0 : Int32) ≤ nI q := by rw [ti_le, nI_toInt (by omega), t_0]; omega
/-- the bodies of a platform, and its move -/
theorem e_L12 {kk : Int32 → (Nat → Int32) → (Nat → Int32)} {a : Nat} (hp : p < Q) (hc : N ≤ c) : ∀ (n q : Nat) (k : Int) (u m : Nat → Int32), RC KK lo sz M0 N Q c k u m → q ≤ N → N < n + q → (KK + k + 28 ≤ 1000000000 + 6 * q ∧ k + 28 ≤ 900000 + 6 * q) → ∃ u1, f5_movePlatforms_L12 kk (nI p) n (nI q) u = kk (nI (p+1)) u1 ∧ RC KK lo sz M0 N Q c (k + 28 - 6 * q) u1 (f7_goesPlatform_L2 (nI p) n (nI q) m) := by
  intro n
  induction n with
  | zero => intro q k u m h h1 h2; omega
  | succ n ih =>
    intro q k u m h hq hn hk
    have h2 := h.cnts
    rw [f5_movePlatforms_L12]
    by_cases c0 : m 464 ≤ nI q
    · have hw := c0
      rw [ti_le, nI_toInt (by omega), h.nbm] at c0
      rw [h.e4, if_pos hw]
      have := e_move (n := n) h hp (by omega) hw
      refine ⟨_, ?_, this.mono (by omega)⟩
      simp only [bnd_e]
      rw [nI_clamp (by omega), nI_s]
    · obtain ⟨q2, hq2, e2⟩ := h.bi (nI_g0 (by omega)) c0
      rw [h.e4, if_neg c0, f7_goesPlatform_L2, if_neg c0]
      have hqN : q < N := by
        rw [ti_le, nI_toInt (by omega), h.nbm] at c0; omega
      have hcar := h.car q (by omega)
      rw [nI_clamp (by omega), hcar]
      unfold f5_movePlatforms_b41 f7_goesPlatform_b30
      simp only [bnd_e]
      rw [nI_s]
      by_cases c1 : m (484+q) = nI p
      · rw [if_pos c1, if_pos c1]
        have := ih (q+1) (k+6) _ _ (e_carry h hqN hp (by omega)) (by omega) (by omega) (by omega)
        rw [show k + 6 + 28 - 6 * ((q + 1 : Nat) : Int) = k + 28 - 6 * q by omega] at this
        exact this
      · rw [if_neg c1, if_neg c1]
        obtain ⟨u1, e1, h1⟩ := ih (q+1) k _ _ h (by omega) (by omega) (by omega)
        exact ⟨u1, e1, h1.mono (by omega)⟩
/-- all platforms; then the bodies' updates begin -/
theorem e_L2 (hc : N ≤ c) : ∀ (n q : Nat) (k : Int) (u m : Nat → Int32), RC KK lo sz M0 N Q c k u m → q ≤ Q → Q < n + q → (KK + k + 112 ≤ 1000000000 + 28 * q ∧ k + 112 ≤ 900000 + 28 * q) → ∃ m1, f7_goesTick_L81 n (nI q) m = f7_goesTick_L106 BIG 0 m1 ∧ RC KK lo sz M0 N Q c (k + 112 - 28 * q) (f5_movePlatforms_L2 n (nI q) u) m1 := by
  intro n
  induction n with
  | zero => intro q k u m h h1 h2; omega
  | succ n ih =>
    intro q k u m h hq hn hk
    have h2 := h.cnts
    rw [f5_movePlatforms_L2, f7_goesTick_L81, h.e5]
    by_cases c0 : m 465 ≤ nI q
    · rw [if_pos c0, if_pos c0]
      exact ⟨m, rfl, h.mono (by omega)⟩
    · rw [if_neg c0, if_neg c0]
      have hqQ : q < Q := by
        rw [ti_le, nI_toInt (by omega), h.npm] at c0; omega
      obtain ⟨u1, e1, h1⟩ := e_L12 (kk := f5_movePlatforms_L2 n) (a := 0) hqQ hc BIG 0 k u m h (Nat.zero_le _) (by unfold BIG; omega) (by omega)
      rw [show (0 : Int32) = nI 0 from rfl, e1]
      unfold f7_goesPlatform
      simp only [bnd_e]
      rw [nI_s]
      obtain ⟨m1, e3, h3⟩ := ih (q+1) (k+28) u1 _ (h1.mono (by omega)) (by omega) (by omega) (by omega)
      exact ⟨m1, e3, h3.mono (by omega)⟩
end
