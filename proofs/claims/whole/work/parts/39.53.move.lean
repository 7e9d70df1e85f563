/-! PURE: steps 8 to 10 of an update (the bits' first rows are begun from the kit's rows to paste) -/
def bt (x : Int32) (i : Nat) : Bool := x.toBitVec.getLsbD i
theorem b_ext {x y : Int32} (h : ∀ i, i < 32 → bt x i = bt y i) : x = y := Int32.toBitVec_inj.mp (BitVec.eq_of_getLsbD_eq (fun i hi => h i hi))
theorem b_and (x y : Int32) (i : Nat) : bt (x &&& y) i = (bt x i && bt y i) := by unfold bt; rw [Int32.toBitVec_and, BitVec.getLsbD_and]
theorem b_0 (i : Nat) : bt 0 i = false := BitVec.getLsbD_zero
theorem s_l : ∀ n, n < 32 → ((nI n &&& 31).toBitVec.smod 32).toNat = n := by decide +kernel
theorem b_sshr (n : Nat) (hn : n < 32) (x : Int32) {i : Nat} (hi : i < 32) : bt (x >>> (nI n &&& 31)) i = if n + i < 32 then bt x (n + i) else bt x 31 := by
  unfold bt
  rw [Int32.toBitVec_shiftRight]
  show (x.toBitVec.sshiftRight ((nI n &&& 31).toBitVec.smod 32).toNat).getLsbD i = _
  rw [s_l n hn, BitVec.getLsbD_sshiftRight, BitVec.msb_eq_getLsbD_last]
  simp [hi]
theorem bitk {n : Nat} {M : Int32} (hn : n < 31) (hM : ∀ i, i < 32 → bt M i = decide (i = n)) (x : Int32) : (x &&& M = 0) ↔ ¬ ((x >>> (nI n &&& 31)) &&& 1 = 1) := by
  have h1 : ∀ i, i < 32 → bt 1 i = decide (i = 0) := by decide +kernel
  have hz : bt (x >>> (nI n &&& 31)) 0 = bt x n := by
    rw [b_sshr n (by omega) x (by decide), if_pos (by omega)]; rfl
  have hy : ∀ y : Int32, (y &&& 1 = 1) ↔ bt y 0 = true := fun y => by
    constructor
    · intro e
      have := congrArg (fun z => bt z 0) e
      simp only [b_and] at this
      rw [show bt 1 0 = true from rfl, Bool.and_true] at this
      exact this
    · intro e
      refine b_ext (fun i hi => ?_)
      rw [b_and, h1 i hi]
      by_cases c : i = 0
      · subst c; rw [e]; rfl
      · rw [decide_eq_false c, Bool.and_false]
  have hx : (x &&& M = 0) ↔ bt x n = false := by
    constructor
    · intro e
      have := congrArg (fun z => bt z n) e
      simp only [b_and] at this
      rw [hM n (by omega), decide_eq_true rfl, Bool.and_true, b_0] at this
      exact this
    · intro e
      refine b_ext (fun i hi => ?_)
      rw [b_and, hM i hi, b_0]
      by_cases c : i = n
      · subst c; rw [e]; rfl
      · rw [decide_eq_false c, Bool.and_false]
  rw [hx, hy, hz]
  cases bt x n <;> simp
theorem bit6 (x : Int32) : (x &&& 64 = 0) ↔ ¬ ((x >>> ((6 : Int32) &&& 31)) &&& 1 = 1) := bitk (n := 6) (by decide) (by decide +kernel) x
theorem bit7 (x : Int32) : (x &&& 128 = 0) ↔ ¬ ((x >>> ((7 : Int32) &&& 31)) &&& 1 = 1) := bitk (n := 7) (by decide) (by decide +kernel) x
theorem bit8 (x : Int32) : (x &&& 256 = 0) ↔ ¬ ((x >>> ((8 : Int32) &&& 31)) &&& 1 = 1) := bitk (n := 8) (by decide) (by decide +kernel) x
section
variable {KK : Int} {lo : Nat → Int} {sz M0 : Nat → Int32} {N Q c : Nat} {k l : Int} {u m : Nat → Int32} {i j p : Nat}
theorem RC.mv (h : RC KK lo sz M0 N Q c k u m) (hi : i < N) : RC KK lo sz M0 N Q c k (va_up u (336+24*i+18) (u (336+24*i+18) + 1)) (va_up m (336+24*i+18) (m (336+24*i+18) + 1)) := h.sb (j := 18) hi (by decide) (by rw [h.B hi 18 (by decide)]) trivial
theorem e_across {d : Int32} (h : RC KK lo sz M0 N Q c k u m) (hi : i < N) (hk : KK + k ≤ 1000000000 ∧ k ≤ 900000) (hd : d = 1 ∨ d = -1) : ∃ r u1 m1, f5_stepSideways u i d = (r, u1) ∧ f7_stepsAcross m (nI i) d = (r, m1) ∧ (r = 0 → RC KK lo sz M0 N Q c (k+1) u1 m1) ∧ (¬ r = 0 → RC KK lo sz M0 N Q c (k+1) (va_up u1 (336+24*i+18) (u1 (336+24*i+18) + 1)) m1) := by
  have h4 := h.i4 hi
  have h9 := e_sideways h hi hk hd
  unfold f7_stepsAcross
  generalize f5_stepSideways u i d = a at h9
  generalize f7_movesAcross m (nI i) d = b at h9
  obtain ⟨a1, a2⟩ := a
  obtain ⟨b1, b2⟩ := b
  obtain ⟨e1, e2⟩ := h9
  have e1 : a1 = b1 := e1
  have e2 : RC KK lo sz M0 N Q c (k+1) a2 b2 := e2
  subst e1
  rw [bnd2_mk]
  simp only [bnd_e]
  rw [a_18 h4, a_18 h4]
  by_cases c1 : a1 = 0
  · rw [if_pos c1, Int32.add_zero, up_eta]
    exact ⟨_, _, _, rfl, rfl, fun _ => e2, fun z => absurd c1 z⟩
  · rw [if_neg c1]
    exact ⟨_, _, _, rfl, rfl, fun z => absurd z c1, fun _ => e2.mv hi⟩
/-- step 8, and on to step 9 -/
theorem e_belts (h : RC KK lo sz M0 N Q c k u m) (hi : i < N) (hk : KK + k + 2 ≤ 1000000000 ∧ k + 2 ≤ 900000) : ∃ m1, (if ((f7_firmBelow m (nI i) (f7_of m (nI i) 0) (f7_of m (nI i) 1) >>> ((6 : Int32) &&& 31)) &&& 1) = 1 then bnd2 (f7_stepsAcross m (nI i) 1) (fun _ u39 => f7_updates_b43 (nI i) (f7_firmBelow m (nI i) (f7_of m (nI i) 0) (f7_of m (nI i) 1)) u39) else f7_updates_b43 (nI i) (f7_firmBelow m (nI i) (f7_of m (nI i) 0) (f7_of m (nI i) 1)) m) = f7_updates_b60 (nI i) m1 ∧ RC KK lo sz M0 N Q c (k+2) (f5_rideBelts u i) m1 := by
  unfold f5_rideBelts f7_updates_b43
  simp only [bnd_e]
  rw [e_firmOf h hi]
  generalize f7_firmBelow m (nI i) (f7_of m (nI i) 0) (f7_of m (nI i) 1) = F
  have h2 : ∀ (u m : Nat → Int32), RC KK lo sz M0 N Q c (k+1) u m → ∃ m1, (if ((F >>> ((7 : Int32) &&& 31)) &&& 1) = 1 then bnd2 (f7_stepsAcross m (nI i) (-1)) (fun _ u56 => f7_updates_b60 (nI i) u56) else f7_updates_b60 (nI i) m) = f7_updates_b60 (nI i) m1 ∧ RC KK lo sz M0 N Q c (k+2) (f5_rideBelts_b43 i F u) m1 := by
    intro u m h
    unfold f5_rideBelts_b43
    simp only [bnd_e]
    by_cases c1 : F &&& 128 = 0
    · rw [if_pos c1, if_neg ((bit7 F).mp c1)]
      exact ⟨m, rfl, h.mono (by omega)⟩
    · rw [if_neg c1, if_pos (Classical.byContradiction (fun z => c1 ((bit7 F).mpr z)))]
      obtain ⟨r, u1, m1, e1, e2, e3, e4⟩ := e_across (d := -1) h hi (by omega) (Or.inr rfl)
      rw [e1, e2, bnd2_mk r u1, bnd2_mk r m1]
      refine ⟨m1, rfl, ?_⟩
      by_cases c2 : r = 0
      · rw [if_pos c2]; exact (e3 c2).mono (by omega)
      · rw [if_neg c2]; exact (e4 c2).mono (by omega)
  by_cases c1 : F &&& 64 = 0
  · rw [if_pos c1, if_neg ((bit6 F).mp c1)]
    exact h2 u m (h.mono (by omega))
  · rw [if_neg c1, if_pos (Classical.byContradiction (fun z => c1 ((bit6 F).mpr z)))]
    obtain ⟨r, u1, m1, e1, e2, e3, e4⟩ := e_across (d := 1) h hi (by omega) (Or.inl rfl)
    rw [e1, e2, bnd2_mk r u1, bnd2_mk r m1]
    by_cases c2 : r = 0
    · rw [if_pos c2]; exact h2 u1 m1 (e3 c2)
    · rw [if_neg c2]; exact h2 _ m1 (e4 c2)
/-- step 9 -/
theorem e_L21 {d : Int32} (hi : i < N) (hd : d = 1 ∨ d = -1) : ∀ (n q : Nat) (w : Int32) (k : Int) (u m : Nat → Int32), RC KK lo sz M0 N Q c k u m → w.toInt ≤ q → q < n → (KK + k + q ≤ 1000000000 ∧ k + q ≤ 900000) → RC KK lo sz M0 N Q c (k+q) (f5_run_L21 i d n w u) (f7_goesAcross_L24 (nI i) d n w m) := by
  intro n
  induction n with
  | zero => intro q w k u m h h1 h2; omega
  | succ n ih =>
    intro q w k u m h hw hn hk
    have h4 := h.i4 hi
    rw [f5_run_L21, f7_goesAcross_L24]
    by_cases c0 : w ≤ 0
    · rw [if_pos c0, if_pos c0]; exact h.mono (by omega)
    · rw [if_neg c0, if_neg c0]
      rw [ti_le, t_0] at c0
      have hn1 := ti_n1 (x := w) (by omega)
      obtain ⟨r, u1, m1, e1, e2, e3, e4⟩ := e_across h hi (by omega) hd
      rw [e1, e2, bnd2_mk r u1, bnd2_mk r m1]
      simp only [bnd_e]
      by_cases c1 : r = 0
      · rw [if_pos c1, if_pos c1, s_2 h4]
        exact ((e3 c1).mono (by omega)).sb (j := 2) hi (by decide) rfl (bb2 (by decide) (by decide))
      · rw [if_neg c1, if_neg c1]
        have := ih (q-1) (w + -1) (k+1) _ _ (e4 c1) (by omega) (by omega) (by omega)
        rw [show k + 1 + ((q - 1 : Nat) : Int) = k + q by omega] at this
        exact this
theorem e_run (h : RC KK lo sz M0 N Q c k u m) (hi : i < N) (hk : KK + k + 16 ≤ 1000000000 ∧ k + 16 ≤ 900000) : RC KK lo sz M0 N Q c (k+16) (f5_run u i) (f7_goesAcross m (nI i)) := by
  have h4 := h.i4 hi
  have hs := h.hs hi
  unfold f5_run f7_goesAcross f5_run_b12 f7_goesAcross_b14
  simp only [bnd_e]
  rw [o_2 h4, h.B hi 2 (by decide)]
  by_cases c0 : 0 ≤ m (336+24*i+2)
  · rw [if_pos c0, if_pos c0, mabs_p c0, Int32.mul_one]
    have := e_L21 hi (Or.inl rfl) BIG 16 (m (336+24*i+2)) k u m h (by omega) (big_lt (by decide)) (by omega)
    exact this.mono (by omega)
  · rw [if_neg c0, if_neg c0, mabs_n c0, mul_m1]
    have hz := ti_0s (x := m (336+24*i+2)) (by omega) (by omega)
    have := e_L21 hi (Or.inr rfl) BIG 16 (0 - m (336+24*i+2)) k u m h (by omega) (big_lt (by decide)) (by omega)
    exact this.mono (by omega)
/-- step 10 -/
theorem big_s : BIG = 4294967303 + 1 := rfl
theorem L45_done {w : Int32} (h : w ≤ 0) : f5_riseOrFall_L45 i BIG w u = u := by rw [big_s, f5_riseOrFall_L45, if_pos h]
theorem mvu_3 (hi : i < 4) : (f7_movesUp m (nI i)).2 (336+24*i+3) = m (336+24*i+3) := by
  unfold f7_movesUp
  simp only [bnd_e]
  rw [a_1 hi]
  split
  · exact va_up_ne _ _ (by omega)
  · rfl
theorem e_L7 (hi : i < N) : ∀ (n q : Nat) (w : Int32) (k : Int) (u m : Nat → Int32), RC KK lo sz M0 N Q c k u m → 0 < (m (336+24*i+3)).toInt → w.toInt ≤ q → q < n → (KK + k + q ≤ 1000000000 ∧ k + q ≤ 900000) → RC KK lo sz M0 N Q c (k+q) (f5_riseOrFall_L5 i n w u) (f7_goesUp_L7 (nI i) n w m) := by
  intro n
  induction n with
  | zero => intro q w k u m h h3 h1 h2; omega
  | succ n ih =>
    intro q w k u m h h3 hw hn hk
    have h4 := h.i4 hi
    rw [f5_riseOrFall_L5, f7_goesUp_L7]
    by_cases c0 : w ≤ 0
    · rw [if_pos c0, if_pos c0]
      simp only [bnd_e]
      rw [h.B hi 3 (by decide)]
      have hn := ti_neg (x := m (336+24*i+3)) (by omega)
      rw [L45_done (by rw [ti_le, t_0]; omega)]
      exact h.mono (by omega)
    · rw [if_neg c0, if_neg c0]
      rw [ti_le, t_0] at c0
      have hn1 := ti_n1 (x := w) (by omega)
      refine (e_stepUp h hi (by omega)).rb (fun r u1 m1 _ eb h1 => ?_)
      have hm3 : m1 (336+24*i+3) = m (336+24*i+3) := by
        have := mvu_3 (m := m) h4
        rw [eb] at this
        exact this
      simp only [bnd_e]
      by_cases c1 : r = 0
      · rw [if_pos c1, if_pos c1, s_3 h4]
        exact (h1.mono (by omega)).sb (j := 3) hi (by decide) rfl (bb3 (by decide) (by decide))
      · rw [if_neg c1, if_neg c1, a_18 h4]
        have := ih (q-1) (w + -1) (k+1) _ _ (h1.mv hi) (by rw [va_up_ne _ _ (by omega), hm3]; exact h3) (by omega) (by omega) (by omega)
        rw [show k + 1 + ((q - 1 : Nat) : Int) = k + q by omega] at this
        exact this
theorem e_land (h : RC KK lo sz M0 N Q c k u m) (hi : i < N) : RC KK lo sz M0 N Q c k (f5_land u i) (if ((f7_firmBelow m (nI i) (f7_of m (nI i) 0) (f7_of m (nI i) 1) >>> ((8 : Int32) &&& 31)) &&& 1) = 1 then f7_goesDown_b51 (nI i) m 1 else f7_goesDown_b51 (nI i) m 0) := by
  have h4 := h.i4 hi
  unfold f5_land f5_land_b28 f5_land_b40 f7_goesDown_b51 f7_goesDown_b65
  simp only [bnd_e, ↓reduceIte]
  rw [e_firmOf h hi]
  generalize f7_firmBelow m (nI i) (f7_of m (nI i) 0) (f7_of m (nI i) 1) = F
  have key : ∀ z : Int32, -12 ≤ z.toInt → z.toInt ≤ 16 → RC KK lo sz M0 N Q c k (va_up (va_up u (336+24*i+3) z) (336+24*i+17) ((va_up u (336+24*i+3) z) (336+24*i+17) + 1)) (f7_adds (f7_sets m (nI i) 3 z) (nI i) 17 1) := fun z z1 z2 => by
    rw [s_3 h4, a_17 h4, va_up_ne (k := 336+24*i+3) (j := 336+24*i+17) _ _ (by omega), va_up_ne (k := 336+24*i+3) (j := 336+24*i+17) _ _ (by omega), h.B hi 17 (by decide)]
    exact (h.sb (j := 3) hi (by decide) rfl (bb3 z1 z2)).sb (j := 17) hi (by decide) rfl trivial
  by_cases c1 : F &&& 256 = 0
  · rw [if_pos c1, if_neg ((bit8 F).mp c1)]
    exact key 0 (by decide) (by decide)
  · rw [if_neg c1, if_pos (Classical.byContradiction (fun z => c1 ((bit8 F).mpr z))), if_neg (show ¬ (1 : Int32) = 0 by decide)]
    exact key 16 (by decide) (by decide)
theorem e_L8 (hi : i < N) : ∀ (n q : Nat) (w : Int32) (k : Int) (u m : Nat → Int32), RC KK lo sz M0 N Q c k u m → w.toInt ≤ q → q < n → (KK + k + q ≤ 1000000000 ∧ k + q ≤ 900000) → RC KK lo sz M0 N Q c (k+q) (f5_riseOrFall_L45 i n w u) (f7_goesDown_L8 (nI i) n w m) := by
  intro n
  induction n with
  | zero => intro q w k u m h h1 h2; omega
  | succ n ih =>
    intro q w k u m h hw hn hk
    have h4 := h.i4 hi
    rw [f5_riseOrFall_L45, f7_goesDown_L8]
    by_cases c0 : w ≤ 0
    · rw [if_pos c0, if_pos c0]; exact h.mono (by omega)
    · rw [if_neg c0, if_neg c0]
      rw [ti_le, t_0] at c0
      have hn1 := ti_n1 (x := w) (by omega)
      refine (e_stepDown h hi (by omega)).rb (fun r u1 m1 _ eb h1 => ?_)
      simp only [bnd_e]
      by_cases c1 : r = 0
      · rw [if_pos c1, if_pos c1]
        exact (e_land h1 hi).mono (by omega)
      · rw [if_neg c1, if_neg c1, a_18 h4]
        have := ih (q-1) (w + -1) (k+1) _ _ (h1.mv hi) (by omega) (by omega) (by omega)
        rw [show k + 1 + ((q - 1 : Nat) : Int) = k + q by omega] at this
        exact this
theorem e_rof (h : RC KK lo sz M0 N Q c k u m) (hi : i < N) (hk : KK + k + 16 ≤ 1000000000 ∧ k + 16 ≤ 900000) : RC KK lo sz M0 N Q c (k+16) (f5_riseOrFall u i) (if f7_of m (nI i) 3 ≤ 0 then f7_goesDown m (nI i) else f7_goesUp m (nI i)) := by
  have h4 := h.i4 hi
  have hv := h.vs hi
  unfold f5_riseOrFall f7_goesDown f7_goesUp
  simp only [bnd_e]
  rw [o_3 h4, h.B hi 3 (by decide)]
  by_cases c0 : m (336+24*i+3) ≤ 0
  · rw [if_pos c0, big_s, f5_riseOrFall_L5, if_pos c0]
    simp only [bnd_e]
    rw [h.B hi 3 (by decide), ← big_s]
    have hn := ti_neg (x := m (336+24*i+3)) (by omega)
    exact e_L8 hi BIG 16 _ k u m h (by omega) (big_lt (by decide)) (by omega)
  · rw [if_neg c0]
    rw [ti_le, t_0] at c0
    exact e_L7 hi BIG 16 _ k u m h (by omega) (by omega) (big_lt (by decide)) (by omega)
end
