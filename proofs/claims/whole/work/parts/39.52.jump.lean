/-! PURE: steps 5 to 8 of an update -/
section
variable {KK : Int} {lo : Nat → Int} {sz M0 : Nat → Int32} {N Q c : Nat} {k l : Int} {u m : Nat → Int32} {i j p : Nat}
theorem e_blk {x y : Int32} (h : RC KK lo sz M0 N Q c k u m) (hi : i < N) : f4_block u i x y = f7_blocks m (nI i) x y := e_block (h.i4 hi) h.T (h.B hi).D
theorem e_leap {a : Int32} (h : RC KK lo sz M0 N Q c k u m) (hi : i < N) (h1 : 5 ≤ a.toInt) (h2 : a.toInt ≤ 16) : RC KK lo sz M0 N Q c k (f0_leap u i a) (va_up (va_up (va_up (va_up m (336+24*i+3) a) (336+24*i+5) 0) (336+24*i+11) 1) (336+24*i+16) (m (336+24*i+16) + 1)) := by
  unfold f0_leap
  simp only [bnd_e]
  repeat first | rw [va_up_self] | rw [va_up_ne _ _ (by omega)]
  exact (((h.sb (j := 3) hi (by decide) rfl (bb3 (by omega) (by omega))).sb (j := 5) hi (by decide) rfl (bb5 (by decide) (by decide))).sb (j := 11) hi (by decide) rfl (Or.inr rfl)).sb (j := 16) hi (by decide) (by rw [h.B hi 16 (by decide)]) trivial
/-- step 5 -/
theorem e_jumps {w : Int32} (h : RC KK lo sz M0 N Q c k u m) (hi : i < N) : ∃ r u1 m1, f5_jumps u sz i w = (r, u1) ∧ f7_jumps m (nI i) w = (r, m1) ∧ (r = 0 ∨ r = 1) ∧ RC KK lo sz M0 N Q c k u1 m1 := by
  have h4 := h.i4 hi
  have hB := h.B hi
  have hj := h.jmp
  have hr := h.run
  have hl : 0 ≤ (m (336+24*i+4)).toInt ∧ (m (336+24*i+4)).toInt ≤ 10 := h.bd hi (by decide : 4 < 22)
  have h0 : ∃ r u1 m1, ((0 : Int32), u) = (r, u1) ∧ ((0 : Int32), m) = (r, m1) ∧ (r = 0 ∨ r = 1) ∧ RC KK lo sz M0 N Q c k u1 m1 := ⟨0, u, m, rfl, rfl, Or.inl rfl, h⟩
  have hw : ∀ z : Int32, -16 ≤ z.toInt → z.toInt ≤ 16 → RC KK lo sz M0 N Q c k (f0_leap (va_up u (336+24*i+2) z) i (m 481)) (va_up (va_up (va_up (va_up (va_up m (336+24*i+3) (m 481)) (336+24*i+5) 0) (336+24*i+2) z) (336+24*i+11) 1) (336+24*i+16) (m (336+24*i+16) + 1)) := fun z z1 z2 => by
    have := e_leap (h.sb (j := 2) (x := z) hi (by decide) rfl (bb2 z1 z2)) hi hj.1 hj.2
    rw [va_up_ne (k := 336+24*i+2) (j := 336+24*i+16) _ _ (by omega), up_comm (a := 336+24*i+2) (b := 336+24*i+3) (by omega), up_comm (a := 336+24*i+2) (b := 336+24*i+5) (by omega)] at this
    exact this
  unfold f5_jumps f5_jumps_b101 f7_jumps f7_jumps_b25 f7_jumps_b60 f7_jumps_b61 f7_jumps_b97 f7_jumps_b98 f7_jumps_b116 f7_jumps_b173 f7_jumps_b176
  simp only [bnd_e, ↓reduceIte]
  rw [h.z10, h.z11, hB 5 (by decide), hB 4 (by decide), hB 0 (by decide), hB 1 (by decide)]
  simp only [o_5 h4, o_4 h4, o_0 h4, o_1 h4, s_2 h4, s_3 h4, s_4 h4, s_5 h4, s_11 h4, a_16 h4, e_blk h hi]
  by_cases c1 : m (336+24*i+5) = 0
  · rw [if_pos c1, if_pos c1]; exact h0
  · rw [if_neg c1, if_neg c1]
    by_cases c2 : m (336+24*i+4) ≤ 0
    · rw [if_pos c2, if_pos c2]
      by_cases c3 : w = 0
      · rw [if_pos c3, if_pos c3, if_pos c3]
        by_cases c4 : f7_blocks m (nI i) (m (336+24*i+0) + 1) (m (336+24*i+1)) = 0
        · rw [if_pos c4, if_pos c4]
          by_cases c5 : f7_blocks m (nI i) (m (336+24*i+0) - 1) (m (336+24*i+1)) = 0
          · rw [if_pos c5, if_pos c5]; exact h0
          · rw [if_neg c5, if_neg c5]
            refine ⟨1, _, _, rfl, rfl, Or.inr rfl, ?_⟩
            repeat first | rw [va_up_self] | rw [va_up_ne _ _ (by omega)]
            exact hw _ (by omega) (by omega)
        · rw [if_neg c4, if_neg c4]
          have hn := ti_neg (x := m 480) (by omega)
          by_cases c5 : f7_blocks m (nI i) (m (336+24*i+0) - 1) (m (336+24*i+1)) = 0
          · rw [if_pos c5]
            simp only [if_pos c3, if_neg (show ¬ (1 : Int32) = 0 by decide)]
            refine ⟨1, _, _, rfl, rfl, Or.inr rfl, ?_⟩
            repeat first | rw [va_up_self] | rw [va_up_ne _ _ (by omega)]
            exact hw _ (by omega) (by omega)
          · rw [if_neg c5]
            simp only [if_pos c3, if_neg (show ¬ (1 : Int32) = 0 by decide)]
            refine ⟨1, _, _, rfl, rfl, Or.inr rfl, ?_⟩
            repeat first | rw [va_up_self] | rw [va_up_ne _ _ (by omega)]
            exact hw _ (by omega) (by omega)
      · simp only [if_neg c3]; exact h0
    · rw [if_neg c2, if_neg c2]
      have h9 := e_leap (h.sb (j := 4) (x := 0) (y := 0) hi (by decide) rfl (bb4 (by decide) (by decide))) hi hj.1 hj.2
      rw [va_up_ne (k := 336+24*i+4) (j := 336+24*i+16) _ _ (by omega), up_comm (a := 336+24*i+4) (b := 336+24*i+3) (by omega), up_comm (a := 336+24*i+4) (b := 336+24*i+5) (by omega)] at h9
      refine ⟨1, _, _, rfl, rfl, Or.inr rfl, ?_⟩
      repeat first | rw [va_up_self] | rw [va_up_ne _ _ (by omega)]
      exact h9
/-- step 6 -/
theorem e_cut {w d : Int32} (h : RC KK lo sz M0 N Q c k u m) (hi : i < N) : ∃ m1, f7_decides_b231 (nI i) d m w = f7_decides_b268 (nI i) d w m1 ∧ RC KK lo sz M0 N Q c k (f5_cutJump u i) m1 := by
  have h4 := h.i4 hi
  have hB := h.B hi
  have ho : (m (336+24*i+11)).toInt = 0 ∨ (m (336+24*i+11)).toInt = 1 := h.bd hi (by decide : 11 < 22)
  have ho2 : m (336+24*i+11) = 0 ∨ m (336+24*i+11) = 1 := ho.imp (fun z => ti_inj z) (fun z => ti_inj z)
  unfold f5_cutJump f7_decides_b231
  simp only [bnd_e]
  rw [o_11 h4, o_3 h4, s_3 h4, hB 11 (by decide), hB 3 (by decide), e_holds h hi]
  rcases ho2 with e | e
  · rw [e, if_pos (show nb 0 = 0 from rfl), if_neg (show ¬ (0 : Int32) = 1 by decide)]
    exact ⟨m, rfl, h⟩
  · rw [e, if_neg (show ¬ nb 1 = 0 by decide), if_pos rfl]
    by_cases c1 : m (336+24*i+3) ≤ 4
    · rw [if_pos c1, if_pos c1]
      exact ⟨m, rfl, h⟩
    · rw [if_neg c1, if_neg c1]
      by_cases c2 : f7_isPressed m (nI i) 4 = 0
      · rw [if_pos c2, if_pos c2]
        exact ⟨_, rfl, h.sb (j := 3) hi (by decide) rfl (bb3 (by decide) (by decide))⟩
      · rw [if_neg c2, if_neg c2]
        exact ⟨m, rfl, h⟩
/-- step 7 -/
theorem e_fall {d : Int32} (h : RC KK lo sz M0 N Q c k u m) (hi : i < N) : RC KK lo sz M0 N Q c k (f5_accelerateDown u i d) (f7_falls m (nI i) d) := by
  have h4 := h.i4 hi
  have hB := h.B hi
  have hv := h.vs hi
  have hs := ti_s1 (x := m (336+24*i+3)) (by omega)
  have t12 : ((-12 : Int32)).toInt = -12 := rfl
  have hblk : ∀ z x y, f4_block (va_up u (336+24*i+3) z) i x y = f7_blocks m (nI i) x y := fun z x y => e_block h4 (fun t ht => (va_up_ne _ _ (by omega)).trans (h.T t ht)) (fun j hj => (va_up_ne _ _ (by omega)).trans (hB j (by omega)))
  have hmx : ∀ x : Int32, -12 ≤ x → mMax (-12) x = x := fun x hx => by
    show (if _ then _ else _) = _
    by_cases c1 : -12 < x
    · rw [if_pos c1]
    · rw [if_neg c1]
      rw [ti_le] at hx
      rw [ti_lt] at c1
      exact ti_inj (by omega)
  have hmn : ∀ x : Int32, ¬ -12 ≤ x → mMax (-12) x = -12 := fun x hx => by
    show (if _ then _ else _) = _
    rw [if_neg (fun z => hx (by rw [ti_lt] at z; rw [ti_le]; omega))]
  have key : ∀ v : Int32, -12 ≤ v.toInt → v.toInt ≤ 16 → RC KK lo sz M0 N Q c k (if d = 0 then va_up u (336+24*i+3) v else if -3 ≤ v then va_up u (336+24*i+3) v else if f7_blocks m (nI i) (m (336+24*i+0) + d) (m (336+24*i+1)) = 0 then va_up u (336+24*i+3) v else va_up (va_up u (336+24*i+3) v) (336+24*i+3) (-3)) (f7_falls_b21 m (nI i) d v) := fun v v1 v2 => by
    have h9 := h.sb (j := 3) (x := v) hi (by decide) rfl (bb3 v1 v2)
    unfold f7_falls_b21 f7_falls_b57
    simp only [bnd_e]
    simp only [o_0 h4, o_1 h4, s_3 h4]
    by_cases c1 : d = 0
    · rw [if_pos c1, if_pos c1]; exact h9
    · rw [if_neg c1, if_neg c1]
      by_cases c2 : -3 ≤ v
      · rw [if_pos c2, if_pos c2]; exact h9
      · rw [if_neg c2, if_neg c2]
        by_cases c3 : f7_blocks m (nI i) (m (336+24*i+0) + d) (m (336+24*i+1)) = 0
        · rw [if_pos c3, if_pos c3]; exact h9
        · rw [if_neg c3, if_neg c3, up_up]
          exact h.sb (j := 3) hi (by decide) rfl (bb3 (by decide) (by decide))
  unfold f5_accelerateDown f7_falls
  simp only [bnd_e]
  simp only [va_up_self, hblk]
  rw [va_up_ne (k := 336+24*i+3) (j := 336+24*i+0) _ _ (by omega), va_up_ne (k := 336+24*i+3) (j := 336+24*i+1) _ _ (by omega), hB 3 (by decide), hB 0 (by decide), hB 1 (by decide), o_3 h4]
  by_cases c0 : -12 ≤ m (336+24*i+3) - 1
  · rw [if_pos c0, hmx _ c0]
    rw [ti_le, t12] at c0
    exact key _ (by omega) (by omega)
  · rw [if_neg c0, hmn _ c0]
    exact key _ (by decide) (by decide)
end
