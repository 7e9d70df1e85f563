/-! PURE: steps 1 to 7 of an update -/
section
variable {KK : Int} {lo : Nat → Int} {sz M0 : Nat → Int32} {N Q c : Nat} {k l : Int} {u m : Nat → Int32} {i j p : Nat}
theorem bnd2_mk {α γ β : Type} (x : α) (y : γ) (f : α → γ → β) : bnd2 (x, y) f = f x y := (Eq.refl (f x y)).trans (Eq.refl (f x y))
theorem cnt_4 {z d : Int32} (hi : i < 4) : f7_counts m (nI i) 4 z d = va_up m (336+24*i+4) (if d = 0 then (if m (336+24*i+4) ≤ 0 then 0 else m (336+24*i+4) - 1) else z) := by
  unfold f7_counts
  simp only [bnd_e]
  rw [o_4 hi, s_4 hi, s_4 hi, s_4 hi]
  by_cases c1 : d = 0
  · rw [if_pos c1, if_pos c1]
    by_cases c2 : m (336+24*i+4) ≤ 0
    · rw [if_pos c2, if_pos c2]
    · rw [if_neg c2, if_neg c2]
  · rw [if_neg c1, if_neg c1]
theorem RC.dec4 (h : RC KK lo sz M0 N Q c k u m) (hi : i < N) : RC KK lo sz M0 N Q c k (if u (336+24*i+4) ≤ 0 then u else va_up u (336+24*i+4) (u (336+24*i+4) - 1)) (va_up m (336+24*i+4) (if m (336+24*i+4) ≤ 0 then 0 else m (336+24*i+4) - 1)) := by
  have hb : 0 ≤ (m (336+24*i+4)).toInt ∧ (m (336+24*i+4)).toInt ≤ 10 := h.bd hi (by decide : 4 < 22)
  rw [h.B hi 4 (by decide)]
  by_cases c1 : m (336+24*i+4) ≤ 0
  · have e : m (336+24*i+4) = 0 := ti_inj (by rw [ti_le, t_0] at c1; rw [t_0]; omega)
    rw [if_pos c1, if_pos c1, ← e, up_eta]
    exact h
  · rw [if_neg c1, if_neg c1]
    rw [ti_le, t_0] at c1
    have hs := ti_s1 (x := m (336+24*i+4)) (by omega)
    exact h.sb (j := 4) hi (by decide) rfl (bb4 (by omega) (by omega))
theorem cnt_5 {z d : Int32} (hi : i < 4) : f7_counts m (nI i) 5 z d = va_up m (336+24*i+5) (if d = 0 then (if m (336+24*i+5) ≤ 0 then 0 else m (336+24*i+5) - 1) else z) := by
  unfold f7_counts
  simp only [bnd_e]
  rw [o_5 hi, s_5 hi, s_5 hi, s_5 hi]
  by_cases c1 : d = 0
  · rw [if_pos c1, if_pos c1]
    by_cases c2 : m (336+24*i+5) ≤ 0
    · rw [if_pos c2, if_pos c2]
    · rw [if_neg c2, if_neg c2]
  · rw [if_neg c1, if_neg c1]
theorem RC.dec5 (h : RC KK lo sz M0 N Q c k u m) (hi : i < N) : RC KK lo sz M0 N Q c k (if u (336+24*i+5) ≤ 0 then u else va_up u (336+24*i+5) (u (336+24*i+5) - 1)) (va_up m (336+24*i+5) (if m (336+24*i+5) ≤ 0 then 0 else m (336+24*i+5) - 1)) := by
  have hb : 0 ≤ (m (336+24*i+5)).toInt ∧ (m (336+24*i+5)).toInt ≤ 10 := h.bd hi (by decide : 5 < 22)
  rw [h.B hi 5 (by decide)]
  by_cases c1 : m (336+24*i+5) ≤ 0
  · have e : m (336+24*i+5) = 0 := ti_inj (by rw [ti_le, t_0] at c1; rw [t_0]; omega)
    rw [if_pos c1, if_pos c1, ← e, up_eta]
    exact h
  · rw [if_neg c1, if_neg c1]
    rw [ti_le, t_0] at c1
    have hs := ti_s1 (x := m (336+24*i+5)) (by omega)
    exact h.sb (j := 5) hi (by decide) rfl (bb5 (by omega) (by omega))
theorem cnt_6 {z d : Int32} (hi : i < 4) : f7_counts m (nI i) 6 z d = va_up m (336+24*i+6) (if d = 0 then (if m (336+24*i+6) ≤ 0 then 0 else m (336+24*i+6) - 1) else z) := by
  unfold f7_counts
  simp only [bnd_e]
  rw [o_6 hi, s_6 hi, s_6 hi, s_6 hi]
  by_cases c1 : d = 0
  · rw [if_pos c1, if_pos c1]
    by_cases c2 : m (336+24*i+6) ≤ 0
    · rw [if_pos c2, if_pos c2]
    · rw [if_neg c2, if_neg c2]
  · rw [if_neg c1, if_neg c1]
theorem RC.dec6 (h : RC KK lo sz M0 N Q c k u m) (hi : i < N) : RC KK lo sz M0 N Q c k (if u (336+24*i+6) ≤ 0 then u else va_up u (336+24*i+6) (u (336+24*i+6) - 1)) (va_up m (336+24*i+6) (if m (336+24*i+6) ≤ 0 then 0 else m (336+24*i+6) - 1)) := by
  have hb : 0 ≤ (m (336+24*i+6)).toInt ∧ (m (336+24*i+6)).toInt ≤ 8 := h.bd hi (by decide : 6 < 22)
  rw [h.B hi 6 (by decide)]
  by_cases c1 : m (336+24*i+6) ≤ 0
  · have e : m (336+24*i+6) = 0 := ti_inj (by rw [ti_le, t_0] at c1; rw [t_0]; omega)
    rw [if_pos c1, if_pos c1, ← e, up_eta]
    exact h
  · rw [if_neg c1, if_neg c1]
    rw [ti_le, t_0] at c1
    have hs := ti_s1 (x := m (336+24*i+6)) (by omega)
    exact h.sb (j := 6) hi (by decide) rfl (bb6 (by omega) (by omega))
theorem ds_bl {a : Int32} : f7_doesStand m a = 0 ∨ f7_doesStand m a = 1 := by
  unfold f7_doesStand
  simp only [bnd_e]
  split
  · exact Or.inl rfl
  · split
    · exact Or.inl rfl
    · exact Or.inr rfl
/-- step 1 -/
theorem e_sense (h : RC KK lo sz M0 N Q c k u m) (hi : i < N) (hk : KK + k ≤ 1000000000 ∧ k ≤ 900000) : ∃ u1 m1, f5_senseStanding u i (sz 12) = (f7_doesStand m (nI i), u1) ∧ f7_counts (f7_adds m (nI i) 19 (f7_doesStand m (nI i))) (nI i) 4 ((f7_adds m (nI i) 19 (f7_doesStand m (nI i))) 482) (f7_doesStand m (nI i)) = m1 ∧ RC KK lo sz M0 N Q c k u1 m1 := by
  have h4 := h.i4 hi
  have hc := h.cnts
  unfold f5_senseStanding
  simp only [bnd_e]
  rw [e_isStanding h hi hk, cnt_4 h4, a_19 h4]
  rcases ds_bl (m := m) (a := nI i) with e | e
  · rw [e, if_pos rfl, if_pos rfl, Int32.add_zero, up_eta]
    have hd := h.dec4 hi
    by_cases c1 : u (336+24*i+4) ≤ 0
    · rw [if_pos c1]
      rw [if_pos c1] at hd
      exact ⟨_, _, rfl, rfl, hd⟩
    · rw [if_neg c1]
      rw [if_neg c1] at hd
      exact ⟨_, _, rfl, rfl, hd⟩
  · rw [e, if_neg (by decide), if_neg (by decide)]
    refine ⟨_, _, rfl, rfl, ?_⟩
    rw [va_up_ne (k := 336+24*i+4) (j := 336+24*i+19) _ _ (by omega), va_up_ne (k := 336+24*i+19) (j := 482) _ _ (by omega), up_comm (a := 336+24*i+4) (b := 336+24*i+19) (by omega), h.rest 482 (by omega), h.es.1 2 (by decide)]
    have hz := h.es.2.2.2.1
    exact (h.sb (j := 19) hi (by decide) (by rw [h.B hi 19 (by decide)]) trivial).sb (j := 4) hi (by decide) rfl (bb4 hz.1 hz.2)
theorem e_holds {b : Int32} (h : RC KK lo sz M0 N Q c k u m) (hi : i < N) : f0_holds u i b = f7_isPressed m (nI i) b := by
  unfold f0_holds f7_isPressed
  simp only [bnd_e]
  rw [o_9 (h.i4 hi), h.B hi 9 (by decide)]
theorem pr_bl {a b : Int32} : f7_isPressed m a b = 0 ∨ f7_isPressed m a b = 1 := by
  unfold f7_isPressed
  simp only [bnd_e]
  split
  · exact Or.inl rfl
  · exact Or.inr rfl
/-- step 2 -/
theorem e_key (h : RC KK lo sz M0 N Q c k u m) (hi : i < N) : RC KK lo sz M0 N Q c k (f5_senseJumpKey u i (sz 13)) (f7_counts m (nI i) 5 (m 483) (if f7_isPressed m (nI i) 4 = 0 then 0 else if (f7_of m (nI i) 10 &&& 4) = 0 then 1 else 0)) := by
  have h4 := h.i4 hi
  have hz := h.es.2.2.2.2
  unfold f5_senseJumpKey f5_senseJumpKey_b25
  simp only [bnd_e]
  rw [e_holds h hi, cnt_5 h4, o_10 h4, h.B hi 10 (by decide)]
  by_cases c1 : f7_isPressed m (nI i) 4 = 0
  · rw [if_pos c1, if_pos c1, if_pos rfl]
    exact h.dec5 hi
  · rw [if_neg c1, if_neg c1]
    by_cases c2 : (m (336+24*i+10) &&& 4) = 0
    · rw [if_pos c2, if_pos c2, if_neg (by decide), h.rest 483 (by omega)]
      exact h.sb (j := 5) hi (by decide) (h.es.1 3 (by decide)) (bb5 (by omega) (by omega))
    · rw [if_neg c2, if_neg c2, if_pos rfl]
      exact h.dec5 hi
theorem sup5 {a x y d : Int32} : (f7_supportBut m a x y d &&& 5 = 0) ↔ (f7_firmBelow m a x y = 0 ∧ f7_isOnSlope m a x y = 0) := by
  unfold f7_supportBut f7_supportBut_b15 f7_supportBut_b30 f7_supportBut_b63
  simp only [bnd_e]
  by_cases h1 : f7_firmBelow m a x y = 0 <;> by_cases h2 : f7_isOnSlope m a x y = 0 <;> by_cases h3 : f7_of m a 6 ≤ 0 <;> by_cases h4 : f7_hasOneWay m a x y = 0 <;> by_cases h5 : f7_platformBelow m a x y d < 0 <;>
    simp only [h1, h2, h3, h4, h5, if_true, if_false, true_and, and_true, and_false, false_and, and_self] <;> decide
/-- step 3, behind the counter -/
theorem e_b17 {r : Int32} (h : RC KK lo sz M0 N Q c k u m) (hi : i < N) (hk : KK + k ≤ 1000000000 ∧ k ≤ 900000) : ∃ t u1 m1, f5_beginsToDrop_b17 i r u = (t, u1) ∧
    (if f7_firmBelow m (nI i) (f7_of m (nI i) 0) (f7_of m (nI i) 1) = 0 then (if f7_isOnSlope m (nI i) (f7_of m (nI i) 0) (f7_of m (nI i) 1) = 0 then f7_decides_b127 (nI i) r m 0 else f7_decides_b122 (nI i) r m) else f7_decides_b122 (nI i) r m) = f7_decides_b180 (nI i) (if t = 0 then r else 0) m1 ∧ RC KK lo sz M0 N Q c k u1 m1 := by
  have h4 := h.i4 hi
  have hs := sup5 (m := m) (a := nI i) (x := f7_of m (nI i) 0) (y := f7_of m (nI i) 1) (d := -1)
  have hb : 0 ≤ (m (336+24*i+5)).toInt ∧ (m (336+24*i+5)).toInt ≤ 10 := h.bd hi (by decide : 5 < 22)
  have hb0 : (m (336+24*i+5) = 0) ↔ m (336+24*i+5) ≤ 0 := by
    rw [ti_le, t_0]
    constructor
    · intro e; rw [e, t_0]; omega
    · intro e; exact ti_inj (by rw [t_0]; omega)
  unfold f5_beginsToDrop_b17 f7_decides_b122 f7_decides_b127
  simp only [bnd_e, ↓reduceIte]
  rw [e_holds h hi, h.B hi 5 (by decide), e_supOf h hi hk, o_5 h4, s_6 h4, s_5 h4, s_4 h4]
  have h0 : ∃ t u1 m1, ((0 : Int32), u) = (t, u1) ∧ f7_decides_b180 (nI i) r m = f7_decides_b180 (nI i) (if t = 0 then r else 0) m1 ∧ RC KK lo sz M0 N Q c k u1 m1 := ⟨0, u, m, rfl, by rw [if_pos rfl], h⟩
  by_cases c1 : r = 0
  · rw [if_pos c1, if_pos c1, if_pos c1]
    simp only [ite_self]
    exact h0
  · rw [if_neg c1, if_neg c1, if_neg c1]
    by_cases c2 : f7_isPressed m (nI i) 8 = 0
    · rw [if_pos c2, if_pos c2]
      simp only [ite_self]
      exact h0
    · rw [if_neg c2, if_neg c2]
      by_cases c3 : m (336+24*i+5) = 0
      · rw [if_pos c3, if_pos (hb0.mp c3)]
        simp only [ite_self]
        exact h0
      · rw [if_neg c3, if_neg (fun z => c3 (hb0.mpr z))]
        by_cases c4 : f7_supportBut m (nI i) (f7_of m (nI i) 0) (f7_of m (nI i) 1) (-1) &&& 5 = 0
        · rw [if_pos c4, if_pos (hs.mp c4).1, if_pos (hs.mp c4).2]
          refine ⟨1, _, _, rfl, by rw [if_neg (by decide)], ?_⟩
          exact ((h.sb (j := 6) hi (by decide) rfl (bb6 (by decide) (by decide))).sb (j := 5) hi (by decide) rfl (bb5 (by decide) (by decide))).sb (j := 4) hi (by decide) rfl (bb4 (by decide) (by decide))
        · rw [if_neg c4]
          by_cases c5 : f7_firmBelow m (nI i) (f7_of m (nI i) 0) (f7_of m (nI i) 1) = 0
          · rw [if_pos c5, if_neg (fun z => c4 (hs.mpr ⟨c5, z⟩))]
            exact h0
          · rw [if_neg c5]
            exact h0
/-- steps 1 to 3 -/
theorem e_dec1 (h : RC KK lo sz M0 N Q c k u m) (hi : i < N) (hk : KK + k ≤ 1000000000 ∧ k ≤ 900000) : ∃ w u1 m1, f5_update u sz i = f5_update_b28 sz i u1 w ∧ f7_decides m (nI i) = f7_decides_b180 (nI i) w m1 ∧ (w = 0 ∨ w = 1) ∧ RC KK lo sz M0 N Q c k u1 m1 := by
  have h4 := h.i4 hi
  obtain ⟨u1, m1, e1, e2, h1⟩ := e_sense h hi hk
  have h2 := e_key h1 hi
  have h3 := h2.dec6 hi
  have hbl := ds_bl (m := m) (a := nI i)
  generalize hu2 : f5_senseJumpKey u1 i (sz 13) = u2 at h2 h3
  have e7 : f7_decides m (nI i) = f7_decides_b19 m (nI i) (f7_doesStand m (nI i)) (f7_doesStand m (nI i)) := by
    unfold f7_decides
    simp only [bnd_e]
    rcases hbl with e | e
    · rw [e, if_pos rfl]
    · rw [e, if_neg (by decide)]
  rw [e7]
  unfold f5_update f7_decides_b19 f7_decides_b69
  simp only [bnd_e]
  rw [e1, bnd2_mk, hu2, e2]
  generalize f7_doesStand m (nI i) = r at hbl
  have e8 : (if f7_isPressed m1 (nI i) 4 = 0 then f7_decides_b70 (nI i) r m1 0 else if (f7_of m1 (nI i) 10 &&& 4) = 0 then f7_decides_b70 (nI i) r m1 1 else f7_decides_b70 (nI i) r m1 0) = f7_decides_b70 (nI i) r m1 (if f7_isPressed m1 (nI i) 4 = 0 then 0 else if (f7_of m1 (nI i) 10 &&& 4) = 0 then 1 else 0) := by
    split
    · rfl
    · split
      · rfl
      · rfl
  rw [e8]
  unfold f7_decides_b70
  simp only [bnd_e]
  generalize f7_counts m1 (nI i) 5 (m1 483) (if f7_isPressed m1 (nI i) 4 = 0 then 0 else if (f7_of m1 (nI i) 10 &&& 4) = 0 then 1 else 0) = m2 at h2 h3
  rw [cnt_6 h4, if_pos rfl]
  generalize va_up m2 (336+24*i+6) (if m2 (336+24*i+6) ≤ 0 then 0 else m2 (336+24*i+6) - 1) = m3 at h3
  have e9 : f5_beginsToDrop u2 i r = f5_beginsToDrop_b17 i r (if u2 (336+24*i+6) ≤ 0 then u2 else va_up u2 (336+24*i+6) (u2 (336+24*i+6) - 1)) := by
    unfold f5_beginsToDrop
    simp only [bnd_e]
    split
    · rfl
    · rfl
  rw [e9]
  obtain ⟨t, u4, m4, a1, a2, a3⟩ := e_b17 (r := r) h3 hi hk
  rw [a1, a2, bnd2_mk]
  refine ⟨if t = 0 then r else 0, u4, m4, ?_, rfl, ?_, a3⟩
  · by_cases c1 : t = 0
    · rw [if_pos c1, if_pos c1]
    · rw [if_neg c1, if_neg c1]
  · by_cases c1 : t = 0
    · rw [if_pos c1]; exact hbl
    · rw [if_neg c1]; exact Or.inl rfl
end
