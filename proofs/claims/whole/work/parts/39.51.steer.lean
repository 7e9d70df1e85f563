/-! PURE: steps 4 to 8 of an update -/
section
variable {KK : Int} {lo : Nat → Int} {sz M0 : Nat → Int32} {N Q c : Nat} {k l : Int} {u m : Nat → Int32} {i j p : Nat}
theorem e_dir (h : RC KK lo sz M0 N Q c k u m) (hi : i < N) : f0_direction u i = f7_wayOf m (nI i) ∧ (f7_wayOf m (nI i) = 0 ∨ f7_wayOf m (nI i) = 1 ∨ f7_wayOf m (nI i) = -1) := by
  unfold f0_direction f0_direction_b13 f7_wayOf
  simp only [bnd_e]
  rw [e_holds h hi, e_holds h hi]
  rcases pr_bl (m := m) (a := nI i) (b := 1) with e1 | e1 <;> rcases pr_bl (m := m) (a := nI i) (b := 2) with e2 | e2 <;> rw [e1, e2]
  · exact ⟨rfl, Or.inl rfl⟩
  · exact ⟨rfl, Or.inr (Or.inl rfl)⟩
  · exact ⟨rfl, Or.inr (Or.inr rfl)⟩
  · exact ⟨rfl, Or.inl rfl⟩
theorem RC.hs (h : RC KK lo sz M0 N Q c k u m) (hi : i < N) : -16 ≤ (m (336+24*i+2)).toInt ∧ (m (336+24*i+2)).toInt ≤ 16 := h.bd hi (by decide : 2 < 22)
theorem RC.vs (h : RC KK lo sz M0 N Q c k u m) (hi : i < N) : -12 ≤ (m (336+24*i+3)).toInt ∧ (m (336+24*i+3)).toInt ≤ 16 := h.bd hi (by decide : 3 < 22)
theorem RC.run (h : RC KK lo sz M0 N Q c k u m) : 1 ≤ (m 480).toInt ∧ (m 480).toInt ≤ 10 := by
  rw [h.rest 480 (by omega)]; exact h.es.2.1
theorem RC.jmp (h : RC KK lo sz M0 N Q c k u m) : 5 ≤ (m 481).toInt ∧ (m 481).toInt ≤ 16 := by
  rw [h.rest 481 (by omega)]; exact h.es.2.2.1
theorem RC.z10 (h : RC KK lo sz M0 N Q c k u m) : sz 10 = m 480 := (h.es.1 0 (by decide)).trans (h.rest 480 (by omega)).symm
theorem RC.z11 (h : RC KK lo sz M0 N Q c k u m) : sz 11 = m 481 := (h.es.1 1 (by decide)).trans (h.rest 481 (by omega)).symm
theorem neg_mul1 {x : Int32} : (-1) * x = 0 - x := by rw [Int32.mul_comm]; exact mul_m1
theorem ti_0s {x : Int32} (h1 : -1000000 ≤ x.toInt) (h2 : x.toInt ≤ 1000000) : (0 - x).toInt = -x.toInt := by
  have := ti_sub (x := 0) (y := x) (by rw [t_0]; omega) (by rw [t_0]; omega)
  rw [t_0] at this
  omega
/-- the direction times a small number -/
theorem ti_dm {d x : Int32} (hd : d = 1 ∨ d = -1) (h1 : -1000000 ≤ x.toInt) (h2 : x.toInt ≤ 1000000) : (d * x).toInt = d.toInt * x.toInt ∧ (x * d).toInt = d.toInt * x.toInt ∧ (d.toInt = 1 ∨ d.toInt = -1) := by
  rcases hd with rfl | rfl
  · rw [Int32.one_mul, Int32.mul_one, t_1]; exact ⟨by omega, by omega, Or.inl rfl⟩
  · rw [neg_mul1, mul_m1, t_m1, ti_0s h1 h2]; exact ⟨by omega, by omega, Or.inr rfl⟩
theorem e_speed {d t : Int32} (h : RC KK lo sz M0 N Q c k u m) (hi : i < N) (hd : d = 1 ∨ d = -1) (ht : t = 1 ∨ t = 2) : RC KK lo sz M0 N Q c k (if m 480 ≤ m (336+24*i+2) * d then u else va_up u (336+24*i+2) (d * mMin (m 480) (m (336+24*i+2) * d + t))) (if m (336+24*i+2) * d ≤ m 480 then (if m (336+24*i+2) * d + t ≤ m 480 then va_up m (336+24*i+2) (d * (m (336+24*i+2) * d + t)) else va_up m (336+24*i+2) (d * m 480)) else m) := by
  have hs := h.hs hi
  have hr := h.run
  obtain ⟨e1, e2, e3⟩ := ti_dm (d := d) (x := m (336+24*i+2)) hd (by omega) (by omega)
  obtain ⟨g1, g2, g3⟩ := ti_dm (d := d) (x := m 480) hd (by omega) (by omega)
  have hv : -16 ≤ (m (336+24*i+2) * d).toInt ∧ (m (336+24*i+2) * d).toInt ≤ 16 := by
    rw [e2]
    rcases e3 with e3 | e3 <;> rw [e3] <;> omega
  have ht2 : 1 ≤ t.toInt ∧ t.toInt ≤ 2 := by
    rcases ht with rfl | rfl
    · rw [t_1]; omega
    · rw [t_2]; omega
  have hvt := ti_add (x := m (336+24*i+2) * d) (y := t) (by omega) (by omega)
  have hr480 : d * m 480 = m (336+24*i+2) ↔ (m (336+24*i+2) * d).toInt = (m 480).toInt := by
    constructor
    · intro q
      have := congrArg Int32.toInt q
      rw [g1] at this
      rw [e2, ← this]
      rcases e3 with e3 | e3 <;> rw [e3] <;> omega
    · intro q
      refine ti_inj ?_
      rw [g1, ← q, e2]
      rcases e3 with e3 | e3 <;> rw [e3] <;> omega
  have hb : ∀ z : Int32, -16 ≤ z.toInt → z.toInt ≤ 16 → -16 ≤ (d * z).toInt ∧ (d * z).toInt ≤ 16 := fun z z1 z2 => by
    obtain ⟨f1, -, f3⟩ := ti_dm (d := d) (x := z) hd (by omega) (by omega)
    rw [f1]
    rcases f3 with f3 | f3 <;> rw [f3] <;> omega
  by_cases c1 : m 480 ≤ m (336+24*i+2) * d
  · rw [if_pos c1]
    rw [ti_le] at c1
    by_cases c2 : m (336+24*i+2) * d ≤ m 480
    · rw [if_pos c2]
      rw [ti_le] at c2
      rw [if_neg (fun z => by rw [ti_le] at z; omega), hr480.mpr (by omega), up_eta]
      exact h
    · rw [if_neg c2]
      exact h
  · rw [if_neg c1]
    rw [ti_le] at c1
    rw [if_pos (ti_le.mpr (by omega))]
    by_cases c2 : m (336+24*i+2) * d + t ≤ m 480
    · rw [if_pos c2]
      rw [ti_le] at c2
      have e : mMin (m 480) (m (336+24*i+2) * d + t) = m (336+24*i+2) * d + t := by
        show (if _ then _ else _) = _
        by_cases c3 : m (336+24*i+2) * d + t < m 480
        · rw [if_pos c3]
        · rw [if_neg c3]
          rw [ti_lt] at c3
          exact ti_inj (by omega)
      rw [e]
      have hz := hb (m (336+24*i+2) * d + t) (by omega) (by omega)
      exact h.sb (j := 2) hi (by decide) rfl (bb2 hz.1 hz.2)
    · rw [if_neg c2]
      rw [ti_le] at c2
      have e : mMin (m 480) (m (336+24*i+2) * d + t) = m 480 := by
        show (if _ then _ else _) = _
        rw [if_neg (fun z => by rw [ti_lt] at z; omega)]
      rw [e]
      have hz := hb (m 480) (by omega) (by omega)
      exact h.sb (j := 2) hi (by decide) rfl (bb2 hz.1 hz.2)
theorem e_slow (h : RC KK lo sz M0 N Q c k u m) (hi : i < N) : RC KK lo sz M0 N Q c k (va_up u (336+24*i+2) (f5_nearerToZero (u (336+24*i+2)))) (f7_slowsDown m (nI i)) := by
  have h4 := h.i4 hi
  have hs := h.hs hi
  have e1 := ti_add (x := m (336+24*i+2)) (y := 2) (by rw [t_2]; omega) (by rw [t_2]; omega)
  have e2 := ti_sub (x := m (336+24*i+2)) (y := 2) (by rw [t_2]; omega) (by rw [t_2]; omega)
  rw [t_2] at e1 e2
  unfold f5_nearerToZero f7_slowsDown
  simp only [bnd_e]
  rw [o_2 h4, s_2 h4, s_2 h4, s_2 h4, h.B hi 2 (by decide)]
  have hm : mMin 0 (m (336+24*i+2) + 2) = if m (336+24*i+2) + 2 < 0 then m (336+24*i+2) + 2 else 0 := rfl
  have hx : mMax 0 (m (336+24*i+2) - 2) = if 0 < m (336+24*i+2) - 2 then m (336+24*i+2) - 2 else 0 := rfl
  rw [hm, hx]
  simp only [ti_le, ti_lt, t_0, t_2, t_m2, e1, e2]
  by_cases c1 : (m (336+24*i+2)).toInt ≤ 0
  · rw [if_pos c1, if_pos (c := (m (336+24*i+2)).toInt ≤ 2) (by omega)]
    by_cases c2 : (m (336+24*i+2)).toInt + 2 < 0
    · rw [if_pos c2, if_neg (c := -2 ≤ (m (336+24*i+2)).toInt) (by omega)]
      exact h.sb (j := 2) hi (by decide) rfl (bb2 (by omega) (by omega))
    · rw [if_neg c2, if_pos (c := -2 ≤ (m (336+24*i+2)).toInt) (by omega)]
      exact h.sb (j := 2) hi (by decide) rfl (bb2 (by decide) (by decide))
  · rw [if_neg c1]
    by_cases c2 : (m (336+24*i+2)).toInt ≤ 2
    · rw [if_neg (c := 0 < (m (336+24*i+2)).toInt - 2) (by omega), if_pos c2, if_pos (c := -2 ≤ (m (336+24*i+2)).toInt) (by omega)]
      exact h.sb (j := 2) hi (by decide) rfl (bb2 (by decide) (by decide))
    · rw [if_pos (c := 0 < (m (336+24*i+2)).toInt - 2) (by omega), if_neg c2]
      exact h.sb (j := 2) hi (by decide) rfl (bb2 (by omega) (by omega))
/-- step 4 -/
theorem e_steer {w d : Int32} (h : RC KK lo sz M0 N Q c k u m) (hi : i < N) (hd : d = 0 ∨ d = 1 ∨ d = -1) : RC KK lo sz M0 N Q c k (f5_steer u i w d (sz 10)) (if d = 0 then (if w = 0 then m else if f7_isOnIce m (nI i) = 0 then f7_slowsDown m (nI i) else m) else f7_speedsUp m (nI i) d w) := by
  have h4 := h.i4 hi
  unfold f5_steer f5_steer_b29 f5_steer_b30 f5_steer_b85 f7_speedsUp f7_speedsUp_b44 f7_speedsUp_b45 f7_isOnIce
  simp only [bnd_e, ↓reduceIte]
  rw [e_firmOf h hi, h.z10, o_2 h4]
  simp only [s_2 h4]
  rw [h.B hi 2 (by decide)]
  have hsl := e_slow h hi
  rw [h.B hi 2 (by decide)] at hsl
  rcases hd with hd | hd
  · rw [if_pos hd, if_pos hd, if_pos hd]
    by_cases c1 : w = 0
    · rw [if_pos c1, if_pos c1]; exact h
    · rw [if_neg c1, if_neg c1]
      by_cases c2 : f7_firmBelow m (nI i) (f7_of m (nI i) 0) (f7_of m (nI i) 1) = 32
      · rw [if_pos c2, if_pos c2, if_neg (by decide)]; exact h
      · rw [if_neg c2, if_neg c2, if_pos rfl, if_neg (by decide)]; exact hsl
  · have hd0 : ¬ d = 0 := by rcases hd with rfl | rfl <;> decide
    have s1 := e_speed (t := 1) h hi hd (Or.inl rfl)
    have s2 := e_speed (t := 2) h hi hd (Or.inr rfl)
    rw [if_neg hd0, if_neg hd0, if_neg hd0]
    by_cases c1 : w = 0
    · rw [if_pos c1, if_pos c1]; exact s1
    · rw [if_neg c1, if_neg c1]
      by_cases c2 : f7_firmBelow m (nI i) (f7_of m (nI i) 0) (f7_of m (nI i) 1) = 32
      · rw [if_pos c2, if_pos c2, if_neg (c := (1 : Int32) = 0) (by decide)]; exact s1
      · rw [if_neg c2, if_neg c2, if_pos (c := (0 : Int32) = 0) rfl]; exact s2
end
