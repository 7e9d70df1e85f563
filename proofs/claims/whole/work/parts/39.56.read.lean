/-! PURE: the public readers -/
section
variable {sz M0 : Nat → Int32} {N Q c : Nat} {k K L : Int} {u w m u2 w2 m2 : Nat → Int32} {i j p : Nat} {σ σ2 : Nat → Nat → Int32}
theorem bt_nI {b : Int32} {n : Nat} {x : Int32} (hx : x.toInt = n) (hn : n < 1000) (h : ¬ f7_isBetween b 0 x = 0) : ∃ q, q ≤ n ∧ b = nI q := by
  have h1 := bt_in h
  rw [t_0] at h1
  obtain ⟨q, hq, e⟩ := vp_nI (w := b) (K := n+1) (vp_in_iff.mpr ⟨h1.1, by omega⟩) (by omega)
  exact ⟨q, by omega, e⟩
theorem fails_k {n : Int32} : (bnd2 (f7_fails m n) fun r u => (r, u)) = (0, va_up m 490 n) := by rw [fails_e, bnd2_mk]
theorem refuses_k {n : Int32} : (bnd2 (f7_refuses m n) fun r u => (r, u)) = (0, va_up m 490 n) := by rw [refuses_e, bnd2_mk]
theorem num_0 : f0_number u i (nI 0) = u (336+24*i+0) := by unfold f0_number; rw [if_pos (by decide)]
theorem num_1 : f0_number u i (nI 1) = u (336+24*i+1) := by unfold f0_number; rw [if_neg (by decide), if_pos (by decide)]
theorem num_2 : f0_number u i (nI 2) = u (336+24*i+2) := by unfold f0_number; rw [if_neg (by decide), if_neg (by decide), if_pos (by decide)]
theorem num_3 : f0_number u i (nI 3) = u (336+24*i+3) := by unfold f0_number; rw [if_neg (by decide), if_neg (by decide), if_neg (by decide), if_pos (by decide)]
theorem num_4 : f0_number u i (nI 4) = u (336+24*i+4) := by unfold f0_number; rw [if_neg (by decide), if_neg (by decide), if_neg (by decide), if_neg (by decide), if_pos (by decide)]
theorem num_5 : f0_number u i (nI 5) = u (336+24*i+5) := by unfold f0_number; rw [if_neg (by decide), if_neg (by decide), if_neg (by decide), if_neg (by decide), if_neg (by decide), if_pos (by decide)]
theorem num_6 : f0_number u i (nI 6) = u (336+24*i+6) := by unfold f0_number; rw [if_neg (by decide), if_neg (by decide), if_neg (by decide), if_neg (by decide), if_neg (by decide), if_neg (by decide), if_pos (by decide)]
theorem num_7 : f0_number u i (nI 7) = u (336+24*i+7) := by unfold f0_number; rw [if_neg (by decide), if_neg (by decide), if_neg (by decide), if_neg (by decide), if_neg (by decide), if_neg (by decide), if_neg (by decide), if_pos (by decide)]
theorem num_8 : f0_number u i (nI 8) = u (336+24*i+8) := by unfold f0_number; rw [if_neg (by decide), if_neg (by decide), if_neg (by decide), if_neg (by decide), if_neg (by decide), if_neg (by decide), if_neg (by decide), if_neg (by decide), if_pos (by decide)]
theorem num_9 : f0_number u i (nI 9) = u (336+24*i+9) := by unfold f0_number; rw [if_neg (by decide), if_neg (by decide), if_neg (by decide), if_neg (by decide), if_neg (by decide), if_neg (by decide), if_neg (by decide), if_neg (by decide), if_neg (by decide)]
theorem num_nI {q : Nat} (h : q ≤ 9) : f0_number u i (nI q) = u (336+24*i+q) := by
  rcases (show q = 0 ∨ q = 1 ∨ q = 2 ∨ q = 3 ∨ q = 4 ∨ q = 5 ∨ q = 6 ∨ q = 7 ∨ q = 8 ∨ q = 9 by omega) with rfl | rfl | rfl | rfl | rfl | rfl | rfl | rfl | rfl | rfl
  · exact num_0
  · exact num_1
  · exact num_2
  · exact num_3
  · exact num_4
  · exact num_5
  · exact num_6
  · exact num_7
  · exact num_8
  · exact num_9
theorem pnum_0 : f2_number u i (nI 0) = u (432+8*i+0) := by unfold f2_number; rw [if_pos (by decide)]
theorem pnum_1 : f2_number u i (nI 1) = u (432+8*i+1) := by unfold f2_number; rw [if_neg (by decide), if_pos (by decide)]
theorem pnum_2 : f2_number u i (nI 2) = u (432+8*i+2) := by unfold f2_number; rw [if_neg (by decide), if_neg (by decide), if_pos (by decide)]
theorem pnum_3 : f2_number u i (nI 3) = u (432+8*i+3) := by unfold f2_number; rw [if_neg (by decide), if_neg (by decide), if_neg (by decide), if_pos (by decide)]
theorem pnum_4 : f2_number u i (nI 4) = u (432+8*i+4) := by unfold f2_number; rw [if_neg (by decide), if_neg (by decide), if_neg (by decide), if_neg (by decide), if_pos (by decide)]
theorem pnum_5 : f2_number u i (nI 5) = u (432+8*i+5) := by unfold f2_number; rw [if_neg (by decide), if_neg (by decide), if_neg (by decide), if_neg (by decide), if_neg (by decide)]
theorem pnum_nI {q : Nat} (h : q ≤ 5) : f2_number u i (nI q) = u (432+8*i+q) := by
  rcases (show q = 0 ∨ q = 1 ∨ q = 2 ∨ q = 3 ∨ q = 4 ∨ q = 5 by omega) with rfl | rfl | rfl | rfl | rfl | rfl
  · exact pnum_0
  · exact pnum_1
  · exact pnum_2
  · exact pnum_3
  · exact pnum_4
  · exact pnum_5
theorem t_body {a b : Int32} (h : Top K σ m) : PM (cd2 xOB xIA) K σ (f6_body σ a b) (f7_body m a b) := by
  unfold f6_body f7_body
  simp only [bnd_e, fails_k]
  rcases rqB (a := a) h with ⟨e1, e2⟩ | ⟨N, Q, i, hr, hi, rfl, e1, e2⟩
  · rw [e1, bndx_r, e2, if_pos rfl]; exact PM.fl h (Or.inl ⟨rfl, rfl⟩)
  · have h4 := hr.i4 hi
    rw [e1, bndx_l, e2, if_neg n10, wi_e]
    by_cases c1 : f7_isBetween b 0 9 = 0
    · rw [c1, rq0, bndx_r, if_pos rfl]; exact PM.fl h (Or.inr ⟨rfl, rfl⟩)
    · rw [rq1 c1, bndx_l, if_neg c1]
      obtain ⟨q, hq, rfl⟩ := bt_nI (n := 9) rfl (by decide) c1
      refine PM.rd h ?_
      rw [nI_clamp (by omega), num_nI hq, of_nI h4 (by omega), va_up_ne _ _ (by omega)]
      exact hr.B hi q (by omega)
theorem t_platform {a b : Int32} (h : Top K σ m) : PM (cd2 xOB xIA) K σ (f6_platform σ a b) (f7_platform m a b) := by
  unfold f6_platform f7_platform
  simp only [bnd_e, fails_k]
  rcases rqP (a := a) h with ⟨e1, e2⟩ | ⟨N, Q, i, hr, hi, rfl, e1, e2⟩
  · rw [e1, bndx_r, e2, if_pos rfl]; exact PM.fl h (Or.inl ⟨rfl, rfl⟩)
  · have h4 := hr.p4 hi
    rw [e1, bndx_l, e2, if_neg n10, wi_e]
    by_cases c1 : f7_isBetween b 0 5 = 0
    · rw [c1, rq0, bndx_r, if_pos rfl]; exact PM.fl h (Or.inr ⟨rfl, rfl⟩)
    · rw [rq1 c1, bndx_l, if_neg c1]
      obtain ⟨q, hq, rfl⟩ := bt_nI (n := 5) rfl (by decide) c1
      refine PM.rd h ?_
      rw [nI_clamp (by omega), pnum_nI hq, plate_nI h4 (by omega), va_up_ne _ _ (by omega)]
      exact hr.Pq hi q (by omega)
theorem t_statistic {a b : Int32} (h : Top K σ m) : PM (cd2 xOB xIA) K σ (f6_statistic σ a b) (f7_statistic m a b) := by
  unfold f6_statistic f7_statistic
  simp only [bnd_e, fails_k]
  rcases rqB (a := a) h with ⟨e1, e2⟩ | ⟨N, Q, i, hr, hi, rfl, e1, e2⟩
  · rw [e1, bndx_r, e2, if_pos rfl]; exact PM.fl h (Or.inl ⟨rfl, rfl⟩)
  · have h4 := hr.i4 hi
    rw [e1, bndx_l, e2, if_neg n10, wi_e]
    by_cases c1 : f7_isBetween b 0 6 = 0
    · rw [c1, rq0, bndx_r, if_pos rfl]; exact PM.fl h (Or.inr ⟨rfl, rfl⟩)
    · rw [rq1 c1, bndx_l, if_neg c1]
      obtain ⟨q, hq, rfl⟩ := bt_nI (n := 6) rfl (by decide) c1
      refine PM.rd h ?_
      rw [nI_clamp (by omega), nI_clamp (by omega), show (14 : Int32) + nI q = nI (14+q) from nI_add 14 q, of_nI h4 (by omega), va_up_ne _ _ (by omega), ← hr.B hi (14+q) (by omega), Nat.add_assoc (336+24*i)]
theorem t_support {a : Int32} (h : Top K σ m) (hK : K ≤ 900000000) : PM (cd1 xOB) K σ (f6_support σ a) (f7_support m a) := by
  unfold f6_support f7_support f7_supportOf f7_supportAt
  simp only [bnd_e, fails_k]
  rcases rqB (a := a) h with ⟨e1, e2⟩ | ⟨N, Q, i, hr, hi, rfl, e1, e2⟩
  · rw [e1, bndx_r, e2, if_pos rfl]; exact PM.fl h ⟨rfl, rfl⟩
  · rw [e1, bndx_l, e2, if_neg n10, nI_clamp (by have := hr.i4 hi; omega), e_supOf (hr.mx (t := 490) (x := 0) (by decide)) hi (by omega)]
    exact PM.rd h rfl
theorem t_stands {a : Int32} (h : Top K σ m) (hK : K ≤ 900000000) : PM (cd1 xOB) K σ (f6_stands σ a) (f7_stands m a) := by
  unfold f6_stands f7_stands
  simp only [bnd_e, refuses_k]
  rcases rqB (a := a) h with ⟨e1, e2⟩ | ⟨N, Q, i, hr, hi, rfl, e1, e2⟩
  · rw [e1, bndx_r, e2, if_pos rfl]; exact PM.fl h ⟨rfl, rfl⟩
  · rw [e1, bndx_l, e2, if_neg n10, nI_clamp (by have := hr.i4 hi; omega), e_isStanding (hr.mx (t := 490) (x := 0) (by decide)) hi (by omega)]
    exact PM.rd h rfl
theorem t_below {a : Int32} (h : Top K σ m) : PM (cd1 xOB) K σ (f6_below σ a) (f7_below m a) := by
  unfold f6_below f7_below
  simp only [bnd_e, fails_k]
  rcases rqB (a := a) h with ⟨e1, e2⟩ | ⟨N, Q, i, hr, hi, rfl, e1, e2⟩
  · rw [e1, bndx_r, e2, if_pos rfl]; exact PM.fl h ⟨rfl, rfl⟩
  · rw [e1, bndx_l, e2, if_neg n10, nI_clamp (by have := hr.i4 hi; omega), e_firmOf (hr.mx (t := 490) (x := 0) (by decide)) hi]
    exact PM.rd h rfl
theorem t_isBlocked {a b c1 : Int32} (h : Top K σ m) : PM (cd2 xOB xIA) K σ (f6_isBlocked σ a b c1) (f7_isBlocked m a b c1) := by
  unfold f6_isBlocked f6_isBlocked_b35 f6_isBlocked_b36 f7_isBlocked
  simp only [bnd_e, refuses_k]
  rcases rqB (a := a) h with ⟨e1, e2⟩ | ⟨N, Q, i, hr, hi, rfl, e1, e2⟩
  · rw [e1, bndx_r, e2, if_pos rfl]; exact PM.fl h (Or.inl ⟨rfl, rfl⟩)
  · have h4 := hr.i4 hi
    have h9 := hr.mx (t := 490) (x := 0) (by decide)
    rw [e1, bndx_l, e2, if_neg n10, wi_e, wi_e]
    by_cases d1 : f7_isBetween b (-400) 400 = 0
    · rw [if_pos d1, if_pos d1, rq0, bndx_r]; exact PM.fl h (Or.inr ⟨rfl, rfl⟩)
    · rw [if_neg d1, if_neg d1]
      by_cases d2 : f7_isBetween c1 (-400) 400 = 0
      · rw [if_pos d2, if_pos d2, rq0, bndx_r]; exact PM.fl h (Or.inr ⟨rfl, rfl⟩)
      · rw [if_neg d2, if_neg d2, rq1 n10, bndx_l, nI_clamp (by omega), o_0 h4, o_1 h4, e_blk h9 hi, h9.B hi 0 (by decide), h9.B hi 1 (by decide)]
        exact PM.rd h rfl
theorem t_tile {a b : Int32} (h : Top K σ m) : PM (cd1 xOB) K σ (f6_tile σ a b) (f7_tile m a b) := by
  obtain ⟨N, Q, hr⟩ := h.rb
  unfold f6_tile f7_tile
  simp only [bnd_e, fails_k]
  rcases rqT (σ := σ) (a := a) (b := b) with ⟨e1, e2⟩ | ⟨e1, e2, x1, x2, x3, x4⟩
  · rw [e1, bndx_r, e2, if_pos rfl]; exact PM.fl h ⟨rfl, rfl⟩
  · rw [e1, bndx_l, e2, if_neg n10]
    refine PM.rd h ?_
    have hix := kindIn_in (u := m) x1 x2 x3 x4
    rw [e_kind hr.T, va_up_ne _ _ (by omega)]
    unfold f7_kindIn
    rw [if_neg x1, if_pos x2, if_neg x3, if_pos x4]
end
