/-! rows for the reference's public methods: what its tests say, what a write keeps -/
theorem btw {x lo hi r : Int32} (e : r = f7_isBetween x lo hi) (c : ¬ r = 0) : ¬ x < lo ∧ ¬ hi < x := by
  unfold f7_isBetween at e
  by_cases h1 : x < lo
  · rw [if_pos h1] at e; exact absurd e c
  · rw [if_neg h1] at e
    by_cases h2 : hi < x
    · rw [if_pos h2] at e; exact absurd e c
    · exact ⟨h1, h2⟩
theorem ge0_of {x : Int32} (h : ¬ x < 0) : 0 ≤ x := by
  rw [Int32.lt_iff_toInt_lt] at h
  rw [Int32.le_iff_toInt_le]
  omega
theorem btw_in {x hi r : Int32} {N : Nat} (e : r = f7_isBetween x 0 hi) (c : ¬ r = 0) (h : hi.toInt < N) : vp_in x N := in_le (ge0_of (btw e c).1) (btw e c).2 h
theorem body_in {u : Nat → Int32} {a r : Int32} (h : okW u) (e : r = f7_isBody u a) (c : ¬ r = 0) : vp_in a 4 := by
  unfold f7_isBody at e
  by_cases h1 : a < 0
  · rw [if_pos h1] at e; exact absurd e c
  · rw [if_neg h1] at e
    by_cases h2 : u 464 ≤ a
    · rw [if_pos h2] at e; exact absurd e c
    · exact in_n (ge0_of h1) (nle_lt h2) h.2.1
theorem body_lt {u : Nat → Int32} {a r : Int32} (e : r = f7_isBody u a) (c : ¬ r = 0) : 0 ≤ a.toInt ∧ a.toInt < (u 464).toInt := by
  unfold f7_isBody at e
  by_cases h1 : a < 0
  · rw [if_pos h1] at e; exact absurd e c
  · rw [if_neg h1] at e
    by_cases h2 : u 464 ≤ a
    · rw [if_pos h2] at e; exact absurd e c
    · rw [Int32.lt_iff_toInt_lt, show (0 : Int32).toInt = 0 from rfl] at h1
      rw [Int32.le_iff_toInt_le] at h2
      omega
theorem plat_in {u : Nat → Int32} {a r : Int32} (h : okW u) (e : r = f7_isPlatform u a) (c : ¬ r = 0) : vp_in a 4 := by
  unfold f7_isPlatform at e
  by_cases h1 : a < 0
  · rw [if_pos h1] at e; exact absurd e c
  · rw [if_neg h1] at e
    by_cases h2 : u 465 ≤ a
    · rw [if_pos h2] at e; exact absurd e c
    · exact in_n (ge0_of h1) (nle_lt h2) h.2.2.2
theorem plat_lt {u : Nat → Int32} {a r : Int32} (e : r = f7_isPlatform u a) (c : ¬ r = 0) : 0 ≤ a.toInt ∧ a.toInt < (u 465).toInt := by
  unfold f7_isPlatform at e
  by_cases h1 : a < 0
  · rw [if_pos h1] at e; exact absurd e c
  · rw [if_neg h1] at e
    by_cases h2 : u 465 ≤ a
    · rw [if_pos h2] at e; exact absurd e c
    · rw [Int32.lt_iff_toInt_lt, show (0 : Int32).toInt = 0 from rfl] at h1
      rw [Int32.le_iff_toInt_le] at h2
      omega
theorem tile_in {a b r : Int32} (e : r = f7_isTile a b) (c : ¬ r = 0) : ¬ a < 0 ∧ a < 24 ∧ ¬ b < 0 ∧ b < 14 := by
  unfold f7_isTile at e
  by_cases h1 : a < 0
  · rw [if_pos h1] at e; exact absurd e c
  · rw [if_neg h1] at e
    by_cases h2 : 24 ≤ a
    · rw [if_pos h2] at e; exact absurd e c
    · rw [if_neg h2] at e
      by_cases h3 : b < 0
      · rw [if_pos h3] at e; exact absurd e c
      · rw [if_neg h3] at e
        by_cases h4 : 14 ≤ b
        · rw [if_pos h4] at e; exact absurd e c
        · exact ⟨h1, nle_lt h2, h3, nle_lt h4⟩
theorem tile_vp {a b : Int32} (h : ¬ a < 0 ∧ a < 24 ∧ ¬ b < 0 ∧ b < 14) : vp_in ((24 * b) + a) 480 := in_kidx2 h.1 h.2.1 h.2.2.1 h.2.2.2
theorem tile_lt {a b : Int32} (h : ¬ a < 0 ∧ a < 24 ∧ ¬ b < 0 ∧ b < 14) : ((24 * b) + a).toNatClampNeg < 336 := kindIn_in (u := fun _ => 0) h.1 h.2.1 h.2.2.1 h.2.2.2
theorem okM_far {u u1 : Nat → Int32} (h : okM u) (hw : okW u1) (he : ∀ t, 600 ≤ t → u1 t = u t) : ∀ o, (o = 600 ∨ o = 1100 ∨ ∃ k, k < 12 ∧ o = 2000 + 480 * k) → okW (fun t => u1 (o + t)) := by
  intro o ho
  have ho2 : 600 ≤ o := by
    rcases ho with rfl | rfl | ⟨k, hk, rfl⟩ <;> omega
  have h9 := h.2.2.2.2.2 o ho
  unfold okW at h9 ⊢
  dsimp only at h9 ⊢
  rw [he _ (by omega), he _ (by omega)]
  exact h9
theorem okM_at {u u1 : Nat → Int32} {t : Nat} {x : Int32} (e : u1 = va_up u t x) (h : okM u) (ht : t < 600) (h1 : t = 464 → 0 ≤ x.toInt ∧ x.toInt ≤ 4) (h2 : t = 465 → 0 ≤ x.toInt ∧ x.toInt ≤ 4) (h3 : t = 491 → 0 ≤ x.toInt ∧ x.toInt ≤ 12) (h4 : t = 493 → 0 ≤ x.toInt ∧ x.toInt ≤ 40) (h5 : t = 494 → 0 ≤ x.toInt ∧ x.toInt ≤ 40) (h6 : t = 495 → 0 ≤ x.toInt ∧ x.toInt ≤ 20) : okM u1 := by
  have at_ : ∀ (k : Nat) (lo hi : Int), (t = k → lo ≤ x.toInt ∧ x.toInt ≤ hi) → (lo ≤ (u k).toInt ∧ (u k).toInt ≤ hi) → lo ≤ (u1 k).toInt ∧ (u1 k).toInt ≤ hi := by
    intro k lo hi a b
    by_cases hk : k = t
    · subst hk; rw [e, va_up_self]; exact a rfl
    · rw [e, va_up_ne _ _ hk]; exact b
  have w4 := at_ 464 0 4 h1 ⟨h.1.1, h.1.2.1⟩
  have w5 := at_ 465 0 4 h2 h.1.2.2
  have hw : okW u1 := ⟨w4.1, w4.2, w5.1, w5.2⟩
  exact ⟨hw, at_ 491 0 12 h3 h.2.1, at_ 493 0 40 h4 h.2.2.1, at_ 494 0 40 h5 h.2.2.2.1, at_ 495 0 20 h6 h.2.2.2.2.1, okM_far h hw (fun k hk => by rw [e, va_up_ne _ _ (by omega)])⟩
theorem okM_464 {u u1 : Nat → Int32} {x : Int32} (e : u1 = va_up u 464 x) (h : okM u) (hx : 0 ≤ x.toInt ∧ x.toInt ≤ 4) : okM u1 := okM_at e h (by decide) (fun _ => hx) (fun q => absurd q (by decide)) (fun q => absurd q (by decide)) (fun q => absurd q (by decide)) (fun q => absurd q (by decide)) (fun q => absurd q (by decide))
theorem okM_465 {u u1 : Nat → Int32} {x : Int32} (e : u1 = va_up u 465 x) (h : okM u) (hx : 0 ≤ x.toInt ∧ x.toInt ≤ 4) : okM u1 := okM_at e h (by decide) (fun q => absurd q (by decide)) (fun _ => hx) (fun q => absurd q (by decide)) (fun q => absurd q (by decide)) (fun q => absurd q (by decide)) (fun q => absurd q (by decide))
theorem okM_491 {u u1 : Nat → Int32} {x : Int32} (e : u1 = va_up u 491 x) (h : okM u) (hx : 0 ≤ x.toInt ∧ x.toInt ≤ 12) : okM u1 := okM_at e h (by decide) (fun q => absurd q (by decide)) (fun q => absurd q (by decide)) (fun _ => hx) (fun q => absurd q (by decide)) (fun q => absurd q (by decide)) (fun q => absurd q (by decide))
theorem okM_493 {u u1 : Nat → Int32} {x : Int32} (e : u1 = va_up u 493 x) (h : okM u) (hx : 0 ≤ x.toInt ∧ x.toInt ≤ 40) : okM u1 := okM_at e h (by decide) (fun q => absurd q (by decide)) (fun q => absurd q (by decide)) (fun q => absurd q (by decide)) (fun _ => hx) (fun q => absurd q (by decide)) (fun q => absurd q (by decide))
theorem okM_494 {u u1 : Nat → Int32} {x : Int32} (e : u1 = va_up u 494 x) (h : okM u) (hx : 0 ≤ x.toInt ∧ x.toInt ≤ 40) : okM u1 := okM_at e h (by decide) (fun q => absurd q (by decide)) (fun q => absurd q (by decide)) (fun q => absurd q (by decide)) (fun q => absurd q (by decide)) (fun _ => hx) (fun q => absurd q (by decide))
theorem okM_495 {u u1 : Nat → Int32} {x : Int32} (e : u1 = va_up u 495 x) (h : okM u) (hx : 0 ≤ x.toInt ∧ x.toInt ≤ 20) : okM u1 := okM_at e h (by decide) (fun q => absurd q (by decide)) (fun q => absurd q (by decide)) (fun q => absurd q (by decide)) (fun q => absurd q (by decide)) (fun q => absurd q (by decide)) (fun _ => hx)
theorem sets_ne {u : Nat → Int32} {a b c : Int32} {k : Nat} (ha : vp_in a 4) (hb : vp_in b 24) (hk : k < 336 ∨ 432 ≤ k) : f7_sets u a b c k = u k := by
  unfold f7_sets bnd
  show va_up u (((336 + (24 * a)) + b).toNatClampNeg) c k = u k
  rw [of_ix ha hb, va_up_ne]
  have h1 := in_lt ha
  have h2 := in_lt hb
  omega
theorem setsP_ne {u : Nat → Int32} {a b c : Int32} {k : Nat} (ha : vp_in a 4) (hb : vp_in b 8) (hk : k < 432 ∨ 464 ≤ k) : f7_setsPlate u a b c k = u k := by
  unfold f7_setsPlate bnd
  show va_up u (((432 + (8 * a)) + b).toNatClampNeg) c k = u k
  rw [pl_ix ha hb, va_up_ne]
  have h1 := in_lt ha
  have h2 := in_lt hb
  omega
theorem okM_cpy {u : Nat → Int32} {sp dp : Nat} (h : okM u) (hs : okW (fun t => u (sp + t))) (hd : dp = 0 ∨ dp = 600 ∨ dp = 1100 ∨ ∃ k, k < 12 ∧ dp = 2000 + 480 * k) : okM (va_cpy u u sp dp 480) := by
  have hin : ∀ k, dp ≤ k → k < dp + 480 → va_cpy u u sp dp 480 k = u (sp + (k - dp)) := fun k h1 h2 => pk_cpy_in h1 h2
  have hout : ∀ k, (k < dp ∨ dp + 480 ≤ k) → va_cpy u u sp dp 480 k = u k := fun k h1 => pk_cpy_out h1
  have row : ∀ o, (o = 0 ∨ o = 600 ∨ o = 1100 ∨ ∃ k, k < 12 ∧ o = 2000 + 480 * k) → okW (fun t => u (o + t)) → okW (fun t => va_cpy u u sp dp 480 (o + t)) := by
    intro o ho hq
    by_cases e : o = dp
    · subst e
      unfold okW at hs ⊢
      dsimp only at hs ⊢
      rw [hin _ (by omega) (by omega), hin _ (by omega) (by omega), show o + 464 - o = 464 by omega, show o + 465 - o = 465 by omega]
      exact hs
    · have hf : ∀ t, t < 480 → (o + t < dp ∨ dp + 480 ≤ o + t) := by
        intro t ht
        rcases ho with rfl | rfl | rfl | ⟨k, hk, rfl⟩ <;> rcases hd with rfl | rfl | rfl | ⟨k2, hk2, rfl⟩ <;> omega
      unfold okW at hq ⊢
      dsimp only at hq ⊢
      rw [hout _ (hf 464 (by decide)), hout _ (hf 465 (by decide))]
      exact hq
  have h0 : okW (va_cpy u u sp dp 480) := by
    have h9 := row 0 (Or.inl rfl) (by simpa using h.1)
    simpa using h9
  have mid : ∀ k, 480 ≤ k → k < 600 → va_cpy u u sp dp 480 k = u k := fun k h1 h2 => hout k (by
    rcases hd with rfl | rfl | rfl | ⟨k2, hk2, rfl⟩ <;> omega)
  refine ⟨h0, ?_, ?_, ?_, ?_, fun o ho => row o (Or.inr ho) (h.2.2.2.2.2 o ho)⟩
  · rw [mid 491 (by decide) (by decide)]; exact h.2.1
  · rw [mid 493 (by decide) (by decide)]; exact h.2.2.1
  · rw [mid 494 (by decide) (by decide)]; exact h.2.2.2.1
  · rw [mid 495 (by decide) (by decide)]; exact h.2.2.2.2.1
theorem okM_w0 {u : Nat → Int32} (h : okM u) : okW (fun t => u (0 + t)) := by simpa using h.1
/-- one step of the shift of the kept worlds -/
theorem okM_shift {u u1 : Nat → Int32} {i : Nat} (h : okM u) (hi : i < 5280) (e : u1 = va_up u (2000 + i) (u (2000 + (i + 480)))) : okM u1 := by
  have hl : ∀ k, k < 2000 → u1 k = u k := fun k hk => by rw [e, va_up_ne _ _ (by omega)]
  refine ⟨?_, ?_, ?_, ?_, ?_, fun o ho => ?_⟩
  · have h9 := h.1
    unfold okW at h9 ⊢
    rw [hl 464 (by decide), hl 465 (by decide)]; exact h9
  · rw [hl 491 (by decide)]; exact h.2.1
  · rw [hl 493 (by decide)]; exact h.2.2.1
  · rw [hl 494 (by decide)]; exact h.2.2.2.1
  · rw [hl 495 (by decide)]; exact h.2.2.2.2.1
  · rcases ho with rfl | rfl | ⟨k, hk, rfl⟩
    · have h9 := h.2.2.2.2.2 600 (Or.inl rfl)
      unfold okW at h9 ⊢; dsimp only at h9 ⊢
      rw [hl _ (by decide), hl _ (by decide)]; exact h9
    · have h9 := h.2.2.2.2.2 1100 (Or.inr (Or.inl rfl))
      unfold okW at h9 ⊢; dsimp only at h9 ⊢
      rw [hl _ (by decide), hl _ (by decide)]; exact h9
    · have h9 := h.2.2.2.2.2 (2000 + 480 * k) (Or.inr (Or.inr ⟨k, hk, rfl⟩))
      have at_ : ∀ j, j < 480 → (0 ≤ (u (2000 + 480 * k + j)).toInt ∧ (u (2000 + 480 * k + j)).toInt ≤ 4) → (k + 1 < 12 → 0 ≤ (u (2000 + 480 * (k + 1) + j)).toInt ∧ (u (2000 + 480 * (k + 1) + j)).toInt ≤ 4) → 0 ≤ (u1 (2000 + 480 * k + j)).toInt ∧ (u1 (2000 + 480 * k + j)).toInt ≤ 4 := by
        intro j hj a b
        by_cases q : 2000 + 480 * k + j = 2000 + i
        · rw [q, e, va_up_self, show 2000 + (i + 480) = 2000 + 480 * (k + 1) + j by omega]
          exact b (by omega)
        · rw [e, va_up_ne _ _ q]; exact a
      have nx : ∀ (hk1 : k + 1 < 12), okW (fun t => u (2000 + 480 * (k + 1) + t)) := fun hk1 => h.2.2.2.2.2 _ (Or.inr (Or.inr ⟨k + 1, hk1, rfl⟩))
      have a4 := at_ 464 (by decide) ⟨h9.1, h9.2.1⟩ (fun hk1 => ⟨(nx hk1).1, (nx hk1).2.1⟩)
      have a5 := at_ 465 (by decide) h9.2.2 (fun hk1 => (nx hk1).2.2)
      exact ⟨a4.1, a4.2, a5.1, a5.2⟩
theorem in_add {a v : Int32} {n : Nat} (h0 : 0 ≤ a.toInt) (h1 : a.toInt + 480 ≤ n) (hn : n < 2147483648) (hv : vp_in v 480) : vp_in (a + v) n := by
  have h2 := vp_in_iff.mp hv
  rw [vp_in_iff, Int32.toInt_add, Int.bmod_def]
  split <;> omega
theorem nI_ti {x : Int32} (h : 0 ≤ x.toInt) : x = nI x.toInt.toNat := by
  apply Int32.toInt_inj.mp
  rw [nI_toInt (by have := x.toInt_lt; omega)]
  omega
theorem in_mono {x : Int32} {n N : Nat} (h : vp_in x n) (hn : n ≤ N) : vp_in x N := by
  have h1 := vp_in_iff.mp h
  exact vp_in_iff.mpr ⟨h1.1, by omega⟩
theorem in_480c {x : Int32} (h : vp_in x 5280) : (x + 480).toNatClampNeg = x.toNatClampNeg + 480 := by
  obtain ⟨j, hj, rfl⟩ := vp_in_of h (by decide)
  rw [show (480 : Int32) = nI 480 from rfl, nI_add, nI_clamp (by omega), nI_clamp (by omega)]
theorem in_480 {x : Int32} (h : vp_in x 5280) : vp_in (x + 480) 5760 := by
  obtain ⟨j, hj, rfl⟩ := vp_in_of h (by decide)
  rw [show (480 : Int32) = nI 480 from rfl, nI_add]
  exact vp_in_nI (by omega) (by decide)
theorem ti_sub1 {y : Int32} (h : 0 ≤ y.toInt) : (y - 1).toInt = y.toInt - 1 := by
  have h2 := y.toInt_lt
  rw [Int32.toInt_sub, show (1 : Int32).toInt = 1 from rfl, Int.bmod_def]
  split <;> omega
theorem ti_add1 {y : Int32} (h : y.toInt < 2147483647) : (y + 1).toInt = y.toInt + 1 := by
  have h2 := y.le_toInt
  rw [Int32.toInt_add, show (1 : Int32).toInt = 1 from rfl, Int.bmod_def]
  split <;> omega
theorem kept_11 {u : Nat → Int32} (h : okM u) (c : ¬ u 491 = 12) : (u 491).toInt ≤ 11 := by
  have h1 := h.2.1.2
  have h2 : (u 491).toInt ≠ 12 := fun q => c (Int32.toInt_inj.mp q)
  omega
theorem kept_pos {u : Nat → Int32} (h : okM u) (c : ¬ u 491 = 0) : 1 ≤ (u 491).toInt := by
  have h1 := h.2.1.1
  have h2 : (u 491).toInt ≠ 0 := fun q => c (Int32.toInt_inj.mp q)
  omega
theorem kept_dec {y : Int32} (h : 1 ≤ y.toInt) (h2 : y.toInt ≤ 12) : 0 ≤ (y - 1).toInt ∧ (y - 1).toInt ≤ 11 := by
  rw [ti_sub1 (by omega)]; omega
theorem kept_inc {y : Int32} (h : 0 ≤ y.toInt) (h2 : y.toInt ≤ 11) : 0 ≤ (y + 1).toInt ∧ (y + 1).toInt ≤ 12 := by
  rw [ti_add1 (by omega)]; omega
theorem k480t {x : Int32} (h0 : 0 ≤ x.toInt) (h1 : x.toInt ≤ 11) : (480 * x).toInt = 480 * x.toInt := by
  rw [Int32.toInt_mul, show (480 : Int32).toInt = 480 from rfl, Int.bmod_def]
  split <;> omega
theorem k480 {x : Int32} (h0 : 0 ≤ x.toInt) (h1 : x.toInt ≤ 11) : 0 ≤ (480 * x).toInt ∧ (480 * x).toInt + 480 ≤ ((5760 : Nat) : Int) ∧ 5760 < 2147483648 := by
  rw [k480t h0 h1]
  refine ⟨by omega, by omega, by decide⟩
theorem c480 : 0 ≤ (0 : Int32).toInt ∧ (0 : Int32).toInt + 480 ≤ ((480 : Nat) : Int) ∧ 480 < 2147483648 := ⟨by decide, by decide, by decide⟩
theorem cnt_in {x y : Int32} (h0 : 0 ≤ y.toInt) (h4 : y.toInt ≤ 4) (e : x = y) (c : ¬ x = 4) : vp_in x 4 := by
  subst e
  have h2 : x.toInt ≠ 4 := fun q => c (Int32.toInt_inj.mp q)
  exact vp_in_iff.mpr ⟨h0, by omega⟩
theorem cnt_inc {x : Int32} (h : vp_in x 4) : 0 ≤ (x + 1).toInt ∧ (x + 1).toInt ≤ 4 := by
  have h1 := vp_in_iff.mp h
  rw [ti_add1 (by omega)]; omega
theorem cnt_dec {a y : Int32} (h : 0 ≤ a.toInt ∧ a.toInt < y.toInt) (h4 : y.toInt ≤ 4) : 0 ≤ (y - 1).toInt ∧ (y - 1).toInt ≤ 3 := by
  rw [ti_sub1 (by omega)]; omega
theorem le34 {x : Int32} (h : 0 ≤ x.toInt ∧ x.toInt ≤ 3) : 0 ≤ x.toInt ∧ x.toInt ≤ 4 := ⟨h.1, by omega⟩
theorem in_ge0 {x : Int32} {n : Nat} (h : vp_in x n) : 0 ≤ x := by
  have h1 := vp_in_iff.mp h
  rw [Int32.le_iff_toInt_le]; exact h1.1
theorem in_succ {x n : Int32} (h0 : 0 ≤ x) (h : x < n) (hn : n.toInt ≤ 3) : vp_in (x + 1) 4 := by
  rw [Int32.le_iff_toInt_le, show (0 : Int32).toInt = 0 from rfl] at h0
  have h1 := t_inc h
  rw [Int32.lt_iff_toInt_lt] at h
  rw [vp_in_iff, h1]
  omega
theorem stat_in {b r : Int32} (e : r = f7_isBetween b 0 6) (c : ¬ r = 0) : vp_in (14 + b) 24 := by
  have h1 : vp_in b 7 := btw_in e c (by decide)
  obtain ⟨j, hj, rfl⟩ := vp_in_of h1 (by decide)
  rw [show (14 : Int32) = nI 14 from rfl, nI_add]
  exact vp_in_nI (by omega) (by decide)
theorem at_in {u : Nat → Int32} {a : Int32} (h : okM u) (c : u 494 < a) (hn : 0 ≤ a.toInt ∧ a.toInt ≤ 40) : vp_in (u 494) 40 := by
  rw [Int32.lt_iff_toInt_lt] at c
  have h1 := h.2.2.2.1.1
  exact vp_in_iff.mpr ⟨h1, by omega⟩
theorem at_inc {x : Int32} (h : vp_in x 40) : 0 ≤ (x + 1).toInt ∧ (x + 1).toInt ≤ 40 := by
  have h1 := vp_in_iff.mp h
  rw [ti_add1 (by omega)]; omega
theorem len_in {u : Nat → Int32} (h : okM u) (c : ¬ u 493 = 40) : vp_in (u 493) 40 := by
  have h1 := h.2.2.1
  have h2 : (u 493).toInt ≠ 40 := fun q => c (Int32.toInt_inj.mp q)
  exact vp_in_iff.mpr ⟨h1.1, by omega⟩
theorem cmd_in {x : Int32} {u : Nat → Int32} (h0 : 0 ≤ x) (c : x < u 495) (h : okM u) : vp_in x 20 := in_n h0 c h.2.2.2.2.1.2
theorem rt_ti {a b v w : Int32} (ht : ¬ a < 0 ∧ a < 24 ∧ ¬ b < 0 ∧ b < 14) (c : v ≤ 24 - a) (hw : 0 ≤ w) (hv : w < v) : 0 ≤ (((24 * b) + a) + w).toInt ∧ (((24 * b) + a) + w).toInt < 336 ∧ (((24 * b) + a) + w).toInt = 24 * b.toInt + a.toInt + w.toInt ∧ 0 ≤ a.toInt + w.toInt ∧ a.toInt + w.toInt < 24 := by
  obtain ⟨h1, h2, h3, h4⟩ := ht
  rw [Int32.lt_iff_toInt_lt] at h1 h2 h3 h4 hv
  rw [Int32.le_iff_toInt_le] at c hw
  rw [show (0 : Int32).toInt = 0 from rfl] at h1 h3 hw
  rw [show (24 : Int32).toInt = 24 from rfl] at h2
  rw [show (14 : Int32).toInt = 14 from rfl] at h4
  have e0 : (24 - a).toInt = 24 - a.toInt := by
    rw [Int32.toInt_sub, show (24 : Int32).toInt = 24 from rfl, Int.bmod_def]; split <;> omega
  rw [e0] at c
  have e1 : (24 * b.toInt).bmod (2 ^ 32) = 24 * b.toInt := by rw [Int.bmod_def]; split <;> omega
  have e2 : (24 * b.toInt + a.toInt).bmod (2 ^ 32) = 24 * b.toInt + a.toInt := by rw [Int.bmod_def]; split <;> omega
  have e3 : (24 * b.toInt + a.toInt + w.toInt).bmod (2 ^ 32) = 24 * b.toInt + a.toInt + w.toInt := by rw [Int.bmod_def]; split <;> omega
  rw [Int32.toInt_add, Int32.toInt_add, Int32.toInt_mul, show (24 : Int32).toInt = 24 from rfl, e1, e2, e3]
  omega
theorem rt_in {a b v w : Int32} (ht : ¬ a < 0 ∧ a < 24 ∧ ¬ b < 0 ∧ b < 14) (c : v ≤ 24 - a) (hw : 0 ≤ w) (hv : w < v) : vp_in (((24 * b) + a) + w) 480 := by
  have h := rt_ti ht c hw hv
  exact vp_in_iff.mpr ⟨h.1, by omega⟩
theorem rt_lt {a b v w : Int32} (ht : ¬ a < 0 ∧ a < 24 ∧ ¬ b < 0 ∧ b < 14) (c : v ≤ 24 - a) (hw : 0 ≤ w) (hv : w < v) : (((24 * b) + a) + w).toNatClampNeg < 336 := by
  have h := rt_ti ht c hw hv
  show (((24 * b) + a) + w).toInt.toNat < 336
  omega
theorem of_nI {u : Nat → Int32} {i k : Nat} (hi : i < 4) (hk : k < 24) : f7_of u (nI i) (nI k) = u (336 + 24 * i + k) := by
  show u (((336 + (24 * nI i)) + nI k).toNatClampNeg) = _
  rw [of_ix (vp_in_nI hi (by decide)) (vp_in_nI hk (by decide)), nI_clamp (by omega), nI_clamp (by omega)]
theorem of_c {u : Nat → Int32} {a : Int32} {k : Nat} (ha : vp_in a 4) (hk : k < 24) : f7_of u a (nI k) = u (336 + 24 * a.toNatClampNeg + k) := by
  show u (((336 + (24 * a)) + nI k).toNatClampNeg) = _
  rw [of_ix ha (vp_in_nI hk (by decide)), nI_clamp (by omega)]
theorem adds_c {u : Nat → Int32} {a c : Int32} {k : Nat} (ha : vp_in a 4) (hk : k < 24) : f7_adds u a (nI k) c = va_up u (336 + 24 * a.toNatClampNeg + k) (u (336 + 24 * a.toNatClampNeg + k) + c) := by
  show va_up u (((336 + (24 * a)) + nI k).toNatClampNeg) (u (((336 + (24 * a)) + nI k).toNatClampNeg) + c) = _
  rw [of_ix ha (vp_in_nI hk (by decide)), nI_clamp (by omega)]
theorem sets_c {u : Nat → Int32} {a c : Int32} {k : Nat} (ha : vp_in a 4) (hk : k < 24) : f7_sets u a (nI k) c = va_up u (336 + 24 * a.toNatClampNeg + k) c := by
  show va_up u (((336 + (24 * a)) + nI k).toNatClampNeg) c = _
  rw [of_ix ha (vp_in_nI hk (by decide)), nI_clamp (by omega)]
theorem down_y {u z : Nat → Int32} {a r : Int32} (ha : vp_in a 4) (e : (r, z) = f7_movesDown u a) (c : ¬ r = 0) : f7_of z a 1 = f7_of u a 1 + (-1) := by
  unfold f7_movesDown at e
  simp only [bnd] at e
  by_cases h : f7_supportOf u a = 0
  · rw [if_pos h] at e
    have e2 : z = f7_adds u a 1 (-1) := congrArg Prod.snd e
    rw [e2, show (1 : Int32) = nI 1 from rfl, adds_c ha (by decide), of_c ha (by decide), of_c ha (by decide), va_up_self]
  · rw [if_neg h] at e
    exact absurd (congrArg Prod.fst e) c
theorem drop_dec {u z : Nat → Int32} {a r q : Int32} (ha : vp_in a 4) (e1 : q = f7_of u a 1) (c1 : ¬ q < (-40)) (e : (r, z) = f7_movesDown u a) (c : ¬ r = 0) : ((f7_of z a 1).toInt + 41).toNat < ((f7_of u a 1).toInt + 41).toNat := by
  rw [Int32.lt_iff_toInt_lt, show (-40 : Int32).toInt = -40 from rfl] at c1
  rw [down_y ha e c, ← e1, Int32.toInt_add, show (-1 : Int32).toInt = -1 from rfl, Int.bmod_def]
  have h2 := q.toInt_lt
  split <;> omega
theorem big_41 (x : Int32) : (x.toInt + 41).toNat < BIG := by
  have h1 := x.toInt_lt
  unfold BIG; omega
theorem at_ne {u : Nat → Int32} {a : Int32} (h : okM u) (h94 : (u 494).toInt ≤ a.toInt) (c : ¬ u 494 = a) (hn : 0 ≤ a.toInt ∧ a.toInt ≤ 40) : vp_in (u 494) 40 ∧ (u 494).toInt < a.toInt := by
  have h1 := h.2.2.2.1.1
  have h2 : (u 494).toInt ≠ a.toInt := fun q => c (Int32.toInt_inj.mp q)
  exact ⟨vp_in_iff.mpr ⟨h1, by omega⟩, by omega⟩
theorem cm_ne {x y : Int32} (hx : vp_in x 40) (h : 2 * y.toInt ≤ x.toInt) (h0 : 0 ≤ y.toInt) : vp_in y 20 := by
  have h1 := vp_in_iff.mp hx
  exact vp_in_iff.mpr ⟨h0, by omega⟩
theorem cm_inc {x : Int32} (h : vp_in x 20) : 0 ≤ (x + 1).toInt ∧ (x + 1).toInt ≤ 20 := by
  have h1 := vp_in_iff.mp h
  rw [ti_add1 (by omega)]; omega
theorem ti_inc {x : Int32} {n : Nat} (h : vp_in x n) (hn : n ≤ 1000000) : (x + 1).toInt = x.toInt + 1 := by
  have h1 := vp_in_iff.mp h
  exact ti_add1 (by omega)
theorem ti_inc_lt {x a : Int32} (h : x < a) : (x + 1).toInt = x.toInt + 1 ∧ x.toInt + 1 ≤ a.toInt := by
  refine ⟨t_inc h, ?_⟩
  rw [Int32.lt_iff_toInt_lt] at h
  omega
theorem dec_20 {x y : Int32} (h : vp_in x 20) (e : y = x + 1) : (20 - y.toInt).toNat < (20 - x.toInt).toNat := by
  have h1 := vp_in_iff.mp h
  rw [inc_in h (by decide) e]
  omega
theorem big_20 (x : Int32) : (20 - x.toInt).toNat < BIG := by
  have h2 := x.le_toInt
  unfold BIG; omega
