/-! PURE: play, its ticks -/
section
variable {sz M0 : Nat → Int32} {N Q c : Nat} {k K L : Int} {u w m u2 w2 m2 : Nat → Int32} {i j p : Nat} {σ σ2 : Nat → Nat → Int32}
theorem pt_L {A q : Nat} (hA : A ≤ 99) (hq9 : q < 1000) {f : Int32 → (Nat → Nat → Int32) → RT} : ∀ (n n2 t : Nat) (K : Int) (σ : Nat → Nat → Int32) (m : Nat → Int32), Top K σ m → σ 15 (80+q) = nI A → t ≤ A → A < n + t → A < n2 + t → K + 248 * A ≤ 900000000 + 248 * t →
    ∃ σ1 m1, f6_play_L108 f (nI q) n (nI t) σ = f (nI (q+1)) σ1 ∧ f7_ticks_L2 (nI A) n2 (nI t) m = m1 ∧ Top (K + 248 * A - 248 * t) σ1 m1 ∧ (∀ r, ¬ (3 ≤ r ∧ r < 16) → ¬ r = 0 → σ1 r = σ r) ∧ (∀ t, ¬ t = 2 → ¬ t = 3 → σ1 15 t = σ 15 t) ∧ (∀ t, ((480 ≤ t ∧ t < 484) ∨ 488 ≤ t) → ¬ t = 491 → (t < 2000 ∨ 7760 ≤ t) → m1 t = m t) ∧ ((m1 464).toInt = (m 464).toInt) := by
  intro n
  induction n with
  | zero => intro n2 t K σ m h h1 h2 h3; omega
  | succ n ih =>
    intro n2 t K σ m h h8 ht hn hn2 hK
    cases n2 with
    | zero => omega
    | succ n2 =>
      rw [f6_play_L108, f7_ticks_L2, nI_clamp (by omega), h8]
      by_cases c0 : nI A ≤ nI t
      · rw [if_pos c0, if_pos c0]
        rw [ti_le, nI_toInt (by omega), nI_toInt (by omega)] at c0
        simp only [bnd_e]
        rw [nI_s]
        exact ⟨σ, m, rfl, rfl, h.mono (by omega), fun _ _ _ => rfl, fun _ _ _ => rfl, fun _ _ _ _ => rfl, rfl⟩
      · rw [if_neg c0, if_neg c0]
        rw [ti_le, nI_toInt (by omega), nI_toInt (by omega)] at c0
        obtain ⟨m1, b1, b2, b3, b4, b5, b6⟩ := e_stp h (by omega)
        rw [b6]
        simp only [bnd_e]
        rw [nI_s]
        obtain ⟨σ1, m9, d1, d2, d3, d4, d5, d6, d7⟩ := ih n2 (t+1) (K+248) (stp σ) m1 b1 ((b3 _ (by omega) (by omega)).trans h8) (by omega) (by omega) (by omega) (by omega)
        exact ⟨σ1, m9, d1, d2, d3.mono (by omega), fun r x1 x2 => (d4 r x1 x2).trans (b2 r x1 x2), fun t x1 x2 => (d5 t x1 x2).trans (b3 t x1 x2), fun t x1 x2 x3 => (d6 t x1 x2 x3).trans (b4 t x1 x2 x3), d7.trans b5⟩
theorem pl_LL {c i : Nat} {r : Int32} (hc : c ≤ 20) : ∀ (n n2 q : Nat) (K : Int) (σ : Nat → Nat → Int32) (m : Nat → Int32), Top K σ m → σ 15 5 = nI c → m 495 = nI c → (i : Int) < (m 464).toInt → (∀ j, j < c → σ 15 (60+j) = m (540+j) ∧ (0 ≤ (m (540+j)).toInt ∧ (m (540+j)).toInt ≤ 15) ∧ ∃ A : Nat, A ≤ 99 ∧ σ 15 (80+j) = nI A ∧ m (560+j) = nI A) → m 490 = 0 → q ≤ c → c < n + q → c < n2 + q → K + 25000 * c ≤ 900000000 + 25000 * q →
    ∃ σ1 m1, f6_play_L71 (nI i) r n (nI q) σ = (.inl r, σ1) ∧ f7_play_L111 (nI i) r n2 (nI q) m = (r, m1) ∧ Top (K + 25000 * c - 25000 * q) σ1 m1 ∧ m1 490 = 0 ∧ σ1 16 = σ 16 := by
  intro n
  induction n with
  | zero => intro n2 q K σ m h h1 h2 h3 h4 h5 h6 h7; omega
  | succ n ih =>
    intro n2 q K σ m h h5 h495 hi hcm h490 hq hn hn2 hK
    cases n2 with
    | zero => omega
    | succ n2 =>
      rw [f6_play_L71, f7_play_L111, h5, h495]
      by_cases c0 : nI c ≤ nI q
      · rw [if_pos c0, if_pos c0]
        rw [ti_le, nI_toInt (by omega), nI_toInt (by omega)] at c0
        exact ⟨σ, m, rfl, rfl, h.mono (by omega), h490, rfl⟩
      · rw [if_neg c0, if_neg c0]
        rw [ti_le, nI_toInt (by omega), nI_toInt (by omega)] at c0
        obtain ⟨k1, k2, A, k3, k4, k5⟩ := hcm q (by omega)
        obtain ⟨N, Q, hr⟩ := h.rb
        have hiN : i < N := by have := hr.nbm; omega
        have h4 := hr.i4 hiN
        unfold f7_ticks
        simp only [bnd_e]
        rw [nI_clamp (by omega), nI_clamp (by omega), s_9 h4, k1, va_up_ne (k := 336+24*i+9) (j := 560+q) _ _ (by omega), k5]
        have hr2 := hr.sb (j := 9) (x := m (540+q)) (y := m (540+q)) hiN (by decide) rfl trivial
        have hT : Top K (va_up σ 0 (va_up (σ 0) (336+24*i+9) (m (540+q)))) (va_up m (336+24*i+9) (m (540+q))) := h.w0 (Int.le_refl K) (RB.wd hr2) (fun t ht => va_up_ne _ _ (by omega))
        have s15 : va_up σ 0 (va_up (σ 0) (336+24*i+9) (m (540+q))) 15 = σ 15 := va_up_ne _ _ (by decide)
        have s16 : va_up σ 0 (va_up (σ 0) (336+24*i+9) (m (540+q))) 16 = σ 16 := va_up_ne _ _ (by decide)
        have mm : ∀ t, 464 ≤ t → va_up m (336+24*i+9) (m (540+q)) t = m t := fun t ht => va_up_ne _ _ (by omega)
        generalize va_up σ 0 (va_up (σ 0) (336+24*i+9) (m (540+q))) = S at hT s15 s16
        generalize va_up m (336+24*i+9) (m (540+q)) = M at hT mm
        obtain ⟨σ1, m1, d1, d2, d3, d4, d5, d6, d7⟩ := pt_L (A := A) (q := q) k3 (by omega) (f := f6_play_L71 (nI i) r n) BIG BIG 0 K S M hT (by rw [s15]; exact k4) (Nat.zero_le _) (by unfold BIG; omega) (by unfold BIG; omega) (by omega)
        have d1 : f6_play_L108 (f6_play_L71 (nI i) r n) (nI q) BIG 0 S = f6_play_L71 (nI i) r n (nI (q+1)) σ1 := d1
        have d2 : f7_ticks_L2 (nI A) BIG 0 M = m1 := d2
        rw [d1, d2, nI_s]
        have e15 : ∀ t, ¬ t = 2 → ¬ t = 3 → σ1 15 t = σ 15 t := fun t x1 x2 => by rw [d5 t x1 x2, s15]
        have em : ∀ t, 488 ≤ t → ¬ t = 491 → t < 2000 → m1 t = m t := fun t x1 x2 x3 => by rw [d6 t (by omega) x2 (by omega), mm t (by omega)]
        obtain ⟨σ9, m9, f1, f2, f3, f4, f5⟩ := ih n2 (q+1) (K+25000) σ1 m1 (d3.mono (by omega)) ((e15 5 (by decide) (by decide)).trans h5) ((em 495 (by decide) (by decide) (by decide)).trans h495) (by rw [d7, mm 464 (by decide)]; exact hi) (fun j hj => by
          rw [e15 (60+j) (by omega) (by omega), e15 (80+j) (by omega) (by omega), em (540+j) (by omega) (by omega) (by omega), em (560+j) (by omega) (by omega) (by omega)]
          exact hcm j hj) ((em 490 (by decide) (by decide) (by decide)).trans h490) (by omega) (by omega) (by omega) (by omega)
        exact ⟨σ9, m9, f1, f2, f3.mono (by omega), f4, f5.trans ((d4 16 (by omega) (by decide)).trans s16)⟩
theorem pl_sum {c : Nat} {a : Int32} (hc : c ≤ 20) (h : m 495 = nI c) : ∀ (n q : Nat) (v : Int32), q ≤ c → c < n + q → f7_play_L62 a m n (nI q) v = if smL m (c-q) q v ≤ 200 then f7_play_L111 a (smL m (c-q) q v) BIG 0 (va_up m 490 0) else (0, va_up m 490 3) := by
  intro n
  induction n with
  | zero => intro q v h1 h2; omega
  | succ n ih =>
    intro q v hq hn
    rw [f7_play_L62]
    simp only [bnd_e, fails_k]
    rw [h]
    by_cases c0 : nI c ≤ nI q
    · rw [if_pos c0]
      rw [ti_le, nI_toInt (by omega), nI_toInt (by omega)] at c0
      rw [show c - q = 0 by omega]; rfl
    · rw [if_neg c0]
      rw [ti_le, nI_toInt (by omega), nI_toInt (by omega)] at c0
      rw [nI_clamp (by omega), nI_s, ih (q+1) _ (by omega) (by omega), show c - q = (c - (q+1)) + 1 by omega, smL_s]
theorem t_play {a : Int32} (h : Top K σ m) (hK : K ≤ 800000000) : PM (cd3 xOB xIA xUO) (K+500000) σ (f6_play σ a) (f7_play m a) := by
  obtain ⟨L, a1, a2, a3, a4⟩ := h.tx
  have h1 := h.out
  have hs16 : va_up σ 15 (va_up (σ 15) 4 0) 16 = σ 16 := va_up_ne _ _ (by decide)
  have hS4 : va_up σ 15 (va_up (σ 15) 4 0) 15 4 = 0 := by rw [va_up_self, va_up_self]
  have hM493 : va_up m 493 0 493 = 0 := va_up_self _ _ _
  have hsM : ∀ j, j < L → va_up σ 15 (va_up (σ 15) 4 0) 15 (20+j) = va_up m 493 0 (500+j) := fun j hj => by
    rw [va_up_self, va_up_ne _ _ (by omega), va_up_ne _ _ (by omega)]; exact a4 j hj
  unfold f6_play f3_takeOut f7_play
  simp only [bnd_e, fails_k]
  rw [bnd2_mk (σ 15 4), a2, a3]
  refine PM.of ?_ hs16
  generalize va_up σ 15 (va_up (σ 15) 4 0) = S at h1 hS4 hsM
  generalize va_up m 493 0 = M at h1 hM493 hsM
  rcases rqB (a := a) h1 with ⟨e1, e2⟩ | ⟨N, Q, i, hr, hi, rfl, e1, e2⟩
  · rw [e1, bndx_r, e2, if_pos rfl]; exact (PM.fl h1 (Or.inl ⟨rfl, rfl⟩)).mono (by omega)
  · rw [e1, bndx_l, e2, if_neg n10]
    obtain ⟨is, p2, m2, g1, g2, g3, g4, g5, g6⟩ := fi_e (s := S 15) (m := M) a1 hsM
    rw [g1, g5, bnd2_mk is, va_up_self, va_up_self, g2]
    have hTM : Top K S m2 := h1.cg (fun _ _ _ _ => rfl) (fun _ _ => rfl) (fun t ht => by unfold TP at ht; exact g4 t (by omega) (by omega) (by omega))
    have h4932 : m2 493 = 0 := (g4 493 (by decide) (by decide) (by decide)).trans hM493
    have hi464 : (i : Int) < (m2 464).toInt := by
      have := hr.nbm
      rw [g4 464 (by decide) (by decide) (by decide)]; omega
    unfold f7_play_b43 f6_play_b38
    simp only [bnd_e, fails_k]
    rcases g6 with g6 | ⟨g6, c2, y1, y2, y3, y4⟩
    · rw [if_pos g6, if_pos g6, if_pos g6]
      have hne : ¬ nI p2 = -1 := fun e => by
        have := congrArg Int32.toInt e
        rw [nI_toInt (by omega), t_m1] at this
        omega
      rw [if_neg hne, rq0, bndx_r]
      have h2 := hTM.flt (r := nI p2) (x := m2 494) hS4 h4932
      rw [up_eta] at h2
      exact ((PM.fl h2 (Or.inr (Or.inl ⟨rfl, rfl⟩))).of (va_up_ne _ _ (by decide))).mono (by omega)
    · subst g6
      rw [if_neg n10, if_neg n10, if_neg n10, if_pos rfl, rq1 n10, bndx_l]
      have h2 := hTM.flt (r := -1) (x := m2 494) hS4 h4932
      rw [up_eta] at h2
      have h16 : va_up S 15 (va_up (S 15) 1 (-1)) 16 = S 16 := va_up_ne _ _ (by decide)
      obtain ⟨u2, r1, r2, r3, r4⟩ := y4 (va_up S 15 (va_up (S 15) 1 (-1)) 15) (fun j hj => by rw [va_up_self, va_up_ne _ _ (by omega)])
      refine PM.of ?_ h16
      generalize va_up S 15 (va_up (S 15) 1 (-1)) = S2 at h2 r1 r3
      have k495 : va_up m2 496 (-1) 495 = nI c2 := by rw [va_up_ne _ _ (by decide)]; exact y2
      have kcm : ∀ j, j < c2 → va_up S2 15 u2 15 (60+j) = va_up m2 496 (-1) (540+j) ∧ (0 ≤ (va_up m2 496 (-1) (540+j)).toInt ∧ (va_up m2 496 (-1) (540+j)).toInt ≤ 15) ∧ ∃ A : Nat, A ≤ 99 ∧ va_up S2 15 u2 15 (80+j) = nI A ∧ va_up m2 496 (-1) (560+j) = nI A := fun j hj => by
        obtain ⟨z1, A, z2, z3⟩ := y3 j hj
        rw [va_up_self, va_up_ne (k := 496) (j := 540+j) _ _ (by omega), va_up_ne (k := 496) (j := 560+j) _ _ (by omega)]
        exact ⟨(r4 j hj).1, z1, A, z2, (r4 j hj).2.trans z3, z3⟩
      have ksm : smL (va_up m2 496 (-1)) c2 0 0 = smL m2 c2 0 0 := smL_cg (fun j => va_up_ne _ _ (by omega)) c2 0 0
      have k464 : (i : Int) < (va_up m2 496 (-1) 464).toInt := by rw [va_up_ne _ _ (by decide)]; exact hi464
      have h3 : Top K (va_up S2 15 u2) (va_up m2 496 (-1)) := h2.cg (fun r hr t _ => by rw [va_up_ne _ _ (by omega)]) (fun t ht => by rw [va_up_self]; exact r3 t (by omega) (by omega)) (fun _ _ => rfl)
      have k5 : va_up S2 15 u2 15 5 = nI c2 := by rw [va_up_self]; exact r2
      have k16 : va_up S2 15 u2 16 = S2 16 := va_up_ne _ _ (by decide)
      rw [r1, bnd2_mk (smL m2 c2 0 0), ← ksm]
      refine PM.of ?_ k16
      generalize va_up S2 15 u2 = S3 at h3 k5 kcm
      generalize va_up m2 496 (-1) = M3 at h3 k495 kcm k464 ksm
      have hsum := pl_sum (a := nI i) y1 k495 BIG 0 0 (Nat.zero_le _) (by unfold BIG; omega)
      have hsum : f7_play_L62 (nI i) M3 BIG 0 0 = if smL M3 c2 0 0 ≤ 200 then f7_play_L111 (nI i) (smL M3 c2 0 0) BIG 0 (va_up M3 490 0) else (0, va_up M3 490 3) := hsum
      rw [hsum]
      by_cases d1 : smL M3 c2 0 0 ≤ 200
      · rw [if_pos d1, if_pos d1]
        obtain ⟨σ1, m1, f1, f2, f3, f4, f5⟩ := pl_LL (i := i) (r := smL M3 c2 0 0) y1 BIG BIG 0 K S3 (va_up M3 490 0) h3.m490 k5 (by rw [va_up_ne _ _ (by decide)]; exact k495) (by rw [va_up_ne _ _ (by decide)]; exact k464) (fun j hj => by
          rw [va_up_ne (k := 490) (j := 540+j) _ _ (by omega), va_up_ne (k := 490) (j := 560+j) _ _ (by omega)]
          exact kcm j hj) (va_up_self _ _ _) (Nat.zero_le _) (by unfold BIG; omega) (by unfold BIG; omega) (by omega)
        have f1 : f6_play_L71 (nI i) (smL M3 c2 0 0) BIG 0 S3 = (.inl (smL M3 c2 0 0), σ1) := f1
        have f2 : f7_play_L111 (nI i) (smL M3 c2 0 0) BIG 0 (va_up M3 490 0) = (smL M3 c2 0 0, m1) := f2
        rw [f1, f2]
        exact ⟨⟨f4, rfl⟩, f3.mono (by omega), f5⟩
      · rw [if_neg d1, if_neg d1]
        exact (PM.fl h3 (Or.inr (Or.inr ⟨rfl, rfl⟩))).mono (by omega)
end
