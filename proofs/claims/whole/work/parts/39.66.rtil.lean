/-! PURE: readTiles -/
section
variable {sz M0 : Nat → Int32} {N Q c : Nat} {k K L : Int} {u w m u2 w2 m2 : Nat → Int32} {i j p : Nat} {σ σ2 : Nat → Nat → Int32}
theorem PM.of {cd : String → Int32 → Prop} {z : RT} {r : Int32 × (Nat → Int32)} (h : PM cd K σ2 z r) (hs : σ2 16 = σ 16) : PM cd K σ z r := ⟨h.1, h.2.1, h.2.2.trans hs⟩
theorem PM.mono {cd : String → Int32 → Prop} {z : RT} {r : Int32 × (Nat → Int32)} (h : PM cd K σ z r) (hk : K ≤ L) : PM cd L σ z r := ⟨h.1, h.2.1.mono hk, h.2.2⟩
/-- the buffer is emptied -/
theorem Top.out (h : Top K σ m) : Top K (va_up σ 15 (va_up (σ 15) 4 0)) (va_up m 493 0) := by
  refine h.t15 (fun t ht => va_up_ne _ _ (by omega)) (fun t ht h1 h2 h3 => va_up_ne _ _ h1) ⟨0, by decide, by rw [va_up_self, va_up_self]; rfl, va_up_self _ _ _, fun j hj => absurd hj (Nat.not_lt_zero _)⟩ ?_
  rw [va_up_ne _ _ (by decide), va_up_ne _ _ (by decide)]; exact h.fa
/-- a fault is kept; the buffer is empty -/
theorem Top.flt {r x : Int32} (h : Top K σ m) (h4 : σ 15 4 = 0) (h493 : m 493 = 0) : Top K (va_up σ 15 (va_up (σ 15) 1 r)) (va_up (va_up m 494 x) 496 r) := by
  refine h.t15 (fun t ht => va_up_ne _ _ (by omega)) (fun t ht h1 h2 h3 => ?_) ⟨0, by decide, by rw [va_up_self, va_up_ne _ _ (by decide)]; exact h4, by rw [va_up_ne _ _ (by decide), va_up_ne _ _ (by decide)]; exact h493, fun j hj => absurd hj (Nat.not_lt_zero _)⟩ ?_
  · have : ¬ t = 494 := fun e => by rw [e] at ht; unfold TP at ht; omega
    rw [va_up_ne _ _ h2, va_up_ne _ _ this]
  · rw [va_up_self, va_up_self]
theorem rt_L {A B L : Nat} {s M : Nat → Int32} (hA : A + L ≤ 24) (hB : B < 14) : ∀ (F q : Nat) (σ : Nat → Nat → Int32) (m : Nat → Int32), RB s M N Q 0 K (σ 1) m → (∀ j, j < L → σ 15 (20+j) = m (500+j)) → q ≤ L → L < F + q →
    ∃ σ1 m1, f6_readTiles_L74 (nI A) (nI B) (nI L) F (nI q) σ = bndx (f6_acceptTrialTiles σ1) (fun _ z => (.inl (nI L), z)) ∧ f7_readTiles_L89 (nI A) (nI B) (nI L) F (nI q) m = f7_readTiles_L89 (nI A) (nI B) (nI L) (0+1) (nI L) m1 ∧ RB s M N Q 0 K (σ1 1) m1 ∧ (∀ r, ¬ r = 1 → σ1 r = σ r) ∧ (∀ t, 336 ≤ t → m1 t = m t) := by
  intro F
  induction F with
  | zero => intro q σ m h0 h1 h2; omega
  | succ F ih =>
    intro q σ m h hs hq hF
    have hnL : nI L ≤ nI L := by rw [ti_le]; omega
    by_cases c0 : nI L ≤ nI q
    · have e : q = L := by
        rw [ti_le, nI_toInt (by omega), nI_toInt (by omega)] at c0; omega
      subst e
      refine ⟨σ, m, ?_, ?_, h, fun _ _ => rfl, fun _ _ => rfl⟩
      · rw [f6_readTiles_L74, if_pos c0]
      · rw [f7_readTiles_L89, f7_readTiles_L89, if_pos c0, if_pos c0]
    · rw [f6_readTiles_L74, f7_readTiles_L89, if_neg c0, if_neg c0]
      unfold f3_tileAt
      simp only [bnd_e]
      rw [ti_le, nI_toInt (by omega), nI_toInt (by omega)] at c0
      have t23 : ((23 : Int32)).toInt = 23 := rfl
      have t24 : ((24 : Int32)).toInt = 24 := rfl
      have t13 : ((13 : Int32)).toInt = 13 := rfl
      have eix : (((24 : Int32) * nI B) + nI A) + nI q = nI (24*B+A+q) := by
        rw [show (24 : Int32) = nI 24 from rfl, pk_mul, nI_add, nI_add]
      have eix2 : (nI B * (24 : Int32)) + nI (A+q) = nI (24*B+A+q) := by
        rw [Int32.mul_comm, show (24 : Int32) = nI 24 from rfl, pk_mul, nI_add, Nat.add_assoc]
      have hput : ∀ (u : Nat → Int32) x, f4_put u (nI (A+q)) (nI B) x = va_up u (24*B+A+q) x := fun u x => by
        have g1 : ¬ nI (A+q) < 0 := fun z => by rw [ti_lt, nI_toInt (by omega), t_0] at z; omega
        have g2 : ¬ 23 < nI (A+q) := fun z => by rw [ti_lt, nI_toInt (by omega), t23] at z; omega
        have g3 : ¬ nI B < 0 := fun z => by rw [ti_lt, nI_toInt (by omega), t_0] at z; omega
        have g4 : ¬ 13 < nI B := fun z => by rw [ti_lt, nI_toInt (by omega), t13] at z; omega
        unfold f4_put f6_isTile f6_isWithin
        simp only [bnd_e]
        rw [if_neg g1, if_neg g2, if_neg n10, if_neg g3, if_neg g4, if_neg n10, if_neg n10, eix2, nI_clamp (by omega)]
      rw [eix, nI_clamp (by omega), nI_clamp (by omega), tile_kind, nI_add, hput, hs q (by omega), nI_s]
      obtain ⟨σ1, m1, g1, g2, g3, g4, g5⟩ := ih (q+1) (va_up σ 1 (va_up (σ 1) (24*B+A+q) (f7_kindOf (m (500+q))))) (va_up m (24*B+A+q) (f7_kindOf (m (500+q)))) (by rw [va_up_self]; exact h.st (Or.inl (by omega)) rfl) (fun j hj => by rw [va_up_ne _ _ (by decide), va_up_ne _ _ (by omega)]; exact hs j hj) (by omega) (by omega)
      exact ⟨σ1, m1, g1, g2, g3, fun r hr => (g4 r hr).trans (va_up_ne _ _ hr), fun t ht => (g5 t ht).trans (va_up_ne _ _ (by omega))⟩
theorem t_readTiles {a b : Int32} (h : Top K σ m) : PM (cd3 xOB xIA xIS) K σ (f6_readTiles σ a b) (f7_readTiles m a b) := by
  obtain ⟨L, a1, a2, a3, a4⟩ := h.tx
  have h1 := h.out
  have hs16 : va_up σ 15 (va_up (σ 15) 4 0) 16 = σ 16 := va_up_ne _ _ (by decide)
  have hS4 : va_up σ 15 (va_up (σ 15) 4 0) 15 4 = 0 := by rw [va_up_self, va_up_self]
  have hM493 : va_up m 493 0 493 = 0 := va_up_self _ _ _
  have hsM : ∀ j, j < L → va_up σ 15 (va_up (σ 15) 4 0) 15 (20+j) = va_up m 493 0 (500+j) := fun j hj => by
    rw [va_up_self, va_up_ne _ _ (by omega), va_up_ne _ _ (by omega)]; exact a4 j hj
  unfold f6_readTiles f3_takeOut f7_readTiles
  simp only [bnd_e, fails_k]
  rw [bnd2_mk, a2, a3]
  refine PM.of ?_ hs16
  generalize va_up σ 15 (va_up (σ 15) 4 0) = S at h1 hS4 hsM
  generalize va_up m 493 0 = M at h1 hM493 hsM
  rcases rqT (σ := S) (a := a) (b := b) with ⟨e1, e2⟩ | ⟨e1, e2, x1, x2, x3, x4⟩
  · rw [e1, bndx_r, e2, if_pos rfl]; exact PM.fl h1 (Or.inl ⟨rfl, rfl⟩)
  · rw [e1, bndx_l, e2, if_neg n10]
    obtain ⟨q2, is, g1, g2, g3, g4⟩ := ft_e (s := S 15) (m := M) a1 hsM
    rw [g2, g3, bnd2_mk is, va_up_self, va_up_self, va_up_self]
    unfold f7_readTiles_b45 f6_readTiles_b38
    simp only [bnd_e, fails_k]
    rcases g4 with g4 | ⟨g4, g5, g6⟩
    · rw [if_pos g4, if_pos g4, if_pos g4]
      have hne : ¬ nI q2 = -1 := fun e => by
        have := congrArg Int32.toInt e
        rw [nI_toInt (by omega), t_m1] at this
        omega
      rw [if_neg hne, rq0, bndx_r]
      have h2 := h1.flt (r := nI q2) (x := nI q2) hS4 hM493
      exact (PM.fl h2 (Or.inr (Or.inl ⟨rfl, rfl⟩))).of (va_up_ne _ _ (by decide))
    · subst g4
      rw [if_neg n10, if_neg n10, if_neg n10, if_pos rfl, rq1 n10, bndx_l]
      have h2 := h1.flt (r := -1) (x := nI q2) hS4 hM493
      have h16 : va_up S 15 (va_up (S 15) 1 (-1)) 16 = S 16 := va_up_ne _ _ (by decide)
      have hsM2 : ∀ j, j < L → va_up S 15 (va_up (S 15) 1 (-1)) 15 (20+j) = va_up (va_up M 494 (nI q2)) 496 (-1) (500+j) := fun j hj => by
        rw [va_up_self, va_up_ne _ _ (by omega), va_up_ne _ _ (by omega), va_up_ne _ _ (by omega)]; exact hsM j hj
      refine PM.of ?_ h16
      generalize va_up S 15 (va_up (S 15) 1 (-1)) = S2 at h2 hsM2
      generalize va_up (va_up M 494 (nI q2)) 496 (-1) = M2 at h2 hsM2
      by_cases d1 : nI L ≤ 24 - a
      · rw [if_pos d1, if_pos d1]
        have t24 : ((24 : Int32)).toInt = 24 := rfl
        have t14 : ((14 : Int32)).toInt = 14 := rfl
        have y1 : 0 ≤ a.toInt := by rw [ti_lt, t_0] at x1; omega
        have y2 : a.toInt < 24 := by rw [ti_lt, t24] at x2; omega
        have y3 : 0 ≤ b.toInt := by rw [ti_lt, t_0] at x3; omega
        have y4 : b.toInt < 14 := by rw [ti_lt, t14] at x4; omega
        obtain ⟨A, hA, rfl⟩ := vp_nI (w := a) (K := 24) (vp_in_iff.mpr ⟨y1, by omega⟩) (by decide)
        obtain ⟨B, hB, rfl⟩ := vp_nI (w := b) (K := 14) (vp_in_iff.mpr ⟨y3, by omega⟩) (by decide)
        have hAL : A + L ≤ 24 := by
          rw [ti_le, ti_sub (by rw [t24, nI_toInt (by omega)]; omega) (by rw [t24, nI_toInt (by omega)]; omega), t24, nI_toInt (by omega), nI_toInt (by omega)] at d1
          omega
        obtain ⟨N, Q, hr⟩ := h2.rb
        obtain ⟨k1, k2⟩ := tr_new h2 hr
        have hc : f7_copies M2 0 0 600 0 = CPF M2 0 600 := cps_e (a := 0) (b := 0) (by decide) (by decide) (by decide)
        rw [hc]
        have hct : ∀ t, (t < 600 ∨ 1080 ≤ t) → CPF M2 0 600 t = M2 t := fun t h1 => CPF_out (by omega)
        have hk : RB (S2 15) (CPF M2 0 600) N Q 0 K (f5_copyFrom S2 1 0 1) (CPF M2 0 600) := by
          refine ⟨fun t ht => ?_, fun _ _ => rfl, fun _ h => absurd h (Nat.not_lt_zero _), k1.cnts, ⟨by rw [hct _ (by omega)]; exact k1.nbm, by rw [hct _ (by omega)]; exact k1.npm⟩, fun i j a b => ?_, fun i j a b => ?_, k1.es.cg (fun _ _ _ => rfl) (fun t a b => hct t (by omega)), k1.lw⟩
          · have := ht.lt k1.cnts.1 k1.cnts.2.1
            rw [hct t (by omega)]; exact k1.eq t ht
          · have := k1.i4 a
            rw [hct _ (by omega)]; exact k1.bd a b
          · have := k1.p4 a
            rw [hct _ (by omega)]; exact k1.pd a b
        obtain ⟨σ1, m1, z1, z2, z3, z4, z5⟩ := rt_L (A := A) (B := B) (L := L) hAL hB BIG 0 (f5_copyFrom S2 1 0) (CPF M2 0 600) hk (fun j hj => by rw [k2 15 (by decide), hct _ (by omega)]; exact hsM2 j hj) (Nat.zero_le _) (by unfold BIG; omega)
        have z1 : f6_readTiles_L74 (nI A) (nI B) (nI L) BIG 0 (f5_copyFrom S2 1 0) = bndx (f6_acceptTrialTiles σ1) (fun _ z => (.inl (nI L), z)) := z1
        have z2 : f7_readTiles_L89 (nI A) (nI B) (nI L) BIG 0 (CPF M2 0 600) = f7_readTiles_L89 (nI A) (nI B) (nI L) (0+1) (nI L) m1 := z2
        have hr1 : ∀ r, ¬ r = 1 → σ1 r = S2 r := fun r hr => (z4 r hr).trans (k2 r hr)
        have hm1 : ∀ t, 336 ≤ t → (t < 600 ∨ 1080 ≤ t) → m1 t = M2 t := fun t h1 h2 => (z5 t h1).trans (hct t h2)
        have hTPm : ∀ t, TP t → 467 ≤ t → m1 t = M2 t := fun t ht h1 => hm1 t (by omega) (by unfold TP at ht; omega)
        rw [z1, z2, f7_readTiles_L89, if_pos (show nI L ≤ nI L by rw [ti_le]; omega)]
        simp only [bnd_e, fails_k]
        by_cases d2 : f7_isAnyBlocked m1 = 0
        · rw [if_pos d2]
          obtain ⟨σ3, f1, f2, f3⟩ := acc_e h2 z3 hr1 (fun t h1 h2 => hm1 t h1 (by omega)) hTPm d2
          rw [f1, bndx_l]
          refine ⟨⟨?_, rfl⟩, f2, f3⟩
          show va_up (va_up m1 490 0) 491 0 490 = 0
          rw [va_up_ne _ _ (by decide), va_up_self]
        · rw [if_neg d2, acc_x z3 d2, bndx_r]
          have hc2 : f7_copies m1 600 0 0 0 = CPF m1 600 0 := cps_e (a := 0) (b := 0) (by decide) (by decide) (by decide)
          rw [hc2]
          refine ⟨?_, h2.tr hr1 (fun t ht => ?_), hr1 16 (by decide)⟩
          · show cd3 xOB xIA xIS xIS (va_up (CPF m1 600 0) 490 3 490)
            rw [va_up_self]
            exact Or.inr (Or.inr ⟨rfl, rfl⟩)
          · have e490 : ¬ t = 490 := fun e => TP_490 (e ▸ ht)
            show va_up (CPF m1 600 0) 490 3 t = M2 t
            rw [va_up_ne _ _ e490]
            by_cases e : t < 480
            · have e9 := CPF_in (u := m1) (s := 600) (d := 0) (t := t) e
              rw [Nat.zero_add] at e9
              have e8 := CPF_in (u := M2) (s := 0) (d := 600) (t := t) e
              rw [Nat.zero_add] at e8
              rw [e9, z5 _ (by omega), e8]
            · rw [CPF_out (by omega)]
              exact hTPm t ht (by omega)
      · rw [if_neg d1, if_neg d1]
        exact PM.fl h2 (Or.inr (Or.inr ⟨rfl, rfl⟩))
end
