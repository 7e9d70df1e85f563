/-! PURE: setTile, addBody, addPlatform, removeBody, removePlatform -/
section
variable {sz M0 : Nat → Int32} {N Q c : Nat} {k K L : Int} {u w m u2 w2 m2 : Nat → Int32} {i j p : Nat} {σ σ2 : Nat → Nat → Int32}
/-- a new world, and all that was kept is forgotten -/
theorem Top.nw (h : Top K σ m) (hKL : K ≤ L) (hw : WD L (σ2 0) m2) (h2 : ∀ t, t < 467 → σ2 2 t = σ 2 t) (h15 : ∀ t, ¬ t = 2 → σ2 15 t = σ 15 t) (hc : σ2 15 2 = 0) (hm : ∀ t, TP t → 480 ≤ t → ¬ t = 491 → m2 t = m t) (hm491 : m2 491 = 0) : Top L σ2 m2 := by
  unfold TP at hm
  refine ⟨Int.le_trans h.k0 hKL, hw, h.es.cg (fun t a b => h15 t (by omega)) (fun t a b => hm t (by omega) (by omega) (by omega)), ?_, ?_, ?_, ?_⟩
  · exact h.sn.cg hKL h2 (h15 0 (by decide)) (fun t a b => h15 t (by omega)) (hm 492 (by omega) (by omega) (by omega)) (fun t a b => hm t (by omega) (by omega) (by omega)) (fun t a b => hm t (by omega) (by omega) (by omega))
  · obtain ⟨c, nx, q1, q2, q3, q4, q5, q6⟩ := h.hi
    exact ⟨0, nx, by decide, q2, hc, hm491, (h15 3 (by decide)).trans q5, fun j hj => absurd hj (Nat.not_lt_zero _)⟩
  · exact h.tx.cg (h15 4 (by decide)) (fun t a b => h15 t (by omega)) (hm 493 (by omega) (by omega) (by omega)) (fun t a b => hm t (by omega) (by omega) (by omega))
  · rw [h15 1 (by decide), hm 496 (by omega) (by omega) (by omega)]; exact h.fa
theorem any_L (h : RB sz M0 N Q c k u m) : ∀ (n q : Nat), q ≤ N → N < n + q → f5_hasBlockedBody_L2 u n (nI q) = f7_isAnyBlocked_L2 m n (nI q) := by
  intro n
  induction n with
  | zero => intro q h1 h2; omega
  | succ n ih =>
    intro q hq hn
    have hc := h.cnts
    rw [f5_hasBlockedBody_L2, f7_isAnyBlocked_L2, h.e4]
    simp only [bnd_e]
    by_cases c0 : m 464 ≤ nI q
    · rw [if_pos c0, if_pos c0]
    · rw [if_neg c0, if_neg c0]
      have hqN : q < N := by
        rw [ti_le, nI_toInt (by omega), h.nbm] at c0; omega
      have h4 := h.i4 hqN
      rw [nI_clamp (by omega), e_blk h hqN, o_0 h4, o_1 h4, h.B hqN 0 (by decide), h.B hqN 1 (by decide), nI_s, ih (q+1) (by omega) (by omega)]
theorem e_any (h : RB sz M0 N Q c k u m) : f5_hasBlockedBody u = f7_isAnyBlocked m := any_L h BIG 0 (Nat.zero_le _) (by have := h.cnts; unfold BIG; omega)
theorem WD.dead (h : RB sz M0 N Q c K u m) (hu : ∀ t, LV N Q t → u2 t = u t) (hm : ∀ t, LV N Q t → m2 t = m t) : WD K u2 m2 := by
  have l4 : LV N Q 464 := Or.inr (Or.inr (Or.inr ⟨by decide, by decide⟩))
  have l5 : LV N Q 465 := Or.inr (Or.inr (Or.inr ⟨by decide, by decide⟩))
  refine ⟨N, Q, fun t ht => by rw [hu t ht, hm t ht]; exact h.eq t ht, ⟨h.cnts.1, h.cnts.2.1⟩, ⟨by rw [hm _ l4]; exact h.nbm, by rw [hm _ l5]; exact h.npm⟩, fun i j a b => ?_, fun i j a b => ?_⟩
  · rw [hm _ (Or.inr (Or.inl ⟨i, j, a, b, rfl⟩))]; exact h.bd a b
  · rw [hm _ (Or.inr (Or.inr (Or.inl ⟨i, j, a, b, rfl⟩)))]; exact h.pd a b
theorem fg_e : f1_forget σ = va_up σ 15 (va_up (σ 15) 2 0) := by unfold f1_forget; simp only [bnd_e]
/-- what acceptTrialTiles does, the trial being like the reference's row -/
theorem acc_e (h : Top K σ m) (h1 : RB sz M0 N Q c K (σ2 1) m2) (hr : ∀ r, ¬ r = 1 → σ2 r = σ r) (hm : ∀ t, 336 ≤ t → t < 467 → m2 t = m t) (hm2 : ∀ t, TP t → 467 ≤ t → m2 t = m t) (hb : f7_isAnyBlocked m2 = 0) : ∃ σ3, f6_acceptTrialTiles σ2 = (.inl 0, σ3) ∧ Top K σ3 (va_up (va_up m2 490 0) 491 0) ∧ σ3 16 = σ 16 := by
  unfold f6_acceptTrialTiles
  simp only [bnd_e]
  rw [e_any h1, hb, if_pos rfl, fg_e]
  obtain ⟨c1, c2, c3⟩ := copyT_ch (σ := σ2) (w := 0) (v := 1)
  refine ⟨_, rfl, ?_, ?_⟩
  · refine h.nw (Int.le_refl K) ?_ (fun t ht => ?_) (fun t ht => ?_) ?_ (fun t ht h4 h5 => ?_) (va_up_self _ _ _)
    · rw [va_up_ne _ _ (by decide)]
      have hA : WD K (f4_copyFrom σ2 0 1 0) m2 := by
        refine ⟨N, Q, fun t ht => ?_, ⟨h1.cnts.1, h1.cnts.2.1⟩, ⟨h1.nbm, h1.npm⟩, fun _ _ a b => h1.bd a b, fun _ _ a b => h1.pd a b⟩
        by_cases e : t < 336
        · rw [c2 t e]; exact h1.eq t ht
        · have hl := ht.lt h1.cnts.1 h1.cnts.2.1
          rw [c3 t (by omega), hr 0 (by decide), hm t (by omega) hl]
          obtain ⟨N2, Q2, h9⟩ := h.rb
          have e1 : N2 = N := by
            have := h1.nbm
            rw [hm 464 (by decide) (by decide), h9.nbm] at this
            omega
          have e2 : Q2 = Q := by
            have := h1.npm
            rw [hm 465 (by decide) (by decide), h9.npm] at this
            omega
          subst e1 e2
          exact h9.eq t ht
      exact hA.cg (fun _ _ => rfl) (fun t ht => by rw [va_up_ne _ _ (by omega), va_up_ne _ _ (by omega)])
    · rw [va_up_ne _ _ (by decide), c1 2 t (by decide), hr 2 (by decide)]
    · rw [va_up_self, va_up_ne _ _ ht, c1 15 t (by decide), hr 15 (by decide)]
    · rw [va_up_self, va_up_self]
    · have : ¬ t = 490 := fun e => TP_490 (e ▸ ht)
      rw [va_up_ne _ _ h5, va_up_ne _ _ this]
      exact hm2 t ht (by omega)
  · rw [va_up_ne _ _ (by decide)]
    funext t
    rw [c1 16 t (by decide), hr 16 (by decide)]
theorem acc_x (h1 : RB sz M0 N Q c K (σ2 1) m2) (hb : ¬ f7_isAnyBlocked m2 = 0) : f6_acceptTrialTiles σ2 = (.inr xIS, σ2) := by
  unfold f6_acceptTrialTiles
  simp only [bnd_e]
  rw [e_any h1, if_neg hb]
/-- a trial of the class beside the reference's own row -/
theorem tr_new (h : Top K σ m) (hr : RB (σ 15) m N Q 0 K (σ 0) m) : RB (σ 15) m N Q 0 K (f5_copyFrom σ 1 0 1) m ∧ ∀ r, ¬ r = 1 → f5_copyFrom σ 1 0 r = σ r := by
  have hw := h.wd
  have hcp := hw.cp (a := 1) (by decide)
  have hfr := cpW_fr (a := 1) hw (by decide)
  refine ⟨?_, hfr⟩
  obtain ⟨N2, Q2, h2⟩ := hcp.rb h.es
  have e1 : N2 = N := by
    have := h2.nbm
    rw [hr.nbm] at this
    omega
  have e2 : Q2 = Q := by
    have := h2.npm
    rw [hr.npm] at this
    omega
  subst e1 e2
  exact h2
theorem Top.tr (h : Top K σ m) (hr : ∀ r, ¬ r = 1 → σ2 r = σ r) (hm : ∀ t, TP t → m2 t = m t) : Top K σ2 m2 := h.cg (fun w hw t _ => by rw [hr w (by omega)]) (fun t _ => by rw [hr 15 (by decide)]) hm
theorem t_setTile {a b c1 : Int32} (h : Top K σ m) : PM (cd3 xOB xIA xIS) K σ (f6_setTile σ a b c1) (f7_setTile m a b c1) := by
  obtain ⟨N, Q, hr⟩ := h.rb
  unfold f6_setTile f7_setTile
  simp only [bnd_e, fails_k, wi_e]
  rcases rqT (σ := σ) (a := a) (b := b) with ⟨e1, e2⟩ | ⟨e1, e2, x1, x2, x3, x4⟩
  · rw [e1, bndx_r, e2, if_pos rfl]; exact PM.fl h (Or.inl ⟨rfl, rfl⟩)
  · rw [e1, bndx_l, e2, if_neg n10]
    by_cases d1 : f7_isBetween c1 0 10 = 0
    · rw [d1, rq0, bndx_r, if_pos rfl]; exact PM.fl h (Or.inr (Or.inl ⟨rfl, rfl⟩))
    · rw [rq1 d1, bndx_l, if_neg d1]
      have hix := kindIn_in (u := m) x1 x2 x3 x4
      obtain ⟨g1, g2⟩ := tr_new h hr
      have hput : ∀ u : Nat → Int32, f4_put u a b c1 = va_up u (24 * b + a).toNatClampNeg c1 := fun u => by
        have t23 : ((23 : Int32)).toInt = 23 := rfl
        have t24 : ((24 : Int32)).toInt = 24 := rfl
        have t13 : ((13 : Int32)).toInt = 13 := rfl
        have t14 : ((14 : Int32)).toInt = 14 := rfl
        unfold f4_put f6_isTile f6_isWithin
        simp only [bnd_e]
        have h5 : ¬ 23 < a := fun z => by rw [ti_lt] at z x2; omega
        have h6 : ¬ 13 < b := fun z => by rw [ti_lt] at z x4; omega
        rw [if_neg x1, if_neg h5, if_neg n10, if_neg x3, if_neg h6, if_neg n10, if_neg n10, Int32.mul_comm b 24]
      have hkind : f4_kindAt (σ 0) a b = m (24 * b + a).toNatClampNeg := by
        rw [e_kind hr.T]
        unfold f7_kindIn
        rw [if_neg x1, if_pos x2, if_neg x3, if_pos x4]
      rw [hput, hkind]
      have g3 : RB (σ 15) m N Q 0 K (va_up (f5_copyFrom σ 1 0 1) (24 * b + a).toNatClampNeg c1) (va_up m (24 * b + a).toNatClampNeg c1) := g1.st (Or.inl hix) rfl
      have g4 : RB (σ 15) m N Q 0 K (va_up (f5_copyFrom σ 1 0) 1 (va_up (f5_copyFrom σ 1 0 1) (24 * b + a).toNatClampNeg c1) 1) (va_up m (24 * b + a).toNatClampNeg c1) := by rw [va_up_self]; exact g3
      have g5 : ∀ r, ¬ r = 1 → va_up (f5_copyFrom σ 1 0) 1 (va_up (f5_copyFrom σ 1 0 1) (24 * b + a).toNatClampNeg c1) r = σ r := fun r hr => (va_up_ne _ _ hr).trans (g2 r hr)
      by_cases d2 : f7_isAnyBlocked (va_up m (24 * b + a).toNatClampNeg c1) = 0
      · rw [if_pos d2]
        obtain ⟨σ3, f1, f2, f3⟩ := acc_e h g4 g5 (fun t h1 h2 => va_up_ne _ _ (by omega)) (fun t ht h1 => va_up_ne _ _ (by omega)) d2
        rw [f1, bndx_l]
        refine ⟨⟨?_, rfl⟩, f2, f3⟩
        show va_up (va_up (va_up m (24 * b + a).toNatClampNeg c1) 490 0) 491 0 490 = 0
        rw [va_up_ne _ _ (by decide), va_up_self]
      · rw [if_neg d2, acc_x g4 d2, bndx_r, up_up, up_eta]
        refine ⟨?_, h.m490.tr g5 (fun t ht => rfl), g5 16 (by decide)⟩
        show cd3 xOB xIA xIS xIS (va_up m 490 3 490)
        rw [va_up_self]
        exact Or.inr (Or.inr ⟨rfl, rfl⟩)
/-- the new body's places -/
def NV (a b w h : Int32) (k : Nat) : Int32 := if k = 0 then a else if k = 1 then b else if k = 7 then w else if k = 8 then h else if k = 12 then a else if k = 13 then b else if k = 20 then b else 0
theorem beg_L {b : Int32} : ∀ (n q : Nat) (u : Nat → Int32), q ≤ 7 → 7 < n + q → f0_begin_L53 i b n (nI q) u = fun t => if t = 336+24*i+20 then b else if 336+24*i+14+q ≤ t ∧ t < 336+24*i+21 then 0 else u t := by
  intro n
  induction n with
  | zero => intro q u h1 h2; omega
  | succ n ih =>
    intro q u hq hn
    have t7 : ((7 : Int32)).toInt = 7 := rfl
    rw [f0_begin_L53]
    simp only [bnd_e]
    by_cases c0 : 7 ≤ nI q
    · rw [if_pos c0]
      rw [ti_le, t7, nI_toInt (by omega)] at c0
      funext t
      by_cases e : t = 336+24*i+20
      · subst e; rw [va_up_self, if_pos rfl]
      · rw [va_up_ne _ _ e, if_neg e, if_neg (by omega)]
    · rw [if_neg c0]
      rw [ti_le, t7, nI_toInt (by omega)] at c0
      rw [nI_clamp (by omega), nI_s, ih (q+1) _ (by omega) (by omega)]
      funext t
      by_cases e : t = 336+24*i+20
      · rw [if_pos e, if_pos e]
      · rw [if_neg e, if_neg e]
        by_cases e2 : t = 336+24*i+14+q
        · subst e2; rw [if_neg (by omega), if_pos (by omega), va_up_self]
        · by_cases c1 : 336+24*i+14+q ≤ t ∧ t < 336+24*i+21
          · rw [if_pos (by omega), if_pos c1]
          · rw [if_neg (by omega), if_neg c1, va_up_ne _ _ e2]
theorem beg_L0 {b : Int32} : f0_begin_L53 i b BIG 0 u = fun t => if t = 336+24*i+20 then b else if 336+24*i+14 ≤ t ∧ t < 336+24*i+21 then 0 else u t := beg_L BIG 0 u (by decide) (by unfold BIG; omega)
theorem beg_fr {a b w h : Int32} {t : Nat} (ht : t < 336+24*i ∨ 336+24*i+22 ≤ t) : f0_begin u i a b w h t = u t := by
  unfold f0_begin f0_calmDown
  simp only [bnd_e]
  rw [beg_L0]
  show (if _ then _ else _) = _
  rw [if_neg (by omega), if_neg (by omega)]
  repeat first | rw [va_up_ne _ _ (by omega)]
theorem beg_in {a b w h : Int32} (hj : j < 22) : f0_begin u i a b w h (336+24*i+j) = NV a b w h j := by
  unfold f0_begin f0_calmDown
  simp only [bnd_e]
  rw [beg_L0]
  show (if _ then _ else _) = _
  rcases (show j = 0 ∨ j = 1 ∨ j = 2 ∨ j = 3 ∨ j = 4 ∨ j = 5 ∨ j = 6 ∨ j = 7 ∨ j = 8 ∨ j = 9 ∨ j = 10 ∨ j = 11 ∨ j = 12 ∨ j = 13 ∨ j = 14 ∨ j = 15 ∨ j = 16 ∨ j = 17 ∨ j = 18 ∨ j = 19 ∨ j = 20 ∨ j = 21 by omega) with rfl | rfl | rfl | rfl | rfl | rfl | rfl | rfl | rfl | rfl | rfl | rfl | rfl | rfl | rfl | rfl | rfl | rfl | rfl | rfl | rfl | rfl
  · rw [if_neg (by omega), if_neg (by omega)]; repeat first | rw [va_up_self] | rw [va_up_ne _ _ (by omega)]
    rfl
  · rw [if_neg (by omega), if_neg (by omega)]; repeat first | rw [va_up_self] | rw [va_up_ne _ _ (by omega)]
    rfl
  · rw [if_neg (by omega), if_neg (by omega)]; repeat first | rw [va_up_self] | rw [va_up_ne _ _ (by omega)]
    rfl
  · rw [if_neg (by omega), if_neg (by omega)]; repeat first | rw [va_up_self] | rw [va_up_ne _ _ (by omega)]
    rfl
  · rw [if_neg (by omega), if_neg (by omega)]; repeat first | rw [va_up_self] | rw [va_up_ne _ _ (by omega)]
    rfl
  · rw [if_neg (by omega), if_neg (by omega)]; repeat first | rw [va_up_self] | rw [va_up_ne _ _ (by omega)]
    rfl
  · rw [if_neg (by omega), if_neg (by omega)]; repeat first | rw [va_up_self] | rw [va_up_ne _ _ (by omega)]
    rfl
  · rw [if_neg (by omega), if_neg (by omega)]; repeat first | rw [va_up_self] | rw [va_up_ne _ _ (by omega)]
    rfl
  · rw [if_neg (by omega), if_neg (by omega)]; repeat first | rw [va_up_self] | rw [va_up_ne _ _ (by omega)]
    rfl
  · rw [if_neg (by omega), if_neg (by omega)]; repeat first | rw [va_up_self] | rw [va_up_ne _ _ (by omega)]
    rfl
  · rw [if_neg (by omega), if_neg (by omega)]; repeat first | rw [va_up_self] | rw [va_up_ne _ _ (by omega)]
    rfl
  · rw [if_neg (by omega), if_neg (by omega)]; repeat first | rw [va_up_self] | rw [va_up_ne _ _ (by omega)]
    rfl
  · rw [if_neg (by omega), if_neg (by omega)]; repeat first | rw [va_up_self] | rw [va_up_ne _ _ (by omega)]
    rfl
  · rw [if_neg (by omega), if_neg (by omega)]; repeat first | rw [va_up_self] | rw [va_up_ne _ _ (by omega)]
    rfl
  · rw [if_neg (by omega), if_pos (by omega)]; rfl
  · rw [if_neg (by omega), if_pos (by omega)]; rfl
  · rw [if_neg (by omega), if_pos (by omega)]; rfl
  · rw [if_neg (by omega), if_pos (by omega)]; rfl
  · rw [if_neg (by omega), if_pos (by omega)]; rfl
  · rw [if_neg (by omega), if_pos (by omega)]; rfl
  · rw [if_pos (by omega)]; rfl
  · rw [if_neg (by omega), if_neg (by omega)]; repeat first | rw [va_up_self] | rw [va_up_ne _ _ (by omega)]
    rfl
theorem NV_bd {a b w h : Int32} (hK : 383 ≤ K) (ha : 0 ≤ a.toInt ∧ a.toInt ≤ 383) (hb : 0 ≤ b.toInt ∧ b.toInt ≤ 223) (hw : 4 ≤ w.toInt ∧ w.toInt ≤ 16) (hh : 4 ≤ h.toInt ∧ h.toInt ≤ 28) (hj : j < 22) : bdB K 1000 0 j (NV a b w h j).toInt := by
  rcases (show j = 0 ∨ j = 1 ∨ j = 2 ∨ j = 3 ∨ j = 4 ∨ j = 5 ∨ j = 6 ∨ j = 7 ∨ j = 8 ∨ j = 9 ∨ j = 10 ∨ j = 11 ∨ j = 12 ∨ j = 13 ∨ j = 14 ∨ j = 15 ∨ j = 16 ∨ j = 17 ∨ j = 18 ∨ j = 19 ∨ j = 20 ∨ j = 21 by omega) with rfl | rfl | rfl | rfl | rfl | rfl | rfl | rfl | rfl | rfl | rfl | rfl | rfl | rfl | rfl | rfl | rfl | rfl | rfl | rfl | rfl | rfl
  · exact (⟨by omega, by omega⟩ : -(K + 0) ≤ a.toInt ∧ a.toInt ≤ K + 0)
  · exact (⟨by omega, by omega⟩ : -(1000 + 0) ≤ b.toInt ∧ b.toInt ≤ K + 0)
  · exact (by decide : -16 ≤ (0 : Int32).toInt ∧ (0 : Int32).toInt ≤ 16)
  · exact (by decide : -12 ≤ (0 : Int32).toInt ∧ (0 : Int32).toInt ≤ 16)
  · exact (by decide : 0 ≤ (0 : Int32).toInt ∧ (0 : Int32).toInt ≤ 10)
  · exact (by decide : 0 ≤ (0 : Int32).toInt ∧ (0 : Int32).toInt ≤ 10)
  · exact (by decide : 0 ≤ (0 : Int32).toInt ∧ (0 : Int32).toInt ≤ 8)
  · exact hw
  · exact hh
  · exact trivial
  · exact trivial
  · exact Or.inl rfl
  · exact ha
  · exact (⟨by omega, by omega⟩ : 0 ≤ b.toInt ∧ b.toInt ≤ 383)
  · exact trivial
  · exact trivial
  · exact trivial
  · exact trivial
  · exact trivial
  · exact trivial
  · exact trivial
  · exact trivial
theorem ab_L {a b w h : Int32} (hi : i < 4) : ∀ (n q : Nat) (u : Nat → Int32), q ≤ 24 → 24 < n + q → f7_addBody_L74 a b w h (nI i) n (nI q) u = f7_addBody_L74 a b w h (nI i) (0+1) 24 (fun t => if 336+24*i+q ≤ t ∧ t < 336+24*i+24 then 0 else u t) := by
  intro n
  induction n with
  | zero => intro q u h1 h2; omega
  | succ n ih =>
    intro q u hq hn
    have t24 : ((24 : Int32)).toInt = 24 := rfl
    by_cases c0 : 24 ≤ nI q
    · have e : (fun t => if 336+24*i+q ≤ t ∧ t < 336+24*i+24 then 0 else u t) = u := by
        rw [ti_le, t24, nI_toInt (by omega)] at c0
        funext t
        rw [if_neg (by omega)]
      rw [e, f7_addBody_L74, f7_addBody_L74, if_pos c0, if_pos (show (24 : Int32) ≤ 24 by decide)]
    · rw [f7_addBody_L74, if_neg c0]
      simp only [bnd_e]
      rw [ti_le, t24, nI_toInt (by omega)] at c0
      have hs : f7_sets u (nI i) (nI q) 0 = va_up u (336+24*i+q) 0 := by
        have := sets_c (u := u) (c := 0) (k := q) (vp_in_nI hi (by decide)) (by omega)
        rw [nI_clamp (by omega)] at this
        exact this
      rw [hs, nI_s, ih (q+1) _ (by omega) (by omega)]
      congr 1
      funext t
      by_cases e2 : t = 336+24*i+q
      · subst e2; rw [if_neg (by omega), if_pos (by omega), va_up_self]
      · by_cases c1 : 336+24*i+q ≤ t ∧ t < 336+24*i+24
        · rw [if_pos (by omega), if_pos c1]
        · rw [if_neg (by omega), if_neg c1, va_up_ne _ _ e2]
end
