/-! PURE: predict, apex, clearance -/
section
variable {sz M0 : Nat → Int32} {N Q c : Nat} {k K L : Int} {u w m u2 w2 m2 : Nat → Int32} {i j p : Nat} {σ σ2 : Nat → Nat → Int32}
theorem RC.c0 {KK : Int} {lo : Nat → Int} (h : RC KK lo sz M0 N Q c k u m) : RC KK lo sz M0 N Q 0 k u m := ⟨h.eq, h.rest, fun _ h => absurd h (Nat.not_lt_zero _), ⟨h.cnts.1, h.cnts.2.1, Nat.zero_le _⟩, ⟨h.nbm, h.npm⟩, fun _ _ a b => h.bd a b, fun _ _ a b => h.pd a b, h.es, h.lw⟩
theorem pr_L {A d : Nat} (hi : i < N) (hA : A ≤ 1000) (hd : d ≤ 6) : ∀ (n q : Nat) (K : Int) (σ : Nat → Nat → Int32) (m : Nat → Int32), RB (σ 15) M0 N Q 0 K (σ 1) m → q ≤ A → A < n + q → 383 ≤ K → K + 248 * A ≤ 900000000 + 248 * q →
    ∃ v σ1 m1, f6_predict_L71 (nI i) (nI A) (nI d) n (nI q) σ = (.inl v, σ1) ∧ f7_predict_L80 (nI i) (nI A) (nI d) n (nI q) m = (v, f7_copies m1 600 0 0 0) ∧ (∀ r, ¬ r = 1 → σ1 r = σ r) ∧ (∀ t, ((480 ≤ t ∧ t < 484) ∨ 488 ≤ t) → m1 t = M0 t) := by
  intro n
  induction n with
  | zero => intro q K σ m h h1 h2; omega
  | succ n ih =>
    intro q K σ m h hq hn hK0 hK
    have h4 := h.i4 hi
    rw [f6_predict_L71, f7_predict_L80]
    simp only [bnd_e]
    by_cases c0 : nI A ≤ nI q
    · rw [if_pos c0, if_pos c0]
      refine ⟨_, σ, m, rfl, ?_, fun _ _ => rfl, h.rest⟩
      rw [nI_clamp (by omega), num_nI (by omega), of_nI h4 (by omega), h.B hi d (by omega)]
    · rw [if_neg c0, if_neg c0]
      rw [ti_le, nI_toInt (by omega), nI_toInt (by omega)] at c0
      rw [nI_s]
      have h2 := (e_advance h hK0 (by omega)).c0
      obtain ⟨v, σ1, m1, e1, e2, e3, e4⟩ := ih (q+1) (K+248) (va_up σ 1 (f5_advance (σ 1) (σ 15))) (f7_goesTick m) (by rw [va_up_self, va_up_ne _ _ (by decide)]; exact h2) (by omega) (by omega) (by omega) (by omega)
      exact ⟨v, σ1, m1, e1, e2, fun r hr => (e3 r hr).trans (va_up_ne _ _ hr), e4⟩
theorem mMax_e {x y : Int32} : mMax x y = if y ≤ x then x else y := by
  show (if x < y then y else x) = _
  by_cases c : x < y
  · rw [if_pos c, if_neg (fun z => by rw [ti_le] at z; rw [ti_lt] at c; omega)]
  · rw [if_neg c, if_pos (by rw [ti_le]; rw [ti_lt] at c; omega)]
theorem ap_L {A : Nat} (hi : i < N) (hA : A ≤ 1000) : ∀ (n q : Nat) (K : Int) (g : Int32) (σ : Nat → Nat → Int32) (m : Nat → Int32), RB (σ 15) M0 N Q 0 K (σ 1) m → q ≤ A → A < n + q → 383 ≤ K → K + 248 * A ≤ 900000000 + 248 * q →
    ∃ v σ1 m1, f6_apex_L71 (nI i) (nI A) n (nI q) g σ = (.inl v, σ1) ∧ f7_apex_L77 (nI i) (nI A) n (nI q) g m = (v, f7_copies m1 600 0 0 0) ∧ (∀ r, ¬ r = 1 → σ1 r = σ r) ∧ (∀ t, ((480 ≤ t ∧ t < 484) ∨ 488 ≤ t) → m1 t = M0 t) := by
  intro n
  induction n with
  | zero => intro q K g σ m h h1 h2; omega
  | succ n ih =>
    intro q K g σ m h hq hn hK0 hK
    have h4 := h.i4 hi
    rw [f6_apex_L71, f7_apex_L77]
    unfold f7_apex_b109
    simp only [bnd_e]
    by_cases c0 : nI A ≤ nI q
    · rw [if_pos c0, if_pos c0]
      exact ⟨_, σ, m, rfl, rfl, fun _ _ => rfl, h.rest⟩
    · rw [if_neg c0, if_neg c0]
      rw [ti_le, nI_toInt (by omega), nI_toInt (by omega)] at c0
      have h2 := (e_advance h hK0 (by omega)).c0
      rw [nI_s, nI_clamp (by omega), va_up_self, o_1 h4, h2.B hi 1 (by decide), mMax_e]
      have key := fun g => ih (q+1) (K+248) g (va_up σ 1 (f5_advance (σ 1) (σ 15))) (f7_goesTick m) (by rw [va_up_self, va_up_ne _ _ (by decide)]; exact h2) (by omega) (by omega) (by omega) (by omega)
      by_cases c1 : f7_goesTick m (336+24*i+1) ≤ g
      · rw [if_pos c1, if_pos c1]
        obtain ⟨v, σ1, m1, e1, e2, e3, e4⟩ := key g
        exact ⟨v, σ1, m1, e1, e2, fun r hr => (e3 r hr).trans (va_up_ne _ _ hr), e4⟩
      · rw [if_neg c1, if_neg c1]
        obtain ⟨v, σ1, m1, e1, e2, e3, e4⟩ := key (f7_goesTick m (336+24*i+1))
        exact ⟨v, σ1, m1, e1, e2, fun r hr => (e3 r hr).trans (va_up_ne _ _ hr), e4⟩
/-- what a trial leaves of the reference's row -/
theorem tr_back {x : Int32} {m1 : Nat → Int32} (h4 : i < 4) (h : Top K σ m) (hr : ∀ r, ¬ r = 1 → σ2 r = σ r) (hm : ∀ t, ((480 ≤ t ∧ t < 484) ∨ 488 ≤ t) → m1 t = f7_sets (f7_copies (va_up m 490 0) 0 0 600 0) (nI i) 9 x t) : Top K σ2 (f7_copies m1 600 0 0 0) ∧ (f7_copies m1 600 0 0 0) 490 = 0 := by
  have hc : f7_copies (va_up m 490 0) 0 0 600 0 = CPF (va_up m 490 0) 0 600 := cps_e (a := 0) (b := 0) (by decide) (by decide) (by decide)
  have hc2 : f7_copies m1 600 0 0 0 = CPF m1 600 0 := cps_e (a := 0) (b := 0) (by decide) (by decide) (by decide)
  rw [hc, s_9 h4] at hm
  rw [hc2]
  have hin : ∀ t, t < 480 → CPF m1 600 0 t = m t := fun t ht => by
    have e := CPF_in (u := m1) (s := 600) (d := 0) (t := t) ht
    rw [Nat.zero_add] at e
    rw [e, hm _ (by omega), va_up_ne _ _ (by omega), CPF_in ht, Nat.zero_add, va_up_ne _ _ (by omega)]
  have hout : ∀ t, ((480 ≤ t ∧ t < 484) ∨ 488 ≤ t) → ¬ t = 490 → (t < 600 ∨ 1080 ≤ t) → CPF m1 600 0 t = m t := fun t h1 h2 h3 => by
    rw [CPF_out (by omega), hm t h1, va_up_ne _ _ (by omega), CPF_out (by omega), va_up_ne _ _ h2]
  refine ⟨h.cg (fun w hw t ht => by rw [hr w (by omega)]) (fun t ht => by rw [hr 15 (by decide)]) (fun t ht => ?_), ?_⟩
  · unfold TP at ht
    by_cases e : t < 480
    · exact hin t e
    · exact hout t (by omega) (by omega) (by omega)
  · rw [CPF_out (by omega), hm 490 (by omega), va_up_ne _ _ (by omega), CPF_out (by omega), va_up_self]
/-- a trial's beginning -/
theorem tr_beg {x : Int32} (h : Top K σ m) (hr : RB (σ 15) m N Q 0 K (σ 0) m) (hi : i < N) : RB (va_up (f5_copyFrom σ 1 0) 1 (va_up (f5_copyFrom σ 1 0 1) (336+24*i+9) x) 15) (f7_sets (f7_copies (va_up m 490 0) 0 0 600 0) (nI i) 9 x) N Q 0 K (va_up (f5_copyFrom σ 1 0) 1 (va_up (f5_copyFrom σ 1 0 1) (336+24*i+9) x) 1) (f7_sets (f7_copies (va_up m 490 0) 0 0 600 0) (nI i) 9 x) ∧ (∀ r, ¬ r = 1 → va_up (f5_copyFrom σ 1 0) 1 (va_up (f5_copyFrom σ 1 0 1) (336+24*i+9) x) r = σ r) := by
  have h4 := hr.i4 hi
  have hw := h.wd
  have hcp := hw.cp (a := 1) (by decide)
  have hfr := cpW_fr (a := 1) hw (by decide)
  have hc : f7_copies (va_up m 490 0) 0 0 600 0 = CPF (va_up m 490 0) 0 600 := cps_e (a := 0) (b := 0) (by decide) (by decide) (by decide)
  have hR : ∀ r, ¬ r = 1 → va_up (f5_copyFrom σ 1 0) 1 (va_up (f5_copyFrom σ 1 0 1) (336+24*i+9) x) r = σ r := fun r h1 => by rw [va_up_ne _ _ h1, hfr r h1]
  refine ⟨?_, hR⟩
  rw [va_up_self, hR 15 (by decide), hc, s_9 h4]
  have hct : ∀ t, t < 600 → ¬ t = 490 → CPF (va_up m 490 0) 0 600 t = m t := fun t h1 h2 => by rw [CPF_out (by omega), va_up_ne _ _ h2]
  have hw2 : WD K (f5_copyFrom σ 1 0 1) (CPF (va_up m 490 0) 0 600) := hcp.cg (fun _ _ => rfl) (fun t ht => hct t (by omega) (by omega))
  have hes : ES (σ 15) (CPF (va_up m 490 0) 0 600) := h.es.cg (fun _ _ _ => rfl) (fun t a b => hct t (by omega) (by omega))
  obtain ⟨N2, Q2, h2⟩ := hw2.rb hes
  have e1 : N2 = N := by
    have := h2.nbm
    rw [hct 464 (by decide) (by decide), hr.nbm] at this
    omega
  have e2 : Q2 = Q := by
    have := h2.npm
    rw [hct 465 (by decide) (by decide), hr.npm] at this
    omega
  subst e1 e2
  have h3 := h2.sb (j := 9) (x := x) hi (by decide) rfl trivial
  refine ⟨h3.eq, fun _ _ => rfl, h3.car, h3.cnts, ⟨h3.nbm, h3.npm⟩, fun _ _ a b => h3.bd a b, fun _ _ a b => h3.pd a b, ?_, h3.lw⟩
  exact h3.es.cg (fun _ _ _ => rfl) (fun t a b => va_up_ne _ _ (by omega))
theorem t_predict {a b c1 d : Int32} (h : Top K σ m) (hK : K ≤ 800000000) : PM (cd2 xOB xIA) K σ (f6_predict σ a b c1 d) (f7_predict m a b c1 d) := by
  have t40 : ((40 : Int32)).toInt = 40 := rfl
  unfold f6_predict f6_predict_b40 f6_predict_b41 f7_predict
  simp only [bnd_e, fails_k, wi_e]
  rcases rqB (a := a) h with ⟨e1, e2⟩ | ⟨N, Q, i, hr, hi, rfl, e1, e2⟩
  · rw [e1, bndx_r, e2, if_pos rfl]; exact PM.fl h (Or.inl ⟨rfl, rfl⟩)
  · have h4 := hr.i4 hi
    rw [e1, bndx_l, e2, if_neg n10]
    by_cases d1 : f7_isBetween b 0 15 = 0
    · rw [if_pos d1, if_pos d1, rq0, bndx_r]; exact PM.fl h (Or.inr ⟨rfl, rfl⟩)
    · rw [if_neg d1, if_neg d1]
      by_cases d2 : f7_isBetween c1 1 40 = 0
      · rw [if_pos d2, if_pos d2, rq0, bndx_r]; exact PM.fl h (Or.inr ⟨rfl, rfl⟩)
      · rw [if_neg d2, if_neg d2]
        by_cases d3 : f7_isBetween d 0 6 = 0
        · rw [if_pos d3, if_pos d3, rq0, bndx_r]; exact PM.fl h (Or.inr ⟨rfl, rfl⟩)
        · rw [if_neg d3, if_neg d3, rq1 n10, bndx_l, nI_clamp (by omega)]
          have b2 := bt_in d2
          rw [t_1, t40] at b2
          obtain ⟨A, hA, rfl⟩ := vp_nI (w := c1) (K := 41) (vp_in_iff.mpr ⟨by omega, by omega⟩) (by decide)
          obtain ⟨q, hq, rfl⟩ := bt_nI (n := 6) rfl (by decide) d3
          obtain ⟨k1, k2⟩ := tr_beg (x := b) h hr hi
          obtain ⟨v, σ1, m1, p1, p2, p3, p4⟩ := pr_L (A := A) (d := q) hi (by omega) hq BIG 0 K _ _ k1 (Nat.zero_le _) (by unfold BIG; omega) h.k0 (by omega)
          obtain ⟨g1, g2⟩ := tr_back (σ2 := σ1) h4 h (fun r hr => (p3 r hr).trans (k2 r hr)) p4
          have p1 : f6_predict_L71 (nI i) (nI A) (nI q) BIG 0 (va_up (f5_copyFrom σ 1 0) 1 (va_up (f5_copyFrom σ 1 0 1) (336+24*i+9) b)) = (.inl v, σ1) := p1
          have p2 : f7_predict_L80 (nI i) (nI A) (nI q) BIG 0 (f7_sets (f7_copies (va_up m 490 0) 0 0 600 0) (nI i) 9 b) = (v, f7_copies m1 600 0 0 0) := p2
          generalize f7_copies m1 600 0 0 0 = mf at g1 g2 p2
          rw [p1, p2]
          exact ⟨⟨g2, rfl⟩, g1, (p3 16 (by decide)).trans (k2 16 (by decide))⟩
theorem t_apex {a b c1 : Int32} (h : Top K σ m) (hK : K ≤ 800000000) : PM (cd2 xOB xIA) K σ (f6_apex σ a b c1) (f7_apex m a b c1) := by
  have t40 : ((40 : Int32)).toInt = 40 := rfl
  unfold f6_apex f6_apex_b29 f6_apex_b30 f7_apex
  simp only [bnd_e, fails_k, wi_e]
  rcases rqB (a := a) h with ⟨e1, e2⟩ | ⟨N, Q, i, hr, hi, rfl, e1, e2⟩
  · rw [e1, bndx_r, e2, if_pos rfl]; exact PM.fl h (Or.inl ⟨rfl, rfl⟩)
  · have h4 := hr.i4 hi
    rw [e1, bndx_l, e2, if_neg n10]
    by_cases d1 : f7_isBetween b 0 15 = 0
    · rw [if_pos d1, if_pos d1, rq0, bndx_r]; exact PM.fl h (Or.inr ⟨rfl, rfl⟩)
    · rw [if_neg d1, if_neg d1]
      by_cases d2 : f7_isBetween c1 1 40 = 0
      · rw [if_pos d2, if_pos d2, rq0, bndx_r]; exact PM.fl h (Or.inr ⟨rfl, rfl⟩)
      · rw [if_neg d2, if_neg d2, rq1 n10, bndx_l, nI_clamp (by omega)]
        have b2 := bt_in d2
        rw [t_1, t40] at b2
        obtain ⟨A, hA, rfl⟩ := vp_nI (w := c1) (K := 41) (vp_in_iff.mpr ⟨by omega, by omega⟩) (by decide)
        obtain ⟨k1, k2⟩ := tr_beg (x := b) h hr hi
        have hg : va_up (f5_copyFrom σ 1 0) 1 (va_up (f5_copyFrom σ 1 0 1) (336+24*i+9) b) 1 (336+24*i+1) = f7_of (f7_copies (va_up m 490 0) 0 0 600 0) (nI i) 1 := by
          rw [k1.B hi 1 (by decide), s_9 h4, va_up_ne _ _ (by omega), o_1 h4]
        rw [hg]
        obtain ⟨v, σ1, m1, p1, p2, p3, p4⟩ := ap_L (A := A) hi (by omega) BIG 0 K (f7_of (f7_copies (va_up m 490 0) 0 0 600 0) (nI i) 1) _ _ k1 (Nat.zero_le _) (by unfold BIG; omega) h.k0 (by omega)
        obtain ⟨g1, g2⟩ := tr_back (σ2 := σ1) h4 h (fun r hr => (p3 r hr).trans (k2 r hr)) p4
        have p1 : f6_apex_L71 (nI i) (nI A) BIG 0 (f7_of (f7_copies (va_up m 490 0) 0 0 600 0) (nI i) 1) (va_up (f5_copyFrom σ 1 0) 1 (va_up (f5_copyFrom σ 1 0 1) (336+24*i+9) b)) = (.inl v, σ1) := p1
        have p2 : f7_apex_L77 (nI i) (nI A) BIG 0 (f7_of (f7_copies (va_up m 490 0) 0 0 600 0) (nI i) 1) (f7_sets (f7_copies (va_up m 490 0) 0 0 600 0) (nI i) 9 b) = (v, f7_copies m1 600 0 0 0) := p2
        generalize f7_copies m1 600 0 0 0 = mf at g1 g2 p2
        rw [p1, p2]
        exact ⟨⟨g2, rfl⟩, g1, (p3 16 (by decide)).trans (k2 16 (by decide))⟩
/-- movesAcross writes x and y alone -/
theorem mv_fr {d : Int32} {t : Nat} (h4 : i < 4) (h0 : ¬ t = 336+24*i+0) (h1 : ¬ t = 336+24*i+1) : (f7_movesAcross m (nI i) d).2 t = m t := by
  have hb : ∀ x w, (f7_movesAcross_b142 m (nI i) x w).2 t = m t := fun x w => by
    unfold f7_movesAcross_b142
    simp only [bnd_e]
    rw [s_0 h4, s_1 h4, va_up_ne _ _ h1, va_up_ne _ _ h0]
  have hc : ∀ x w, (f7_movesAcross_b82 m (nI i) x w).2 t = m t := fun x w => by
    unfold f7_movesAcross_b82 f7_movesAcross_b108
    simp only [bnd_e, ↓reduceIte]
    by_cases c1 : f7_blocks m (nI i) x w = 0
    · rw [if_pos c1]
      by_cases c2 : f7_supportOf m (nI i) = 0
      · rw [if_pos c2]; exact hb _ _
      · rw [if_neg c2]
        by_cases c3 : f7_supportAt m (nI i) x w = 0
        · rw [if_pos c3]
          by_cases c4 : f7_supportAt m (nI i) x (w - 1) = 0
          · rw [if_pos c4]; exact hb _ _
          · rw [if_neg c4]; exact hb _ _
        · rw [if_neg c3]; exact hb _ _
    · rw [if_neg c1]
  unfold f7_movesAcross f7_movesAcross_b80
  simp only [bnd_e]
  rw [o_0 h4, o_1 h4]
  split
  · exact hc _ _
  · split
    · split
      · exact hc _ _
      · exact hc _ _
    · rfl
theorem cl_L {b x y : Int32} (hi : i < N) (hb : b = 1 ∨ b = -1) : ∀ (n q : Nat) (k : Int) (σ : Nat → Nat → Int32) (m : Nat → Int32), RC K (fun _ => 1000) (σ 15) M0 N Q 0 k (σ 1) m → q ≤ 400 → 400 < n + q → (K + k + 400 ≤ 900000000 + q ∧ k + 400 ≤ 10000 + q) →
    ∃ v σ1 m1, f6_clearance_L36 (nI i) b n (nI q) σ = (.inl v, σ1) ∧ f7_clearance_L53 (nI i) b x y n (nI q) m = (v, f7_sets (f7_sets m1 (nI i) 0 x) (nI i) 1 y) ∧ (∀ r, ¬ r = 1 → σ1 r = σ r) ∧ (∀ t, ¬ t = 336+24*i+0 → ¬ t = 336+24*i+1 → m1 t = m t) := by
  intro n
  induction n with
  | zero => intro q k σ m h h1 h2; omega
  | succ n ih =>
    intro q k σ m h hq hn hK
    have h4 := h.i4 hi
    have t400 : ((400 : Int32)).toInt = 400 := rfl
    rw [f6_clearance_L36, f7_clearance_L53]
    unfold f7_clearance_b76
    simp only [bnd_e]
    by_cases c0 : 400 ≤ nI q
    · rw [if_pos c0, if_pos c0]
      exact ⟨_, σ, m, rfl, rfl, fun _ _ => rfl, fun _ _ _ => rfl⟩
    · rw [if_neg c0, if_neg c0]
      rw [ti_le, t400, nI_toInt (by omega)] at c0
      have h9 := e_sideways h hi (by omega) hb
      have hf := fun t h0 h1 => mv_fr (m := m) (d := b) (t := t) h4 h0 h1
      rw [nI_clamp (by omega), nI_s]
      generalize f5_stepSideways (σ 1) i b = za at h9
      generalize f7_movesAcross m (nI i) b = zb at h9 hf
      obtain ⟨a1, a2⟩ := za
      obtain ⟨b1, b2⟩ := zb
      obtain ⟨g1, g2⟩ := h9
      have g1 : a1 = b1 := g1
      have g2 : RC K (fun _ => 1000) (σ 15) M0 N Q 0 (k+1) a2 b2 := g2
      have hf : ∀ t, ¬ t = 336+24*i+0 → ¬ t = 336+24*i+1 → b2 t = m t := hf
      subst g1
      rw [bnd2_mk a1 a2, bnd2_mk a1 b2]
      by_cases c1 : a1 = 0
      · rw [if_pos c1, if_pos c1]
        exact ⟨_, _, b2, rfl, rfl, fun r hr => va_up_ne _ _ hr, hf⟩
      · rw [if_neg c1, if_neg c1]
        obtain ⟨v, σ1, m1, e1, e2, e3, e4⟩ := ih (q+1) (k+1) (va_up σ 1 a2) b2 (by rw [va_up_self, va_up_ne _ _ (by decide)]; exact g2) (by omega) (by omega) (by omega)
        exact ⟨v, σ1, m1, e1, e2, fun r hr => (e3 r hr).trans (va_up_ne _ _ hr), fun t h0 h1 => (e4 t h0 h1).trans (hf t h0 h1)⟩
theorem t_clearance {a b : Int32} (h : Top K σ m) (hK : K ≤ 800000000) : PM (cd2 xOB xIA) K σ (f6_clearance σ a b) (f7_clearance m a b) := by
  unfold f6_clearance f6_clearance_b15 f6_clearance_b20 f7_clearance f7_clearance_b30
  simp only [bnd_e, fails_k, wi_e]
  rcases rqB (a := a) h with ⟨e1, e2⟩ | ⟨N, Q, i, hr, hi, rfl, e1, e2⟩
  · rw [e1, bndx_r, e2, if_pos rfl]; exact PM.fl h (Or.inl ⟨rfl, rfl⟩)
  · have h4 := hr.i4 hi
    rw [e1, bndx_l, e2, if_neg n10, o_0 h4, o_1 h4]
    have key : (b = 1 ∨ b = -1) → PM (cd2 xOB xIA) K σ (bndx (f6_require σ 1) (fun _ σ20 => f6_clearance_L36 (nI i) b BIG 0 (f5_copyFrom σ20 1 0))) (f7_clearance_L53 (nI i) b (va_up m 490 0 (336+24*i+0)) (va_up m 490 0 (336+24*i+1)) BIG 0 (va_up m 490 0)) := fun hb => by
      rw [rq1 n10, bndx_l]
      have hw := h.wd
      have hcp := hw.cp (a := 1) (by decide)
      have hfr := cpW_fr (a := 1) hw (by decide)
      have hw2 : WD K (f5_copyFrom σ 1 0 1) (va_up m 490 0) := hcp.cg (fun _ _ => rfl) (fun t ht => va_up_ne _ _ (by omega))
      have hes : ES (f5_copyFrom σ 1 0 15) (va_up m 490 0) := h.es.cg (fun t _ _ => by rw [hfr 15 (by decide)]) (fun t a b => va_up_ne _ _ (by omega))
      obtain ⟨N2, Q2, h2⟩ := hw2.rb hes
      have e1 : N2 = N := by
        have := h2.nbm
        rw [va_up_ne _ _ (by decide), hr.nbm] at this
        omega
      subst e1
      obtain ⟨v, σ1, m1, p1, p2, p3, p4⟩ := cl_L (x := va_up m 490 0 (336+24*i+0)) (y := va_up m 490 0 (336+24*i+1)) hi hb BIG 0 0 (f5_copyFrom σ 1 0) (va_up m 490 0) h2 (by decide) (by unfold BIG; omega) (by omega)
      have p1 : f6_clearance_L36 (nI i) b BIG 0 (f5_copyFrom σ 1 0) = (.inl v, σ1) := p1
      have p2 : f7_clearance_L53 (nI i) b (va_up m 490 0 (336+24*i+0)) (va_up m 490 0 (336+24*i+1)) BIG 0 (va_up m 490 0) = (v, f7_sets (f7_sets m1 (nI i) 0 (va_up m 490 0 (336+24*i+0))) (nI i) 1 (va_up m 490 0 (336+24*i+1))) := p2
      rw [p1, p2, s_0 h4, s_1 h4]
      have em : va_up (va_up m1 (336+24*i+0) (va_up m 490 0 (336+24*i+0))) (336+24*i+1) (va_up m 490 0 (336+24*i+1)) = va_up m 490 0 := by
        funext t
        by_cases x1 : t = 336+24*i+1
        · subst x1; rw [va_up_self]
        · rw [va_up_ne _ _ x1]
          by_cases x0 : t = 336+24*i+0
          · subst x0; rw [va_up_self]
          · rw [va_up_ne _ _ x0]; exact p4 t x0 x1
      rw [em]
      refine ⟨⟨va_up_self m 490 0, rfl⟩, ?_, (p3 16 (by decide)).trans (hfr 16 (by decide))⟩
      exact h.m490.cg (fun w hw t ht => by show σ1 w t = _; rw [p3 w (by omega), hfr w (by omega)]) (fun t ht => by show σ1 15 t = _; rw [p3 15 (by decide), hfr 15 (by decide)]) (fun t ht => rfl)
    by_cases d1 : b = -1
    · rw [if_pos d1, if_pos d1]; exact key (Or.inr d1)
    · rw [if_neg d1, if_neg d1]
      by_cases d2 : b = 1
      · rw [if_pos d2, if_pos d2]; exact key (Or.inl d2)
      · rw [if_neg d2, if_neg d2, rq0, bndx_r]; exact PM.fl h (Or.inr ⟨rfl, rfl⟩)
end
