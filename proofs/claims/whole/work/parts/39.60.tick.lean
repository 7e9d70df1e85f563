/-! PURE: a tick with its keeping; tick, undo, save, restore -/
section
variable {sz M0 : Nat → Int32} {N Q c : Nat} {k K L : Int} {u w m u2 w2 m2 : Nat → Int32} {i j p : Nat} {σ σ2 : Nat → Nat → Int32}
def stp (σ : Nat → Nat → Int32) : Nat → Nat → Int32 := va_up (f1_keep σ 0) 0 (f5_advance (f1_keep σ 0 0) (f1_keep σ 0 15))
theorem e_stp (h : Top K σ m) (hK : K ≤ 900000000) : ∃ m1, Top (K+248) (stp σ) m1 ∧ (∀ r, ¬ (3 ≤ r ∧ r < 16) → ¬ r = 0 → stp σ r = σ r) ∧ (∀ t, ¬ t = 2 → ¬ t = 3 → stp σ 15 t = σ 15 t) ∧ (∀ t, ((480 ≤ t ∧ t < 484) ∨ 488 ≤ t) → ¬ t = 491 → (t < 2000 ∨ 7760 ≤ t) → m1 t = m t) ∧ ((m1 464).toInt = (m 464).toInt) ∧
    ∀ f x, (if m 491 = 12 then f7_ticks_L18 f x BIG 0 m else f7_ticks_b57 f x m) = f (x + 1) m1 := by
  obtain ⟨mk, a1, a2, a3, a4, a5⟩ := e_keep h
  obtain ⟨N, Q, hr⟩ := a1.rb
  have h2 := e_advance hr a1.k0 (by omega)
  refine ⟨f7_goesTick mk, a1.w0 (by omega) h2.wd (fun t ht => h2.rest t (by omega)), fun r h1 h3 => ?_, fun t h1 h3 => ?_, fun t h1 h3 h5 => ?_, ?_, a5⟩
  · unfold stp
    rw [va_up_ne _ _ h3]; exact a2 r h1
  · unfold stp
    rw [va_up_ne _ _ (by decide)]; exact a3 t h1 h3
  · rw [h2.rest t h1, a4 t h3 h5]
  · rw [h2.nbm, ← hr.nbm, a4 464 (by decide) (by decide)]
/-- n ticks -/
theorem e_ticksL {A : Nat} (hA : A ≤ 1000) : ∀ (n q : Nat) (K : Int) (σ : Nat → Nat → Int32) (m : Nat → Int32), Top K σ m → q ≤ A → A < n + q → K + 248 * A ≤ 900000000 + 248 * q →
    ∃ σ1, f6_tick_L12 (nI A) n (nI q) σ = (.inl (σ1 0 466), σ1) ∧ Top (K + 248 * A - 248 * q) σ1 (f7_ticks_L2 (nI A) n (nI q) m) ∧ σ1 16 = σ 16 ∧ (∀ t, ((480 ≤ t ∧ t < 484) ∨ 488 ≤ t) → ¬ t = 491 → (t < 2000 ∨ 7760 ≤ t) → f7_ticks_L2 (nI A) n (nI q) m t = m t) := by
  intro n
  induction n with
  | zero => intro q K σ m h h1 h2; omega
  | succ n ih =>
    intro q K σ m h hq hn hK
    rw [f6_tick_L12, f7_ticks_L2]
    by_cases c0 : nI A ≤ nI q
    · rw [if_pos c0, if_pos c0]
      rw [ti_le, nI_toInt (by omega), nI_toInt (by omega)] at c0
      exact ⟨σ, rfl, h.mono (by omega), rfl, fun _ _ _ _ => rfl⟩
    · rw [if_neg c0, if_neg c0]
      rw [ti_le, nI_toInt (by omega), nI_toInt (by omega)] at c0
      obtain ⟨m1, b1, b2, b3, b4, b5, b6⟩ := e_stp h (by omega)
      rw [b6]
      simp only [bnd_e]
      rw [nI_s]
      obtain ⟨σ1, d1, d2, d3, d4⟩ := ih (q+1) (K+248) (stp σ) m1 b1 (by omega) (by omega) (by omega)
      refine ⟨σ1, d1, d2.mono (by omega), d3.trans (b2 16 (by omega) (by decide)), fun t h1 h2 h3 => ?_⟩
      rw [d4 t h1 h2 h3, b4 t h1 h2 h3]
theorem t_tick {a : Int32} (h : Top K σ m) (hK : K ≤ 800000000) : PM (cd1 xIA) (K+50000) σ (f6_tick σ a) (f7_tick m a) := by
  have t100 : ((100 : Int32)).toInt = 100 := rfl
  unfold f6_tick f7_tick f7_ticks
  simp only [bnd_e, fails_k, wi_e]
  by_cases d1 : f7_isBetween a 1 100 = 0
  · rw [d1, rq0, bndx_r, if_pos rfl]; exact PM.fl (h.mono (by omega)) ⟨rfl, rfl⟩
  · rw [rq1 d1, bndx_l, if_neg d1]
    have b1 := bt_in d1
    rw [t_1, t100] at b1
    obtain ⟨A, hA, rfl⟩ := vp_nI (w := a) (K := 101) (vp_in_iff.mpr ⟨by omega, by omega⟩) (by decide)
    obtain ⟨σ1, e1, e2, e3, e4⟩ := e_ticksL (A := A) (by omega) BIG 0 K σ (va_up m 490 0) h.m490 (Nat.zero_le _) (by unfold BIG; omega) (by omega)
    have e1 : f6_tick_L12 (nI A) BIG 0 σ = (.inl (σ1 0 466), σ1) := e1
    have e2 : Top (K + 248 * A - 248 * (0 : Nat)) σ1 (f7_ticks_L2 (nI A) BIG 0 (va_up m 490 0)) := e2
    have e4 : ∀ t, ((480 ≤ t ∧ t < 484) ∨ 488 ≤ t) → ¬ t = 491 → (t < 2000 ∨ 7760 ≤ t) → f7_ticks_L2 (nI A) BIG 0 (va_up m 490 0) t = va_up m 490 0 t := e4
    rw [e1]
    obtain ⟨N, Q, hr⟩ := e2.rb
    refine ⟨⟨?_, hr.e6⟩, e2.mono (by omega), e3⟩
    show f7_ticks_L2 (nI A) BIG 0 (va_up m 490 0) 490 = 0
    rw [e4 490 (by omega) (by decide) (by decide), va_up_self]
/-- a world is brought back -/
theorem t_undo (h : Top K σ m) : PM (cd1 xIS) K σ (f6_undo σ) (f7_undo m) := by
  obtain ⟨c, nx, a1, a2, a3, a4, a5, a6⟩ := h.hi
  unfold f6_undo f7_undo
  simp only [bnd_e, fails_k]
  rw [a3, a4]
  have hc0 : (nI c = 0) ↔ c = 0 := by
    constructor
    · intro e
      have := congrArg Int32.toInt e
      rw [nI_toInt (by omega), t_0] at this
      omega
    · intro e; rw [e]; rfl
  by_cases d1 : c = 0
  · rw [if_pos (hc0.mpr d1), if_pos (hc0.mpr d1)]; exact PM.fl h ⟨rfl, rfl⟩
  · rw [if_neg (fun z => d1 (hc0.mp z)), if_neg (fun z => d1 (hc0.mp z))]
    have hc1 : nI c - 1 = nI (c - 1) := by
      refine ti_inj ?_
      rw [ti_s1 (by rw [nI_toInt (by omega)]; omega), nI_toInt (by omega), nI_toInt (by omega)]
      omega
    have hsl : WD K (σ (3 + (nx + 11) % 12)) (fun t => m (2000 + 480 * (c - 1) + t)) := by
      have := a6 (c - 1) (by omega)
      rw [show (nx + 12 - c + (c - 1)) % 12 = (nx + 11) % 12 by omega] at this
      exact this
    have hb : f1_bringBack σ 0 = f5_copyFrom (va_up σ 15 (va_up (va_up (σ 15) 3 (nI ((nx + 11) % 12))) 2 (nI (c - 1)))) 0 (3 + (nx + 11) % 12) := by
      unfold f1_bringBack
      simp only [bnd_e]
      rw [a5, nx_b nx a2, va_up_self, va_up_ne (k := 3) (j := 2) _ _ (by decide), a3, hc1, up_up, va_up_self, va_up_ne (k := 2) (j := 3) _ _ (by decide), va_up_self, nI_clamp (by omega)]
    have hlt := Nat.mod_lt (nx + 11) (by decide : 12 > 0)
    generalize hS : va_up σ 15 (va_up (va_up (σ 15) 3 (nI ((nx + 11) % 12))) 2 (nI (c - 1))) = S at hb
    have hS15 : S 15 = va_up (va_up (σ 15) 3 (nI ((nx + 11) % 12))) 2 (nI (c - 1)) := by rw [← hS, va_up_self]
    have hSr : ∀ r, ¬ r = 15 → S r = σ r := fun r hr => by rw [← hS, va_up_ne _ _ hr]
    have hsl2 : WD K (S (3 + (nx + 11) % 12)) (fun t => m (2000 + 480 * (c - 1) + t)) := by rw [hSr _ (by omega)]; exact hsl
    have hcp := hsl2.cp (a := 0) (by omega)
    have hfr := cpW_fr (a := 0) hsl2 (by omega)
    rw [hb]
    rw [va_up_ne (k := 490) (j := 491) _ _ (by decide), a4, hc1, va_up_self, m480 (c - 1) (by omega), show (0 : Int32) = nI 0 from rfl, cps_e (by omega) (by decide) (by omega)]
    have hmm : ∀ t, ¬ t = 490 → ¬ t = 491 → 480 ≤ t → CPF (va_up (va_up m 490 (nI 0)) 491 (nI (c - 1))) (2000 + 480 * (c - 1)) (0 + 0) t = m t := fun t h1 h2 h3 => by rw [CPF_out (by omega), va_up_ne _ _ h2, va_up_ne _ _ h1]
    have hmw : ∀ t, t < 467 → CPF (va_up (va_up m 490 (nI 0)) 491 (nI (c - 1))) (2000 + 480 * (c - 1)) (0 + 0) t = m (2000 + 480 * (c - 1) + t) := fun t ht => by
      have := CPF_in (u := va_up (va_up m 490 (nI 0)) 491 (nI (c - 1))) (s := 2000 + 480 * (c - 1)) (d := 0 + 0) (t := t) (by omega)
      rw [show 0 + 0 + t = t by omega] at this
      rw [this, va_up_ne _ _ (by omega), va_up_ne _ _ (by omega)]
    have hm491 : CPF (va_up (va_up m 490 (nI 0)) 491 (nI (c - 1))) (2000 + 480 * (c - 1)) (0 + 0) 491 = nI (c - 1) := by rw [CPF_out (by omega), va_up_self]
    have hm490 : CPF (va_up (va_up m 490 (nI 0)) 491 (nI (c - 1))) (2000 + 480 * (c - 1)) (0 + 0) 490 = 0 := by rw [CPF_out (by omega), va_up_ne _ _ (by decide), va_up_self]; rfl
    generalize CPF (va_up (va_up m 490 (nI 0)) 491 (nI (c - 1))) (2000 + 480 * (c - 1)) (0 + 0) = mf at hmm hmw hm491 hm490
    have h15t : ∀ t, ¬ t = 2 → ¬ t = 3 → f5_copyFrom S 0 (3 + (nx + 11) % 12) 15 t = σ 15 t := fun t h2 h3 => by rw [hfr 15 (by decide), hS15, va_up_ne _ _ h2, va_up_ne _ _ h3]
    have htop : Top K (f5_copyFrom S 0 (3 + (nx + 11) % 12)) mf := by
      refine ⟨h.k0, hcp.cg (fun _ _ => rfl) hmw, h.es.cg (fun t x1 x2 => h15t t (by omega) (by omega)) (fun t x1 x2 => hmm t (by omega) (by omega) (by omega)), ?_, ?_, ?_, ?_⟩
      · exact h.sn.cg (Int.le_refl K) (fun t _ => by rw [hfr 2 (by decide), hSr 2 (by decide)]) (h15t 0 (by decide) (by decide)) (fun t x1 x2 => h15t t (by omega) (by omega)) (hmm _ (by decide) (by decide) (by decide)) (fun t x1 x2 => hmm t (by omega) (by omega) (by omega)) (fun t x1 x2 => hmm t (by omega) (by omega) (by omega))
      · refine ⟨c - 1, (nx + 11) % 12, by omega, hlt, ?_, hm491, ?_, fun j hj => ?_⟩
        · rw [hfr 15 (by decide), hS15, va_up_self]
        · rw [hfr 15 (by decide), hS15, va_up_ne _ _ (by decide), va_up_self]
        · rw [show ((nx + 11) % 12 + 12 - (c - 1) + j) % 12 = (nx + 12 - c + j) % 12 by omega, hfr _ (by omega), hSr _ (by omega)]
          exact (a6 j (by omega)).cg (fun _ _ => rfl) (fun t ht => hmm _ (by omega) (by omega) (by omega))
      · exact h.tx.cg (h15t 4 (by decide) (by decide)) (fun t x1 x2 => h15t t (by omega) (by omega)) (hmm _ (by decide) (by decide) (by decide)) (fun t x1 x2 => hmm t (by omega) (by omega) (by omega))
      · rw [h15t 1 (by decide) (by decide), hmm 496 (by decide) (by decide) (by decide)]; exact h.fa
    obtain ⟨N, Q, hr⟩ := htop.rb
    exact ⟨⟨hm490, hr.e6⟩, htop, (hfr 16 (by decide)).trans (hSr 16 (by decide))⟩
theorem sv_L : ∀ (n q : Nat) (m : Nat → Int32), q ≤ 4 → 4 < n + q → f7_save_L25 n (nI q) m = fun t => if 580 + q ≤ t ∧ t < 584 then m (t - 100) else m t := by
  intro n
  induction n with
  | zero => intro q u h1 h2; omega
  | succ n ih =>
    intro q m hq hn
    have t4 : ((4 : Int32)).toInt = 4 := rfl
    rw [f7_save_L25]
    simp only [bnd_e]
    by_cases c0 : 4 ≤ nI q
    · rw [if_pos c0]
      rw [ti_le, t4, nI_toInt (by omega)] at c0
      funext t
      rw [if_neg (by omega)]
    · rw [if_neg c0]
      rw [ti_le, t4, nI_toInt (by omega)] at c0
      rw [nI_clamp (by omega), nI_s, ih (q+1) _ (by omega) (by omega)]
      funext t
      by_cases e : t = 580 + q
      · subst e
        rw [if_neg (by omega), if_pos (by omega), va_up_self, show 580 + q - 100 = 480 + q by omega]
      · by_cases c1 : 580 + q ≤ t ∧ t < 584
        · rw [if_pos (by omega), if_pos c1, va_up_ne _ _ (by omega)]
        · rw [if_neg (by omega), if_neg c1, va_up_ne _ _ e]
theorem rs_L : ∀ (n q : Nat) (m : Nat → Int32), q ≤ 4 → 4 < n + q → f7_restore_L44 n (nI q) m = fun t => if 480 + q ≤ t ∧ t < 484 then m (t + 100) else m t := by
  intro n
  induction n with
  | zero => intro q u h1 h2; omega
  | succ n ih =>
    intro q m hq hn
    have t4 : ((4 : Int32)).toInt = 4 := rfl
    rw [f7_restore_L44]
    simp only [bnd_e]
    by_cases c0 : 4 ≤ nI q
    · rw [if_pos c0]
      rw [ti_le, t4, nI_toInt (by omega)] at c0
      funext t
      rw [if_neg (by omega)]
    · rw [if_neg c0]
      rw [ti_le, t4, nI_toInt (by omega)] at c0
      rw [nI_clamp (by omega), nI_s, ih (q+1) _ (by omega) (by omega)]
      funext t
      by_cases e : t = 480 + q
      · subst e
        rw [if_neg (by omega), if_pos (by omega), va_up_self, show 480 + q + 100 = 580 + q by omega]
      · by_cases c1 : 480 + q ≤ t ∧ t < 484
        · rw [if_pos (by omega), if_pos c1, va_up_ne _ _ (by omega)]
        · rw [if_neg (by omega), if_neg c1, va_up_ne _ _ e]
theorem t_save (h : Top K σ m) : (f7_save m) 490 = 0 ∧ Top K (f6_save σ) (f7_save m) ∧ f6_save σ 16 = σ 16 := by
  have hw := h.wd
  have hne : ¬ 2 = 0 := by decide
  have hcp := hw.cp (a := 2) hne
  have hfr := cpW_fr (a := 2) hw hne
  have hes := h.es
  have hk : f6_save σ = va_up (f5_copyFrom σ 2 0) 15 (va_up (cpw (σ 15) 14 10 4 (σ 15)) 0 1) := by
    unfold f6_save
    simp only [bnd_e]
    rw [va_up_self, hfr 15 (by decide), up_up]
  have hk0 : ∀ r, ¬ r = 15 → ¬ r = 2 → f6_save σ r = σ r := fun r h1 h2 => by rw [hk, va_up_ne _ _ h1, hfr r h2]
  have hk15 : f6_save σ 15 = va_up (cpw (σ 15) 14 10 4 (σ 15)) 0 1 := by rw [hk, va_up_self]
  have h15t : ∀ t, ¬ t = 0 → ¬ (14 ≤ t ∧ t < 18) → f6_save σ 15 t = σ 15 t := fun t h1 h2 => by rw [hk15, va_up_ne _ _ h1, cpw_out (by omega)]
  have hm : f7_save m = fun t => if 580 ≤ t ∧ t < 584 then CPF (va_up (va_up m 490 0) 492 1) 0 1100 (t - 100) else CPF (va_up (va_up m 490 0) 492 1) 0 1100 t := by
    unfold f7_save
    simp only [bnd_e]
    rw [show (0 : Int32) = nI 0 from rfl, cps_e (by decide) (by decide) (by decide), sv_L BIG 0 _ (by decide) (by unfold BIG; omega)]
  have hmt : ∀ t, ¬ t = 490 → ¬ t = 492 → ¬ (580 ≤ t ∧ t < 584) → ¬ (1100 ≤ t ∧ t < 1580) → f7_save m t = m t := fun t h1 h2 h3 h4 => by
    rw [hm]
    show (if _ then _ else _) = _
    rw [if_neg h3, CPF_out (by omega), va_up_ne _ _ h2, va_up_ne _ _ h1]
  have hms : ∀ j, j < 4 → f7_save m (580 + j) = m (480 + j) := fun j hj => by
    rw [hm]
    show (if _ then _ else _) = _
    rw [if_pos (by omega), CPF_out (by omega), va_up_ne _ _ (by omega), va_up_ne _ _ (by omega), show 580 + j - 100 = 480 + j by omega]
  have hmw : ∀ t, t < 480 → f7_save m (1100 + t) = m t := fun t ht => by
    rw [hm]
    show (if _ then _ else _) = _
    rw [if_neg (by omega), CPF_in ht, Nat.zero_add, va_up_ne _ _ (by omega), va_up_ne _ _ (by omega)]
  have hm492 : f7_save m 492 = 1 := by
    rw [hm]
    show (if _ then _ else _) = _
    rw [if_neg (by omega), CPF_out (by omega), va_up_self]
  have hm490 : f7_save m 490 = 0 := by
    rw [hm]
    show (if _ then _ else _) = _
    rw [if_neg (by omega), CPF_out (by omega), va_up_ne _ _ (by decide), va_up_self]
  refine ⟨hm490, ⟨h.k0, ?_, ?_, ⟨?_, fun _ => ⟨?_, ?_⟩⟩, ?_, ?_, ?_⟩, hk0 16 (by decide) (by decide)⟩
  · rw [hk0 0 (by decide) (by decide)]
    exact hw.cg (fun _ _ => rfl) (fun t ht => hmt t (by omega) (by omega) (by omega) (by omega))
  · exact hes.cg (fun t x1 x2 => h15t t (by omega) (by omega)) (fun t x1 x2 => hmt t (by omega) (by omega) (by omega) (by omega))
  · rw [hk15, va_up_self, hm492]
  · have : f6_save σ 2 = f5_copyFrom σ 2 0 2 := by rw [hk, va_up_ne _ _ (by decide)]
    rw [this]
    exact hcp.cg (fun _ _ => rfl) (fun t ht => hmw t (by omega))
  · obtain ⟨b1, b2, b3, b4, b5⟩ := hes
    refine ⟨fun j hj => ?_, ?_, ?_, ?_, ?_⟩
    · show f6_save σ 15 (4 + (10 + j)) = f7_save m (100 + (480 + j))
      rw [hk15, va_up_ne _ _ (by omega), show 4 + (10 + j) = 14 + j by omega, cpw_in hj, show 100 + (480 + j) = 580 + j by omega, hms j hj]
      exact b1 j hj
    · show 1 ≤ (f7_save m (580 + 0)).toInt ∧ (f7_save m (580 + 0)).toInt ≤ 10
      rw [hms 0 (by decide)]; exact b2
    · show 5 ≤ (f7_save m (580 + 1)).toInt ∧ (f7_save m (580 + 1)).toInt ≤ 16
      rw [hms 1 (by decide)]; exact b3
    · show 0 ≤ (f7_save m (580 + 2)).toInt ∧ (f7_save m (580 + 2)).toInt ≤ 10
      rw [hms 2 (by decide)]; exact b4
    · show 1 ≤ (f7_save m (580 + 3)).toInt ∧ (f7_save m (580 + 3)).toInt ≤ 10
      rw [hms 3 (by decide)]; exact b5
  · exact h.hi.cg (Int.le_refl K) (fun r x1 x2 t _ => by rw [hk0 r (by omega) (by omega)]) (h15t 2 (by decide) (by decide)) (h15t 3 (by decide) (by decide)) (hmt _ (by decide) (by decide) (by decide) (by decide)) (fun t x1 x2 => hmt t (by omega) (by omega) (by omega) (by omega))
  · exact h.tx.cg (h15t 4 (by decide) (by decide)) (fun t x1 x2 => h15t t (by omega) (by omega)) (hmt _ (by decide) (by decide) (by decide) (by decide)) (fun t x1 x2 => hmt t (by omega) (by omega) (by omega) (by omega))
  · rw [h15t 1 (by decide) (by decide), hmt 496 (by decide) (by decide) (by decide) (by decide)]; exact h.fa
theorem t_restore (h : Top K σ m) : PM (cd1 xIS) K σ (f6_restore σ) (0, f7_restore m) := by
  obtain ⟨s1, s2⟩ := h.sn
  unfold f6_restore f7_restore f7_restore_b13
  rw [s1]
  simp only [bnd_e]
  rw [va_up_ne (k := 490) (j := 492) _ _ (by decide), va_up_ne (k := 490) (j := 492) _ _ (by decide)]
  by_cases d1 : nb (m 492) = 0
  · rw [if_pos d1, if_pos d1, if_pos d1]; exact PM.fl h ⟨rfl, rfl⟩
  · rw [if_neg d1, if_neg d1, if_neg d1]
    obtain ⟨w2, es2⟩ := s2 d1
    have hcp := w2.cp (a := 0) (by decide)
    have hfr := cpW_fr (a := 0) w2 (by decide)
    have hk : va_up (va_up (f5_copyFrom σ 0 2) 15 (cpw (f5_copyFrom σ 0 2 15) 10 14 4 (f5_copyFrom σ 0 2 15))) 15 (va_up (va_up (f5_copyFrom σ 0 2) 15 (cpw (f5_copyFrom σ 0 2 15) 10 14 4 (f5_copyFrom σ 0 2 15)) 15) 2 0) = va_up (f5_copyFrom σ 0 2) 15 (va_up (cpw (σ 15) 10 14 4 (σ 15)) 2 0) := by
      rw [up_up, va_up_self, hfr 15 (by decide)]
    have hk2 : f1_forget (va_up (f5_copyFrom σ 0 2) 15 (cpw (f5_copyFrom σ 0 2 15) 10 14 4 (f5_copyFrom σ 0 2 15))) = va_up (f5_copyFrom σ 0 2) 15 (va_up (cpw (σ 15) 10 14 4 (σ 15)) 2 0) := by
      unfold f1_forget
      simp only [bnd_e]
      exact hk
    rw [hk2]
    have hm : f7_restore_L44 BIG 0 (f7_copies (va_up (va_up m 490 0) 491 0) 1100 0 0 0) = fun t => if 480 ≤ t ∧ t < 484 then CPF (va_up (va_up m 490 0) 491 0) 1100 0 (t + 100) else CPF (va_up (va_up m 490 0) 491 0) 1100 0 t := by
      rw [show (0 : Int32) = nI 0 from rfl, cps_e (by decide) (by decide) (by decide), rs_L BIG 0 _ (by decide) (by unfold BIG; omega)]
    rw [hm]
    have hk0 : ∀ r, ¬ r = 15 → ¬ r = 0 → va_up (f5_copyFrom σ 0 2) 15 (va_up (cpw (σ 15) 10 14 4 (σ 15)) 2 0) r = σ r := fun r h1 h2 => by rw [va_up_ne _ _ h1, hfr r h2]
    have hk15 : va_up (f5_copyFrom σ 0 2) 15 (va_up (cpw (σ 15) 10 14 4 (σ 15)) 2 0) 15 = va_up (cpw (σ 15) 10 14 4 (σ 15)) 2 0 := va_up_self _ _ _
    have hkw : va_up (f5_copyFrom σ 0 2) 15 (va_up (cpw (σ 15) 10 14 4 (σ 15)) 2 0) 0 = f5_copyFrom σ 0 2 0 := va_up_ne _ _ (by decide)
    have hmt : ∀ t, ¬ t = 490 → ¬ t = 491 → 484 ≤ t → (if 480 ≤ t ∧ t < 484 then CPF (va_up (va_up m 490 0) 491 0) 1100 0 (t + 100) else CPF (va_up (va_up m 490 0) 491 0) 1100 0 t) = m t := fun t h1 h2 h3 => by
      rw [if_neg (by omega), CPF_out (by omega), va_up_ne _ _ h2, va_up_ne _ _ h1]
    have hms : ∀ j, j < 4 → (if 480 ≤ 480 + j ∧ 480 + j < 484 then CPF (va_up (va_up m 490 0) 491 0) 1100 0 (480 + j + 100) else CPF (va_up (va_up m 490 0) 491 0) 1100 0 (480 + j)) = m (580 + j) := fun j hj => by
      rw [if_pos (by omega), CPF_out (by omega), va_up_ne _ _ (by omega), va_up_ne _ _ (by omega), show 480 + j + 100 = 580 + j by omega]
    have hmw : ∀ t, t < 467 → (if 480 ≤ t ∧ t < 484 then CPF (va_up (va_up m 490 0) 491 0) 1100 0 (t + 100) else CPF (va_up (va_up m 490 0) 491 0) 1100 0 t) = m (1100 + t) := fun t ht => by
      have := CPF_in (u := va_up (va_up m 490 0) 491 0) (s := 1100) (d := 0) (t := t) (by omega)
      rw [Nat.zero_add] at this
      rw [if_neg (by omega), this, va_up_ne _ _ (by omega), va_up_ne _ _ (by omega)]
    have hm491 : (if 480 ≤ 491 ∧ 491 < 484 then CPF (va_up (va_up m 490 0) 491 0) 1100 0 (491 + 100) else CPF (va_up (va_up m 490 0) 491 0) 1100 0 491) = (0 : Int32) := by
      rw [if_neg (by omega), CPF_out (by omega), va_up_self]
    have hm490 : (if 480 ≤ 490 ∧ 490 < 484 then CPF (va_up (va_up m 490 0) 491 0) 1100 0 (490 + 100) else CPF (va_up (va_up m 490 0) 491 0) 1100 0 490) = (0 : Int32) := by
      rw [if_neg (by omega), CPF_out (by omega), va_up_ne _ _ (by decide), va_up_self]
    generalize hmf : (fun t => if 480 ≤ t ∧ t < 484 then CPF (va_up (va_up m 490 0) 491 0) 1100 0 (t + 100) else CPF (va_up (va_up m 490 0) 491 0) 1100 0 t) = mf
    have hmt : ∀ t, ¬ t = 490 → ¬ t = 491 → 484 ≤ t → mf t = m t := fun t h1 h2 h3 => (congrFun hmf t).symm.trans (hmt t h1 h2 h3)
    have hms : ∀ j, j < 4 → mf (480 + j) = m (580 + j) := fun j hj => (congrFun hmf _).symm.trans (hms j hj)
    have hmw : ∀ t, t < 467 → mf t = m (1100 + t) := fun t ht => (congrFun hmf _).symm.trans (hmw t ht)
    have hm491 : mf 491 = 0 := (congrFun hmf _).symm.trans hm491
    have hm490 : mf 490 = 0 := (congrFun hmf _).symm.trans hm490
    generalize va_up (f5_copyFrom σ 0 2) 15 (va_up (cpw (σ 15) 10 14 4 (σ 15)) 2 0) = σ1 at hk0 hk15 hkw
    have h15t : ∀ t, ¬ t = 2 → ¬ (10 ≤ t ∧ t < 14) → σ1 15 t = σ 15 t := fun t h1 h2 => by rw [hk15, va_up_ne _ _ h1, cpw_out (by omega)]
    refine ⟨⟨hm490, rfl⟩, ⟨h.k0, ?_, ?_, ?_, ?_, ?_, ?_⟩, hk0 16 (by decide) (by decide)⟩
    · show WD K (σ1 0) mf
      rw [hkw]
      exact hcp.cg (fun _ _ => rfl) hmw
    · obtain ⟨b1, b2, b3, b4, b5⟩ := es2
      refine ⟨fun j hj => ?_, ?_, ?_, ?_, ?_⟩
      · show σ1 15 (10 + j) = mf (480 + j)
        rw [hk15, va_up_ne _ _ (by omega), cpw_in hj, hms j hj]
        have this : σ 15 (4 + (10 + j)) = m (100 + (480 + j)) := b1 j hj
        rw [show 4 + (10 + j) = 14 + j by omega, show 100 + (480 + j) = 580 + j by omega] at this
        exact this
      · show 1 ≤ (mf (480 + 0)).toInt ∧ (mf (480 + 0)).toInt ≤ 10
        rw [hms 0 (by decide)]; exact b2
      · show 5 ≤ (mf (480 + 1)).toInt ∧ (mf (480 + 1)).toInt ≤ 16
        rw [hms 1 (by decide)]; exact b3
      · show 0 ≤ (mf (480 + 2)).toInt ∧ (mf (480 + 2)).toInt ≤ 10
        rw [hms 2 (by decide)]; exact b4
      · show 1 ≤ (mf (480 + 3)).toInt ∧ (mf (480 + 3)).toInt ≤ 10
        rw [hms 3 (by decide)]; exact b5
    · show SN K σ1 mf
      exact h.sn.cg (Int.le_refl K) (fun t _ => by rw [hk0 2 (by decide) (by decide)]) (h15t 0 (by decide) (by decide)) (fun t x1 x2 => h15t t (by omega) (by omega)) (hmt _ (by decide) (by decide) (by decide)) (fun t x1 x2 => hmt t (by omega) (by omega) (by omega)) (fun t x1 x2 => hmt t (by omega) (by omega) (by omega))
    · obtain ⟨c, nx, q1, q2, q3, q4, q5, q6⟩ := h.hi
      refine ⟨0, nx, by decide, q2, ?_, hm491, ?_, fun j hj => absurd hj (Nat.not_lt_zero _)⟩
      · show σ1 15 2 = nI 0
        rw [hk15, va_up_self]; rfl
      · exact (h15t 3 (by decide) (by decide)).trans q5
    · show TX σ1 mf
      exact h.tx.cg (h15t 4 (by decide) (by decide)) (fun t x1 x2 => h15t t (by omega) (by omega)) (hmt _ (by decide) (by decide) (by decide)) (fun t x1 x2 => hmt t (by omega) (by omega) (by omega))
    · show σ1 15 1 = mf 496
      rw [h15t 1 (by decide) (by decide), hmt 496 (by decide) (by decide) (by decide)]; exact h.fa
end
