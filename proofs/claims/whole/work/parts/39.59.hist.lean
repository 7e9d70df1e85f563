/-! PURE: set; copies; what is kept; a tick with its keeping -/
section
variable {sz M0 : Nat → Int32} {N Q c : Nat} {k K L : Int} {u w m u2 w2 m2 : Nat → Int32} {i j p : Nat} {σ σ2 : Nat → Nat → Int32}
theorem Top.s15 {s2 : Nat → Int32} (h : Top K σ m) (he : ES s2 m2) (hs : ∀ t, ¬ (10 ≤ t ∧ t < 14) → s2 t = σ 15 t) (hm : ∀ t, TP t → ¬ (480 ≤ t ∧ t < 484) → m2 t = m t) : Top K (va_up σ 15 s2) m2 := by
  unfold TP at hm
  have h0 : ∀ w, ¬ w = 15 → va_up σ 15 s2 w = σ w := fun w hw => va_up_ne _ _ hw
  have h1 : va_up σ 15 s2 15 = s2 := va_up_self _ _ _
  refine ⟨h.k0, h.wd.cg (fun t _ => by rw [h0 0 (by decide)]) (fun t ht => hm t (by omega) (by omega)), by rw [h1]; exact he, ?_, ?_, ?_, ?_⟩
  · exact h.sn.cg (Int.le_refl K) (fun t _ => by rw [h0 2 (by decide)]) (by rw [h1]; exact hs 0 (by omega)) (fun t _ _ => by rw [h1]; exact hs t (by omega)) (hm 492 (by omega) (by omega)) (fun t a b => hm t (by omega) (by omega)) (fun t a b => hm t (by omega) (by omega))
  · exact h.hi.cg (Int.le_refl K) (fun w a b t _ => by rw [h0 w (by omega)]) (by rw [h1]; exact hs 2 (by omega)) (by rw [h1]; exact hs 3 (by omega)) (hm 491 (by omega) (by omega)) (fun t a b => hm t (by omega) (by omega))
  · exact h.tx.cg (by rw [h1]; exact hs 4 (by omega)) (fun t _ _ => by rw [h1]; exact hs t (by omega)) (hm 493 (by omega) (by omega)) (fun t a b => hm t (by omega) (by omega))
  · rw [h1, hs 1 (by omega), hm 496 (by omega) (by omega)]; exact h.fa
theorem set_q {q : Nat} {b : Int32} (hq : q ≤ 3) : f7_isSetting (nI q) b = f7_isBetween b (leS q) (grS q) := by
  unfold f7_isSetting
  simp only [bnd_e]
  rcases (show q = 0 ∨ q = 1 ∨ q = 2 ∨ q = 3 by omega) with rfl | rfl | rfl | rfl
  · rw [if_pos (by decide)]; rfl
  · rw [if_neg (by decide), if_pos (by decide)]; rfl
  · rw [if_neg (by decide), if_neg (by decide), if_pos (by decide)]; rfl
  · rw [if_neg (by decide), if_neg (by decide), if_neg (by decide)]; rfl
theorem t_setS {a b : Int32} (h : Top K σ m) : PM (cd2 xOB xIA) K σ (f6_set σ a b) (f7_set m a b) := by
  unfold f6_set f7_set
  simp only [bnd_e, fails_k, wi_e]
  by_cases d1 : f7_isBetween a 0 3 = 0
  · rw [if_pos d1, if_pos d1]; exact PM.fl h (Or.inl ⟨rfl, rfl⟩)
  · rw [if_neg d1, if_neg d1]
    obtain ⟨q, hq, rfl⟩ := bt_nI (n := 3) rfl (by decide) d1
    rw [nI_clamp (by omega), set_q hq]
    by_cases d2 : f7_isBetween b (leS q) (grS q) = 0
    · rw [d2, rq0, bndx_r, if_pos rfl]; exact PM.fl h (Or.inr ⟨rfl, rfl⟩)
    · rw [rq1 d2, bndx_l, if_neg d2]
      have b2 := bt_in d2
      have hes := h.es
      refine ⟨⟨?_, ?_⟩, ?_, (show va_up σ 15 (va_up (σ 15) (10+q) b) 16 = σ 16 from va_up_ne _ _ (by decide))⟩
      · show va_up (va_up m 490 0) (480+q) b 490 = 0
        rw [va_up_ne _ _ (by omega), va_up_self]
      · show σ 15 (10+q) = va_up m 490 0 (480+q)
        rw [va_up_ne _ _ (by omega)]; exact hes.1 q (by omega)
      · show Top K (va_up σ 15 (va_up (σ 15) (10+q) b)) (va_up (va_up m 490 0) (480+q) b)
        refine h.s15 ?_ (fun t ht => va_up_ne _ _ (by omega)) (fun t h1 h2 => ?_)
        · obtain ⟨a1, a2, a3, a4, a5⟩ := hes
          refine ⟨fun j hj => ?_, ?_, ?_, ?_, ?_⟩
          · by_cases e : j = q
            · subst e; rw [va_up_self, va_up_self]
            · rw [va_up_ne _ _ (by omega), va_up_ne _ _ (by omega), va_up_ne _ _ (by omega)]; exact a1 j hj
          · by_cases e : q = 0
            · subst e; rw [va_up_self]; exact b2
            · rw [va_up_ne _ _ (by omega), va_up_ne _ _ (by omega)]; exact a2
          · by_cases e : q = 1
            · subst e; rw [va_up_self]; exact b2
            · rw [va_up_ne _ _ (by omega), va_up_ne _ _ (by omega)]; exact a3
          · by_cases e : q = 2
            · subst e; rw [va_up_self]; exact b2
            · rw [va_up_ne _ _ (by omega), va_up_ne _ _ (by omega)]; exact a4
          · by_cases e : q = 3
            · subst e; rw [va_up_self]; exact b2
            · rw [va_up_ne _ _ (by omega), va_up_ne _ _ (by omega)]; exact a5
        · have : t ≠ 490 := fun e => TP_490 (e ▸ h1)
          rw [va_up_ne _ _ (by omega), va_up_ne _ _ this]
/-- the reference's copies -/
def CPF (u : Nat → Int32) (s d : Nat) : Nat → Int32 := fun t => if d ≤ t ∧ t < d + 480 then u (s + (t - d)) else u t
theorem CPF_in {s d t : Nat} (h : t < 480) : CPF u s d (d + t) = u (s + t) := by
  unfold CPF
  rw [if_pos (by omega), show d + t - d = t by omega]
theorem CPF_out {s d t : Nat} (h : t < d ∨ d + 480 ≤ t) : CPF u s d t = u t := by
  unfold CPF
  rw [if_neg (by omega)]
theorem cps_L {o1 o2 a b : Nat} (ha : a ≤ 100000) (hb : b ≤ 100000) (hd : o1 + a + 480 ≤ o2 + b ∨ o2 + b + 480 ≤ o1 + a) : ∀ (n q : Nat) (u : Nat → Int32), q ≤ 480 → 480 < n + q → f7_copies_L3 o1 (nI a) o2 (nI b) n (nI q) u = fun t => if o2 + b + q ≤ t ∧ t < o2 + b + 480 then u (o1 + a + (t - (o2 + b))) else u t := by
  intro n
  induction n with
  | zero => intro q u h1 h2; omega
  | succ n ih =>
    intro q u hq hn
    have t480 : ((480 : Int32)).toInt = 480 := rfl
    rw [f7_copies_L3]
    simp only [bnd_e]
    by_cases c0 : 480 ≤ nI q
    · rw [if_pos c0]
      rw [ti_le, t480, nI_toInt (by omega)] at c0
      funext t
      rw [if_neg (by omega)]
    · rw [if_neg c0]
      rw [ti_le, t480, nI_toInt (by omega)] at c0
      rw [nI_add, nI_add, nI_clamp (by omega), nI_clamp (by omega), nI_s, ih (q+1) _ (by omega) (by omega)]
      funext t
      by_cases e : t = o2 + b + q
      · subst e
        rw [if_neg (by omega), if_pos (by omega), show o2 + b + q = o2 + (b + q) by omega, va_up_self, show o1 + a + (o2 + (b + q) - (o2 + b)) = o1 + (a + q) by omega]
      · by_cases c1 : o2 + b + q ≤ t ∧ t < o2 + b + 480
        · rw [if_pos (by omega), if_pos c1, va_up_ne _ _ (by omega)]
        · rw [if_neg (by omega), if_neg c1, va_up_ne _ _ (by omega)]
theorem cps_e {o1 o2 a b : Nat} (ha : a ≤ 100000) (hb : b ≤ 100000) (hd : o1 + a + 480 ≤ o2 + b ∨ o2 + b + 480 ≤ o1 + a) : f7_copies u o1 (nI a) o2 (nI b) = CPF u (o1 + a) (o2 + b) := cps_L ha hb hd BIG 0 u (Nat.zero_le _) (by unfold BIG; omega)
/-- the class's copy of a world holds what its source holds -/
theorem WD.cp {a b : Nat} {x : Nat → Int32} (h : WD K (σ b) x) (hne : ¬ a = b) : WD K (f5_copyFrom σ a b a) x := by
  obtain ⟨N, Q, h1, h2, h3, h4, h5⟩ := h
  have e4 : σ b 464 = x 464 := h1 464 (Or.inr (Or.inr (Or.inr ⟨by decide, by decide⟩)))
  have e5 : σ b 465 = x 465 := h1 465 (Or.inr (Or.inr (Or.inr ⟨by decide, by decide⟩)))
  obtain ⟨c1, c2, c3, c4, c5, c6⟩ := copyW_ch (σ := σ) hne (by rw [e4, h3.1]; omega) (by rw [e5, h3.2]; omega)
  refine ⟨N, Q, fun t ht => ?_, h2, h3, h4, h5⟩
  rcases id ht with q1 | ⟨i, j, q1, q2, rfl⟩ | ⟨i, j, q1, q2, rfl⟩ | q1
  · rw [c2 t q1]; exact h1 t ht
  · rw [c5 i j q2 (by rw [e4, h3.1]; omega)]
    have e := h1 _ ht
    unfold bval
    by_cases e11 : j = 11
    · subst e11
      rw [if_pos rfl, e]
      have hb : (x (336+24*i+11)).toInt = 0 ∨ (x (336+24*i+11)).toInt = 1 := h4 i 11 q1 (by decide)
      exact bl_nb (hb.imp (fun z => ti_inj z) (fun z => ti_inj z))
    · rw [if_neg e11]; exact e
  · rw [c6 i j q2 (by rw [e5, h3.2]; omega)]; exact h1 _ ht
  · rw [c3 t q1.1 q1.2]; exact h1 t ht
theorem cpW_fr {a b : Nat} {x : Nat → Int32} (h : WD K (σ b) x) (hne : ¬ a = b) : ∀ r, ¬ r = a → f5_copyFrom σ a b r = σ r := by
  obtain ⟨N, Q, h1, h2, h3, h4, h5⟩ := h
  have e4 : σ b 464 = x 464 := h1 464 (Or.inr (Or.inr (Or.inr ⟨by decide, by decide⟩)))
  have e5 : σ b 465 = x 465 := h1 465 (Or.inr (Or.inr (Or.inr ⟨by decide, by decide⟩)))
  obtain ⟨c1, -⟩ := copyW_ch (σ := σ) hne (by rw [e4, h3.1]; omega) (by rw [e5, h3.2]; omega)
  intro r hr
  funext t
  exact c1 r t hr
/-- the reference's shift of what it keeps -/
def SHF (m : Nat → Int32) (q : Nat) : Nat → Int32 := fun t => if 2000 + q ≤ t ∧ t < 7280 then m (t + 480) else m t
theorem shf_L {f : Int32 → (Nat → Int32) → (Nat → Int32)} {x : Int32} : ∀ (n q : Nat) (m : Nat → Int32), q ≤ 5280 → 5280 < n + q → f7_ticks_L18 f x n (nI q) m = f7_ticks_b57 f x (va_up (SHF m q) 491 (SHF m q 491 - 1)) := by
  intro n
  induction n with
  | zero => intro q u h1 h2; omega
  | succ n ih =>
    intro q m hq hn
    have t5280 : ((5280 : Int32)).toInt = 5280 := rfl
    rw [f7_ticks_L18]
    simp only [bnd_e]
    by_cases c0 : 5280 ≤ nI q
    · rw [if_pos c0]
      rw [ti_le, t5280, nI_toInt (by omega)] at c0
      have e : SHF m q = m := by
        funext t
        unfold SHF
        rw [if_neg (by omega)]
      rw [e]
    · rw [if_neg c0]
      rw [ti_le, t5280, nI_toInt (by omega)] at c0
      rw [show (480 : Int32) = nI 480 from rfl, nI_add, nI_clamp (by omega), nI_clamp (by omega), nI_s, ih (q+1) _ (by omega) (by omega)]
      have e : SHF (va_up m (2000 + q) (m (2000 + (q + 480)))) (q+1) = SHF m q := by
        funext t
        unfold SHF
        by_cases e : t = 2000 + q
        · subst e
          rw [if_neg (by omega), if_pos (by omega), va_up_self, show 2000 + q + 480 = 2000 + (q + 480) by omega]
        · by_cases c1 : 2000 + q ≤ t ∧ t < 7280
          · rw [if_pos (by omega), if_pos c1, va_up_ne _ _ (by omega)]
          · rw [if_neg (by omega), if_neg c1, va_up_ne _ _ (by omega)]
      rw [e]
theorem nx_e : ∀ n, n < 12 → (nI n + 1) - (nI n + 1) / 12 * 12 = nI ((n + 1) % 12) := by decide
theorem nx_b : ∀ n, n < 12 → ((nI n + 12) - 1) - ((nI n + 12) - 1) / 12 * 12 = nI ((n + 11) % 12) := by decide
theorem mn_e : ∀ n, n < 13 → mMin 12 (nI n + 1) = nI (min 12 (n + 1)) := by decide
theorem m480 : ∀ n, n < 13 → 480 * nI n = nI (480 * n) := by decide
theorem eq12 : ∀ n, n < 13 → (nI n = 12 ↔ n = 12) := by decide
/-- one world more is kept -/
theorem e_keep (h : Top K σ m) : ∃ mk, Top K (f1_keep σ 0) mk ∧ (∀ r, ¬ (3 ≤ r ∧ r < 16) → f1_keep σ 0 r = σ r) ∧ (∀ t, ¬ t = 2 → ¬ t = 3 → f1_keep σ 0 15 t = σ 15 t) ∧ (∀ t, ¬ t = 491 → (t < 2000 ∨ 7760 ≤ t) → mk t = m t) ∧
    ∀ f x, (if m 491 = 12 then f7_ticks_L18 f x BIG 0 m else f7_ticks_b57 f x m) = f (x + 1) (f7_goesTick mk) := by
  obtain ⟨c, nx, a1, a2, a3, a4, a5, a6⟩ := h.hi
  have hw := h.wd
  have hne : ¬ 3 + nx = 0 := by omega
  have hcp := hw.cp (a := 3 + nx) hne
  have hfr := cpW_fr (a := 3 + nx) hw hne
  have hk : f1_keep σ 0 = va_up (f5_copyFrom σ (3 + nx) 0) 15 (va_up (va_up (σ 15) 3 (nI ((nx + 1) % 12))) 2 (nI (min 12 (c + 1)))) := by
    unfold f1_keep
    simp only [bnd_e]
    rw [a5, nI_clamp (by omega), hfr 15 (by omega), a5, nx_e nx a2, va_up_self, va_up_ne _ _ (by decide), a3, mn_e c (by omega), up_up]
  have hk0 : ∀ r, ¬ r = 15 → ¬ r = 3 + nx → f1_keep σ 0 r = σ r := fun r h1 h2 => by rw [hk, va_up_ne _ _ h1, hfr r h2]
  have hkx : f1_keep σ 0 (3 + nx) = f5_copyFrom σ (3 + nx) 0 (3 + nx) := by rw [hk, va_up_ne _ _ (by omega)]
  have hk15 : f1_keep σ 0 15 = va_up (va_up (σ 15) 3 (nI ((nx + 1) % 12))) 2 (nI (min 12 (c + 1))) := by rw [hk, va_up_self]
  have hk15t : ∀ t, ¬ t = 2 → ¬ t = 3 → f1_keep σ 0 15 t = σ 15 t := fun t h2 h3 => by rw [hk15, va_up_ne _ _ h2, va_up_ne _ _ h3]
  have tail : ∀ mk : Nat → Int32, (∀ t, ¬ t = 491 → (t < 2000 ∨ 7760 ≤ t) → mk t = m t) → mk 491 = nI (min 12 (c + 1)) → (∀ j, j < min 12 (c + 1) → WD K (f1_keep σ 0 (3 + ((nx + 1) % 12 + 12 - min 12 (c + 1) + j) % 12)) (fun t => mk (2000 + 480 * j + t))) → Top K (f1_keep σ 0) mk := by
    intro mk hm h491 hj
    refine ⟨h.k0, ?_, ?_, ?_, ?_, ?_, ?_⟩
    · rw [hk0 0 (by decide) (by omega)]
      exact hw.cg (fun _ _ => rfl) (fun t ht => hm t (by omega) (by omega))
    · exact h.es.cg (fun t x1 x2 => hk15t t (by omega) (by omega)) (fun t x1 x2 => hm t (by omega) (by omega))
    · exact h.sn.cg (Int.le_refl K) (fun t _ => by rw [hk0 2 (by decide) (by omega)]) (hk15t 0 (by decide) (by decide)) (fun t x1 x2 => hk15t t (by omega) (by omega)) (hm _ (by decide) (by decide)) (fun t x1 x2 => hm t (by omega) (by omega)) (fun t x1 x2 => hm t (by omega) (by omega))
    · refine ⟨min 12 (c + 1), (nx + 1) % 12, by omega, Nat.mod_lt _ (by decide), ?_, h491, ?_, hj⟩
      · rw [hk15, va_up_self]
      · rw [hk15, va_up_ne _ _ (by decide), va_up_self]
    · exact h.tx.cg (hk15t 4 (by decide) (by decide)) (fun t x1 x2 => hk15t t (by omega) (by omega)) (hm _ (by decide) (by decide)) (fun t x1 x2 => hm t (by omega) (by omega))
    · rw [hk15t 1 (by decide) (by decide), hm 496 (by decide) (by decide)]; exact h.fa
  have hfin : ∀ mk, Top K (f1_keep σ 0) mk → (∀ t, ¬ t = 491 → (t < 2000 ∨ 7760 ≤ t) → mk t = m t) → (∀ f x, (if m 491 = 12 then f7_ticks_L18 f x BIG 0 m else f7_ticks_b57 f x m) = f (x + 1) (f7_goesTick mk)) → _ := fun mk h1 h2 h3 => (⟨mk, h1, fun r hr => hk0 r (by omega) (by omega), hk15t, h2, h3⟩ : ∃ mk, Top K (f1_keep σ 0) mk ∧ (∀ r, ¬ (3 ≤ r ∧ r < 16) → f1_keep σ 0 r = σ r) ∧ (∀ t, ¬ t = 2 → ¬ t = 3 → f1_keep σ 0 15 t = σ 15 t) ∧ (∀ t, ¬ t = 491 → (t < 2000 ∨ 7760 ≤ t) → mk t = m t) ∧ ∀ f x, (if m 491 = 12 then f7_ticks_L18 f x BIG 0 m else f7_ticks_b57 f x m) = f (x + 1) (f7_goesTick mk))
  by_cases hc : c = 12
  · subst hc
    have hs491 : SHF m 0 491 = nI 12 := by unfold SHF; rw [if_neg (by omega)]; exact a4
    refine hfin (va_up (CPF (va_up (SHF m 0) 491 (nI 11)) 0 7280) 491 (nI 12)) (tail _ (fun t h1 h2 => ?_) (va_up_self _ _ _) (fun j hj => ?_)) (fun t h1 h2 => ?_) (fun f x => ?_)
    · rw [va_up_ne _ _ h1, CPF_out (by omega), va_up_ne _ _ h1]; unfold SHF; rw [if_neg (by omega)]
    · have hj : j < 12 := by omega
      by_cases e : j = 11
      · subst e
        rw [show 3 + ((nx + 1) % 12 + 12 - min 12 (12 + 1) + 11) % 12 = 3 + nx by omega, hkx]
        refine hcp.cg (fun _ _ => rfl) (fun t ht => ?_)
        rw [va_up_ne _ _ (by omega), show 2000 + 480 * 11 + t = 7280 + t by omega, CPF_in (by omega), Nat.zero_add, va_up_ne _ _ (by omega)]; unfold SHF; rw [if_neg (by omega)]
      · rw [show 3 + ((nx + 1) % 12 + 12 - min 12 (12 + 1) + j) % 12 = 3 + (nx + 12 - 12 + (j + 1)) % 12 by omega, hk0 _ (by omega) (by omega)]
        refine (a6 (j+1) (by omega)).cg (fun _ _ => rfl) (fun t ht => ?_)
        rw [va_up_ne _ _ (by omega), CPF_out (by omega), va_up_ne _ _ (by omega)]; unfold SHF; rw [if_pos (by omega), show 2000 + 480 * j + t + 480 = 2000 + 480 * (j + 1) + t by omega]
    · rw [va_up_ne _ _ h1, CPF_out (by omega), va_up_ne _ _ h1]; unfold SHF; rw [if_neg (by omega)]
    · rw [if_pos ((eq12 12 (by decide)).mpr rfl ▸ a4)]
      have e := shf_L (f := f) (x := x) BIG 0 m (by decide) (by unfold BIG; omega)
      rw [show (nI 0 : Int32) = 0 from rfl] at e
      rw [e, hs491]
      unfold f7_ticks_b57
      simp only [bnd_e]
      rw [show (nI 12 : Int32) - 1 = nI 11 from rfl, va_up_self, m480 11 (by decide), show (0 : Int32) = nI 0 from rfl, cps_e (by decide) (by decide) (by decide), CPF_out (t := 491) (by omega), va_up_self]
      rfl
  · have hc12 : ¬ m 491 = 12 := fun e => hc ((eq12 c (by omega)).mp (a4 ▸ e))
    refine hfin (va_up (CPF m 0 (2000 + 480 * c)) 491 (nI (c + 1))) (tail _ (fun t h1 h2 => ?_) ?_ (fun j hj => ?_)) (fun t h1 h2 => ?_) (fun f x => ?_)
    · rw [va_up_ne _ _ h1, CPF_out (by omega)]
    · rw [va_up_self, show min 12 (c + 1) = c + 1 by omega]
    · by_cases e : j = c
      · subst e
        rw [show 3 + ((nx + 1) % 12 + 12 - min 12 (j + 1) + j) % 12 = 3 + nx by omega, hkx]
        refine hcp.cg (fun _ _ => rfl) (fun t ht => ?_)
        rw [va_up_ne _ _ (by omega), CPF_in (by omega), Nat.zero_add]
      · rw [show 3 + ((nx + 1) % 12 + 12 - min 12 (c + 1) + j) % 12 = 3 + (nx + 12 - c + j) % 12 by omega, hk0 _ (by omega) (by omega)]
        refine (a6 j (by omega)).cg (fun _ _ => rfl) (fun t ht => ?_)
        rw [va_up_ne _ _ (by omega), CPF_out (by omega)]
    · rw [va_up_ne _ _ h1, CPF_out (by omega)]
    · rw [if_neg hc12]
      unfold f7_ticks_b57
      simp only [bnd_e]
      rw [a4, m480 c (by omega), show (0 : Int32) = nI 0 from rfl, cps_e (by decide) (by omega) (by omega), CPF_out (t := 491) (by omega), a4, nI_s]
end
