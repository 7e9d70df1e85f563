/-! PURE: Top: what the class's rows and the reference's row hold alike between two calls -/
def WD (K : Int) (u w : Nat → Int32) : Prop := ∃ N Q : Nat, (∀ t, LV N Q t → u t = w t) ∧ (N ≤ 4 ∧ Q ≤ 4) ∧ ((w 464).toInt = N ∧ (w 465).toInt = Q) ∧ (∀ i j, i < N → j < 22 → bdB K 1000 0 j (w (336+24*i+j)).toInt) ∧ (∀ p j, p < Q → j < 7 → bdP (K + 0) j (w (432+8*p+j)).toInt)
def HI (K : Int) (σ : Nat → Nat → Int32) (m : Nat → Int32) : Prop := ∃ c nx : Nat, c ≤ 12 ∧ nx < 12 ∧ σ 15 2 = nI c ∧ m 491 = nI c ∧ σ 15 3 = nI nx ∧ ∀ j, j < c → WD K (σ (3 + (nx + 12 - c + j) % 12)) (fun t => m (2000 + 480*j + t))
def TX (σ : Nat → Nat → Int32) (m : Nat → Int32) : Prop := ∃ L : Nat, L ≤ 40 ∧ σ 15 4 = nI L ∧ m 493 = nI L ∧ ∀ j, j < L → σ 15 (20+j) = m (500+j)
def SN (K : Int) (σ : Nat → Nat → Int32) (m : Nat → Int32) : Prop := nb (σ 15 0) = nb (m 492) ∧ (¬ nb (m 492) = 0 → WD K (σ 2) (fun t => m (1100+t)) ∧ ES (fun t => σ 15 (4+t)) (fun t => m (100+t)))
def Top (K : Int) (σ : Nat → Nat → Int32) (m : Nat → Int32) : Prop := 383 ≤ K ∧ WD K (σ 0) m ∧ ES (σ 15) m ∧ SN K σ m ∧ HI K σ m ∧ TX σ m ∧ σ 15 1 = m 496
theorem LV.lt {N Q t : Nat} (h : LV N Q t) (hN : N ≤ 4) (hQ : Q ≤ 4) : t < 467 := by
  rcases h with q1 | ⟨i, j, q1, q2, q3⟩ | ⟨i, j, q1, q2, q3⟩ | q1 <;> omega
section
variable {sz M0 : Nat → Int32} {N Q c : Nat} {k K L : Int} {u w m u2 w2 m2 : Nat → Int32} {i j p : Nat} {σ σ2 : Nat → Nat → Int32}
theorem WD.mono (h : WD K u w) (hk : K ≤ L) : WD L u w := by
  obtain ⟨N, Q, h1, h2, h3, h4, h5⟩ := h
  exact ⟨N, Q, h1, h2, h3, fun i j a b => bdB_mono (by omega) (by omega) j (h4 i j a b), fun i j a b => bdP_mono (by omega) j (h5 i j a b)⟩
theorem WD.cg (h : WD K u w) (hu : ∀ t, t < 467 → u2 t = u t) (hw : ∀ t, t < 467 → w2 t = w t) : WD K u2 w2 := by
  obtain ⟨N, Q, h1, h2, h3, h4, h5⟩ := h
  refine ⟨N, Q, fun t ht => ?_, h2, ⟨?_, ?_⟩, fun i j a b => ?_, fun i j a b => ?_⟩
  · have := ht.lt h2.1 h2.2
    rw [hu t this, hw t this]; exact h1 t ht
  · rw [hw 464 (by decide)]; exact h3.1
  · rw [hw 465 (by decide)]; exact h3.2
  · rw [hw _ (by omega)]; exact h4 i j a b
  · rw [hw _ (by omega)]; exact h5 i j a b
theorem WD.rb (h : WD K u m) (he : ES sz m) : ∃ N Q, RB sz m N Q 0 K u m := by
  obtain ⟨N, Q, h1, h2, h3, h4, h5⟩ := h
  exact ⟨N, Q, h1, fun _ _ => rfl, fun _ h => absurd h (Nat.not_lt_zero _), ⟨h2.1, h2.2, Nat.zero_le _⟩, h3, h4, h5, he, fun _ => Int.le_refl _⟩
theorem RB.wd (h : RB sz M0 N Q c K u m) : WD K u m := ⟨N, Q, h.eq, ⟨h.cnts.1, h.cnts.2.1⟩, ⟨h.nbm, h.npm⟩, fun _ _ a b => h.bd a b, fun _ _ a b => h.pd a b⟩
theorem ES.cg (h : ES sz M0) (h1 : ∀ t, 10 ≤ t → t < 14 → u t = sz t) (h2 : ∀ t, 480 ≤ t → t < 484 → w t = M0 t) : ES u w := by
  obtain ⟨a1, a2, a3, a4, a5⟩ := h
  refine ⟨fun j hj => ?_, ?_, ?_, ?_, ?_⟩
  · rw [h1 _ (by omega) (by omega), h2 _ (by omega) (by omega)]; exact a1 j hj
  · rw [h2 480 (by decide) (by decide)]; exact a2
  · rw [h2 481 (by decide) (by decide)]; exact a3
  · rw [h2 482 (by decide) (by decide)]; exact a4
  · rw [h2 483 (by decide) (by decide)]; exact a5
theorem Top.k0 (h : Top K σ m) : 383 ≤ K := h.1
theorem Top.wd (h : Top K σ m) : WD K (σ 0) m := h.2.1
theorem Top.es (h : Top K σ m) : ES (σ 15) m := h.2.2.1
theorem Top.sn (h : Top K σ m) : SN K σ m := h.2.2.2.1
theorem Top.hi (h : Top K σ m) : HI K σ m := h.2.2.2.2.1
theorem Top.tx (h : Top K σ m) : TX σ m := h.2.2.2.2.2.1
theorem Top.fa (h : Top K σ m) : σ 15 1 = m 496 := h.2.2.2.2.2.2
theorem Top.rb (h : Top K σ m) : ∃ N Q, RB (σ 15) m N Q 0 K (σ 0) m := h.wd.rb h.es
theorem HI.cg (h : HI K σ m) (hK : K ≤ L) (hs : ∀ w, 3 ≤ w → w < 15 → ∀ t, t < 467 → σ2 w t = σ w t) (h2 : σ2 15 2 = σ 15 2) (h3 : σ2 15 3 = σ 15 3) (hm : m2 491 = m 491) (hmm : ∀ t, 2000 ≤ t → t < 7760 → m2 t = m t) : HI L σ2 m2 := by
  obtain ⟨c, nx, a1, a2, a3, a4, a5, a6⟩ := h
  refine ⟨c, nx, a1, a2, by rw [h2]; exact a3, by rw [hm]; exact a4, by rw [h3]; exact a5, fun j hj => ?_⟩
  have hl := Nat.mod_lt (nx + 12 - c + j) (by decide : 12 > 0)
  exact ((a6 j hj).cg (hs _ (by omega) (by omega)) (fun t ht => hmm _ (by omega) (by omega))).mono hK
theorem SN.cg (h : SN K σ m) (hK : K ≤ L) (hs : ∀ t, t < 467 → σ2 2 t = σ 2 t) (h0 : σ2 15 0 = σ 15 0) (h14 : ∀ t, 14 ≤ t → t < 18 → σ2 15 t = σ 15 t) (hm : m2 492 = m 492) (h580 : ∀ t, 580 ≤ t → t < 584 → m2 t = m t) (h11 : ∀ t, 1100 ≤ t → t < 1580 → m2 t = m t) : SN L σ2 m2 := by
  refine ⟨by rw [h0, hm]; exact h.1, fun hn => ?_⟩
  rw [hm] at hn
  obtain ⟨a1, a2⟩ := h.2 hn
  exact ⟨(a1.cg hs (fun t ht => h11 _ (by omega) (by omega))).mono hK, a2.cg (fun t x1 x2 => h14 _ (by omega) (by omega)) (fun t x1 x2 => h580 _ (by omega) (by omega))⟩
theorem TX.cg (h : TX σ m) (h4 : σ2 15 4 = σ 15 4) (h20 : ∀ t, 20 ≤ t → t < 60 → σ2 15 t = σ 15 t) (hm : m2 493 = m 493) (h500 : ∀ t, 500 ≤ t → t < 540 → m2 t = m t) : TX σ2 m2 := by
  obtain ⟨L, a1, a2, a3, a4⟩ := h
  exact ⟨L, a1, by rw [h4]; exact a2, by rw [hm]; exact a3, fun j hj => by rw [h20 _ (by omega) (by omega), h500 _ (by omega) (by omega)]; exact a4 j hj⟩
def TP (t : Nat) : Prop := t < 467 ∨ (480 ≤ t ∧ t < 484) ∨ (491 ≤ t ∧ t < 494) ∨ t = 496 ∨ (500 ≤ t ∧ t < 540) ∨ (580 ≤ t ∧ t < 584) ∨ (1100 ≤ t ∧ t < 1580) ∨ (2000 ≤ t ∧ t < 7760)
theorem Top.cg (h : Top K σ m) (hs : ∀ w, ((w = 0 ∨ 2 ≤ w) ∧ w < 15) → ∀ t, t < 467 → σ2 w t = σ w t) (h15 : ∀ t, (t < 5 ∨ (10 ≤ t ∧ t < 60)) → σ2 15 t = σ 15 t) (hm : ∀ t, TP t → m2 t = m t) : Top K σ2 m2 := by
  unfold TP at hm
  refine ⟨h.k0, h.wd.cg (hs 0 (by decide)) (fun t ht => hm t (by omega)), h.es.cg (fun t a b => h15 t (by omega)) (fun t a b => hm t (by omega)), h.sn.cg (Int.le_refl K) (hs 2 (by decide)) (h15 0 (by decide)) (fun t a b => h15 t (by omega)) (hm 492 (by decide)) (fun t a b => hm t (by omega)) (fun t a b => hm t (by omega)), h.hi.cg (Int.le_refl K) (fun w a b => hs w (by omega)) (h15 2 (by decide)) (h15 3 (by decide)) (hm 491 (by decide)) (fun t a b => hm t (by omega)), h.tx.cg (h15 4 (by decide)) (fun t a b => h15 t (by omega)) (hm 493 (by decide)) (fun t a b => hm t (by omega)), ?_⟩
  rw [h15 1 (by decide), hm 496 (by decide)]
  exact h.fa
theorem Top.mx {t : Nat} {x : Int32} (h : Top K σ m) (ht : ¬ TP t) : Top K σ (va_up m t x) := h.cg (fun _ _ _ _ => rfl) (fun _ _ => rfl) (fun t2 h2 => va_up_ne _ _ (fun e => ht (e ▸ h2)))
theorem TP_490 : ¬ TP 490 := by unfold TP; omega
theorem Top.m490 {x : Int32} (h : Top K σ m) : Top K σ (va_up m 490 x) := h.mx TP_490
theorem Top.mono (h : Top K σ m) (hk : K ≤ L) : Top L σ m := ⟨Int.le_trans h.k0 hk, h.wd.mono hk, h.es, h.sn.cg hk (fun _ _ => rfl) rfl (fun _ _ _ => rfl) rfl (fun _ _ _ => rfl) (fun _ _ _ => rfl), h.hi.cg hk (fun _ _ _ _ _ => rfl) rfl rfl rfl (fun _ _ _ => rfl), h.tx, h.fa⟩
theorem RC.mx {t : Nat} {x : Int32} {KK : Int} {lo : Nat → Int} (h : RC KK lo sz M0 N Q c k u m) (ht : 488 ≤ t) : RC KK lo sz (va_up M0 t x) N Q c k u (va_up m t x) := by
  have hc := h.cnts
  refine ⟨fun q hq => ?_, fun q hq => ?_, fun q hq => ?_, h.cnts, ⟨?_, ?_⟩, fun i' j' hi' hj' => ?_, fun p' j' hp' hj' => ?_, h.es.cg (fun _ _ _ => rfl) (fun q a b => va_up_ne _ _ (by omega)), h.lw⟩
  · have := hq.lt hc.1 hc.2.1
    rw [va_up_ne _ _ (by omega)]; exact h.eq q hq
  · by_cases e : q = t
    · subst e; rw [va_up_self, va_up_self]
    · rw [va_up_ne _ _ e, va_up_ne _ _ e]; exact h.rest q hq
  · rw [va_up_ne _ _ (by omega)]; exact h.car q hq
  · rw [va_up_ne _ _ (by omega)]; exact h.nbm
  · rw [va_up_ne _ _ (by omega)]; exact h.npm
  · rw [va_up_ne _ _ (by omega)]; exact h.bd hi' hj'
  · rw [va_up_ne _ _ (by omega)]; exact h.pd hp' hj'
/-- the world row of both is exchanged, the rest stands -/
theorem Top.w0 (h : Top K σ m) (hK : K ≤ L) (hw : WD L u2 m2) (hr : ∀ t, ((480 ≤ t ∧ t < 484) ∨ 491 ≤ t) → m2 t = m t) : Top L (va_up σ 0 u2) m2 := by
  have h0 : ∀ w, ¬ w = 0 → va_up σ 0 u2 w = σ w := fun w hw => va_up_ne _ _ hw
  refine ⟨Int.le_trans h.k0 hK, by rw [va_up_self]; exact hw, ?_, ?_, ?_, ?_, ?_⟩
  · rw [h0 15 (by decide)]
    exact h.es.cg (fun _ _ _ => rfl) (fun t a b => hr t (by omega))
  · exact h.sn.cg hK (fun t _ => by rw [h0 2 (by decide)]) (by rw [h0 15 (by decide)]) (fun t _ _ => by rw [h0 15 (by decide)]) (hr _ (by omega)) (fun t a b => hr t (by omega)) (fun t a b => hr t (by omega))
  · exact h.hi.cg hK (fun w a b t _ => by rw [h0 w (by omega)]) (by rw [h0 15 (by decide)]) (by rw [h0 15 (by decide)]) (hr _ (by omega)) (fun t a b => hr t (by omega))
  · exact h.tx.cg (by rw [h0 15 (by decide)]) (fun t _ _ => by rw [h0 15 (by decide)]) (hr _ (by omega)) (fun t a b => hr t (by omega))
  · rw [h0 15 (by decide), hr 496 (by omega)]; exact h.fa
/-- what a public method owes -/
def PM (cd : String → Int32 → Prop) (K : Int) (σ : Nat → Nat → Int32) (z : RT) (r : Int32 × (Nat → Int32)) : Prop := (match z.1 with | .inl a => r.2 490 = 0 ∧ a = r.1 | .inr E => cd E (r.2 490)) ∧ Top K z.2 r.2 ∧ z.2 16 = σ 16
abbrev xOB : String := "java/lang/IndexOutOfBoundsException"
abbrev xIA : String := "java/lang/IllegalArgumentException"
abbrev xIS : String := "java/lang/IllegalStateException"
abbrev xNS : String := "java/util/NoSuchElementException"
abbrev xAR : String := "java/lang/ArithmeticException"
abbrev xUO : String := "java/lang/UnsupportedOperationException"
def cd1 (a : String) (E : String) (n : Int32) : Prop := E = a ∧ n = 1
def cd2 (a b : String) (E : String) (n : Int32) : Prop := (E = a ∧ n = 1) ∨ (E = b ∧ n = 2)
def cd3 (a b c : String) (E : String) (n : Int32) : Prop := (E = a ∧ n = 1) ∨ (E = b ∧ n = 2) ∨ (E = c ∧ n = 3)
theorem PM.rd {cd : String → Int32 → Prop} {v v2 : Int32} (h : Top K σ m) (e : v = v2) : PM cd K σ (.inl v, σ) (v2, va_up m 490 0) := ⟨⟨(show va_up m 490 0 490 = 0 from va_up_self m 490 0), e⟩, h.m490, rfl⟩
theorem PM.fl {cd : String → Int32 → Prop} {v n : Int32} {E : String} (h : Top K σ m) (hc : cd E n) : PM cd K σ (.inr E, σ) (v, va_up m 490 n) := ⟨by show cd E (va_up m 490 n 490); rw [va_up_self]; exact hc, h.m490, rfl⟩
theorem bndx_l {r : Int32} {s : Nat → Nat → Int32} {f : Int32 → (Nat → Nat → Int32) → RT} : bndx (.inl r, s) f = f r s := (Eq.refl (f r s)).trans (Eq.refl (f r s))
theorem bndx_r {E : String} {s : Nat → Nat → Int32} {f : Int32 → (Nat → Nat → Int32) → RT} : bndx (.inr E, s) f = (.inr E, s) := (Eq.refl ((.inr E, s) : RT)).trans (Eq.refl ((.inr E, s) : RT))
theorem fails_e {n : Int32} : f7_fails m n = (0, va_up m 490 n) := by unfold f7_fails; simp only [bnd_e]
theorem refuses_e {n : Int32} : f7_refuses m n = (0, va_up m 490 n) := by unfold f7_refuses; simp only [bnd_e]
theorem rq0 : f6_require σ 0 = (.inr xIA, σ) := if_pos rfl
theorem rq1 {r : Int32} (h : ¬ r = 0) : f6_require σ r = (.inl 0, σ) := if_neg h
theorem wi_e {a b c : Int32} : f6_isWithin a b c = f7_isBetween a b c := (Eq.refl (f6_isWithin a b c)).trans (Eq.refl (f6_isWithin a b c))
theorem bt_bl {a b c : Int32} : f7_isBetween a b c = 0 ∨ f7_isBetween a b c = 1 := by
  unfold f7_isBetween
  split
  · exact Or.inl rfl
  · split
    · exact Or.inl rfl
    · exact Or.inr rfl
theorem bt_in {a b c : Int32} (h : ¬ f7_isBetween a b c = 0) : b.toInt ≤ a.toInt ∧ a.toInt ≤ c.toInt := by
  obtain ⟨h1, h2⟩ := btw rfl h
  rw [ti_lt] at h1 h2
  omega
/-- requireBody: isBody -/
theorem rqB {a : Int32} (h : Top K σ m) : (f6_requireBody σ a = (.inr xOB, σ) ∧ f7_isBody m a = 0) ∨ (∃ N Q i, RB (σ 15) m N Q 0 K (σ 0) m ∧ i < N ∧ a = nI i ∧ f6_requireBody σ a = (.inl 0, σ) ∧ f7_isBody m a = 1) := by
  obtain ⟨N, Q, hr⟩ := h.rb
  have hc := hr.cnts
  have hs : (m 464 - 1).toInt = (m 464).toInt - 1 := ti_s1 (by rw [hr.nbm]; omega)
  have hn := hr.nbm
  unfold f6_requireBody f7_isBody f6_isWithin
  simp only [bnd_e]
  rw [hr.e4]
  by_cases c1 : a < 0
  · rw [if_pos c1, if_pos c1, if_pos rfl]; exact Or.inl ⟨rfl, rfl⟩
  · rw [if_neg c1, if_neg c1]
    by_cases c2 : m 464 ≤ a
    · rw [if_pos c2]
      rw [ti_le] at c2
      rw [if_pos (ti_lt.mpr (by omega)), if_pos rfl]; exact Or.inl ⟨rfl, rfl⟩
    · rw [if_neg c2]
      obtain ⟨i, hi, e⟩ := hr.bi (ge0_of c1) c2
      rw [ti_le] at c2
      rw [if_neg (c := m 464 - 1 < a) (fun z => by rw [ti_lt] at z; omega), if_neg n10]
      exact Or.inr ⟨N, Q, i, hr, hi, e, rfl, rfl⟩
theorem rqP {a : Int32} (h : Top K σ m) : (f6_requirePlatform σ a = (.inr xOB, σ) ∧ f7_isPlatform m a = 0) ∨ (∃ N Q i, RB (σ 15) m N Q 0 K (σ 0) m ∧ i < Q ∧ a = nI i ∧ f6_requirePlatform σ a = (.inl 0, σ) ∧ f7_isPlatform m a = 1) := by
  obtain ⟨N, Q, hr⟩ := h.rb
  have hc := hr.cnts
  have hs : (m 465 - 1).toInt = (m 465).toInt - 1 := ti_s1 (by rw [hr.npm]; omega)
  have hn := hr.npm
  unfold f6_requirePlatform f7_isPlatform f6_isWithin
  simp only [bnd_e]
  rw [hr.e5]
  by_cases c1 : a < 0
  · rw [if_pos c1, if_pos c1, if_pos rfl]; exact Or.inl ⟨rfl, rfl⟩
  · rw [if_neg c1, if_neg c1]
    by_cases c2 : m 465 ≤ a
    · rw [if_pos c2]
      rw [ti_le] at c2
      rw [if_pos (ti_lt.mpr (by omega)), if_pos rfl]; exact Or.inl ⟨rfl, rfl⟩
    · rw [if_neg c2]
      obtain ⟨i, hi, e⟩ := hr.pi (ge0_of c1) c2
      rw [ti_le] at c2
      rw [if_neg (c := m 465 - 1 < a) (fun z => by rw [ti_lt] at z; omega), if_neg n10]
      exact Or.inr ⟨N, Q, i, hr, hi, e, rfl, rfl⟩
theorem rqT {a b : Int32} : (f6_requireTile σ a b = (.inr xOB, σ) ∧ f7_isTile a b = 0) ∨ (f6_requireTile σ a b = (.inl 0, σ) ∧ f7_isTile a b = 1 ∧ ¬ a < 0 ∧ a < 24 ∧ ¬ b < 0 ∧ b < 14) := by
  have t23 : ((23 : Int32)).toInt = 23 := rfl
  have t24 : ((24 : Int32)).toInt = 24 := rfl
  have t13 : ((13 : Int32)).toInt = 13 := rfl
  have t14 : ((14 : Int32)).toInt = 14 := rfl
  have x1 : (23 < a) ↔ 24 ≤ a := by rw [ti_lt, ti_le]; omega
  have x2 : (13 < b) ↔ 14 ≤ b := by rw [ti_lt, ti_le]; omega
  have y1 : (¬ 24 ≤ a) → a < 24 := by rw [ti_lt, ti_le]; omega
  have y2 : (¬ 14 ≤ b) → b < 14 := by rw [ti_lt, ti_le]; omega
  unfold f6_requireTile f7_isTile f6_isTile f6_isWithin
  simp only [bnd_e, x1, x2]
  by_cases c1 : a < 0
  · simp only [if_pos c1, if_true]; exact Or.inl ⟨by first | rfl | trivial, by first | rfl | trivial⟩
  · by_cases c2 : 24 ≤ a
    · simp only [if_neg c1, if_pos c2, if_true]; exact Or.inl ⟨by first | rfl | trivial, by first | rfl | trivial⟩
    · by_cases c3 : b < 0
      · simp only [if_neg c1, if_neg c2, if_pos c3, if_true, if_neg n10]; exact Or.inl ⟨by first | rfl | trivial, by first | rfl | trivial⟩
      · by_cases c4 : 14 ≤ b
        · simp only [if_neg c1, if_neg c2, if_neg c3, if_pos c4, if_true, if_neg n10]; exact Or.inl ⟨by first | rfl | trivial, by first | rfl | trivial⟩
        · simp only [if_neg c1, if_neg c2, if_neg c3, if_neg c4, if_neg n10]
          exact Or.inr ⟨by first | rfl | trivial, by first | rfl | trivial, c1, y1 c2, c3, y2 c4⟩
end
