/-! PURE: addPlatform, removeBody, removePlatform -/
section
variable {sz M0 : Nat → Int32} {N Q c : Nat} {k K L : Int} {u w m u2 w2 m2 : Nat → Int32} {i j p : Nat} {σ σ2 : Nat → Nat → Int32}
def PV (a b c d e f : Int32) (j : Nat) : Int32 := if j = 0 then a else if j = 1 then b else if j = 2 then c else if j = 3 then d else if j = 4 then e else f
theorem pbeg_fr {a b c d e f : Int32} {t : Nat} (ht : t < 432+8*i ∨ 432+8*i+7 ≤ t) : f2_begin u i a b c d e f t = u t := by
  unfold f2_begin
  simp only [bnd_e]
  repeat first | rw [va_up_ne _ _ (by omega)]
theorem pbeg_in {a b c d e f : Int32} (hj : j < 7) : f2_begin u i a b c d e f (432+8*i+j) = PV a b c d e f j := by
  unfold f2_begin
  simp only [bnd_e]
  rcases (show j = 0 ∨ j = 1 ∨ j = 2 ∨ j = 3 ∨ j = 4 ∨ j = 5 ∨ j = 6 by omega) with rfl | rfl | rfl | rfl | rfl | rfl | rfl
  · repeat first | rw [va_up_self] | rw [va_up_ne _ _ (by omega)]
    rfl
  · repeat first | rw [va_up_self] | rw [va_up_ne _ _ (by omega)]
    rfl
  · repeat first | rw [va_up_self] | rw [va_up_ne _ _ (by omega)]
    rfl
  · repeat first | rw [va_up_self] | rw [va_up_ne _ _ (by omega)]
    rfl
  · repeat first | rw [va_up_self] | rw [va_up_ne _ _ (by omega)]
    rfl
  · repeat first | rw [va_up_self] | rw [va_up_ne _ _ (by omega)]
    rfl
  · repeat first | rw [va_up_self] | rw [va_up_ne _ _ (by omega)]
    rfl
theorem t_addPlatform {a b w dx dy rg : Int32} (h : Top K σ m) : PM (cd2 xIA xIS) K σ (f6_addPlatform σ a b w dx dy rg) (f7_addPlatform m a b w dx dy rg) := by
  obtain ⟨N, Q, hr⟩ := h.rb
  have hc := hr.cnts
  have t383 : ((383 : Int32)).toInt = 383 := rfl
  have t223 : ((223 : Int32)).toInt = 223 := rfl
  have t16 : ((16 : Int32)).toInt = 16 := rfl
  have t64 : ((64 : Int32)).toInt = 64 := rfl
  have hfl : PM (cd2 xIA xIS) K σ (.inr xIA, σ) (0, va_up m 490 1) := PM.fl h (Or.inl ⟨rfl, rfl⟩)
  have hk0 := h.k0
  unfold f6_addPlatform f6_addPlatform_b26 f6_addPlatform_b27 f6_addPlatform_b56 f6_addPlatform_b57 f6_addPlatform_b86 f6_addPlatform_b87 f7_addPlatform
  simp only [bnd_e, fails_k, wi_e]
  by_cases d1 : f7_isBetween a 0 383 = 0
  · rw [if_pos d1, if_pos d1, rq0, bndx_r]; exact hfl
  · rw [if_neg d1, if_neg d1]
    by_cases d2 : f7_isBetween b 0 223 = 0
    · rw [if_pos d2, if_pos d2, rq0, bndx_r]; exact hfl
    · rw [if_neg d2, if_neg d2, rq1 n10, bndx_l]
      by_cases d3 : f7_isBetween w 16 64 = 0
      · rw [if_pos d3, if_pos d3, rq0, bndx_r]; exact hfl
      · rw [if_neg d3, if_neg d3]
        by_cases d6 : f7_isBetween rg 1 60 = 0
        · rw [if_pos d6, rq0, bndx_r, if_pos d6]
          simp only [ite_self]
          exact hfl
        · rw [if_neg d6, rq1 n10, bndx_l, if_neg d6]
          by_cases d4 : f7_isBetween dx (-2) 2 = 0
          · rw [if_pos d4, if_pos d4, rq0, bndx_r]; exact hfl
          · rw [if_neg d4, if_neg d4]
            by_cases d5 : f7_isBetween dy (-2) 2 = 0
            · rw [if_pos d5, if_pos d5, rq0, bndx_r]; exact hfl
            · rw [if_neg d5, if_neg d5, rq1 n10, bndx_l, hr.e5, hr.pn]
              by_cases d7 : Q = 4
              · rw [if_neg (fun z => by have := (i4_lt Q hc.2.1).1.mp z; omega), if_pos ((i4_lt Q hc.2.1).2.mpr d7)]
                exact PM.fl h (Or.inr ⟨rfl, rfl⟩)
              · have hQ : Q < 4 := by omega
                rw [if_pos ((i4_lt Q hc.2.1).1.mpr hQ), if_neg (fun z => d7 ((i4_lt Q hc.2.1).2.mp z)), nI_clamp (by omega), va_up_self]
                have b1 := bt_in d1
                have b2 := bt_in d2
                have b3 := bt_in d3
                have b4 := bt_in d4
                have b5 := bt_in d5
                rw [t_0, t383] at b1
                rw [t_0, t223] at b2
                rw [t16, t64] at b3
                rw [t_m2, t_2] at b4 b5
                rw [q_0 hQ, q_1 hQ, q_2 hQ, q_3 hQ, q_4 hQ, q_5 hQ, q_6 hQ]
                have hRt : ∀ t, ¬ (432+8*Q ≤ t ∧ t < 432+8*Q+7) → ¬ t = 490 → ¬ t = 491 → va_up (va_up (va_up (va_up (va_up (va_up (va_up (va_up (va_up m 490 0) 491 0) (432+8*Q+0) a) (432+8*Q+1) b) (432+8*Q+2) w) (432+8*Q+3) dx) (432+8*Q+4) dy) (432+8*Q+5) rg) (432+8*Q+6) rg t = m t := fun t x1 x2 x3 => by
                  repeat first | rw [va_up_ne _ _ (by omega)]
                have hRj : ∀ j, j < 7 → va_up (va_up (va_up (va_up (va_up (va_up (va_up (va_up (va_up m 490 0) 491 0) (432+8*Q+0) a) (432+8*Q+1) b) (432+8*Q+2) w) (432+8*Q+3) dx) (432+8*Q+4) dy) (432+8*Q+5) rg) (432+8*Q+6) rg (432+8*Q+j) = PV a b w dx dy rg j := fun j hj => by
                  rcases (show j = 0 ∨ j = 1 ∨ j = 2 ∨ j = 3 ∨ j = 4 ∨ j = 5 ∨ j = 6 by omega) with rfl | rfl | rfl | rfl | rfl | rfl | rfl
                  · repeat first | rw [va_up_self] | rw [va_up_ne _ _ (by omega)]
                    rfl
                  · repeat first | rw [va_up_self] | rw [va_up_ne _ _ (by omega)]
                    rfl
                  · repeat first | rw [va_up_self] | rw [va_up_ne _ _ (by omega)]
                    rfl
                  · repeat first | rw [va_up_self] | rw [va_up_ne _ _ (by omega)]
                    rfl
                  · repeat first | rw [va_up_self] | rw [va_up_ne _ _ (by omega)]
                    rfl
                  · repeat first | rw [va_up_self] | rw [va_up_ne _ _ (by omega)]
                    rfl
                  · repeat first | rw [va_up_self] | rw [va_up_ne _ _ (by omega)]
                    rfl
                have hR490 : va_up (va_up (va_up (va_up (va_up (va_up (va_up (va_up (va_up m 490 0) 491 0) (432+8*Q+0) a) (432+8*Q+1) b) (432+8*Q+2) w) (432+8*Q+3) dx) (432+8*Q+4) dy) (432+8*Q+5) rg) (432+8*Q+6) rg 490 = 0 := by
                  repeat first | rw [va_up_self] | rw [va_up_ne _ _ (by omega)]
                have hR491 : va_up (va_up (va_up (va_up (va_up (va_up (va_up (va_up (va_up m 490 0) 491 0) (432+8*Q+0) a) (432+8*Q+1) b) (432+8*Q+2) w) (432+8*Q+3) dx) (432+8*Q+4) dy) (432+8*Q+5) rg) (432+8*Q+6) rg 491 = 0 := by
                  repeat first | rw [va_up_self] | rw [va_up_ne _ _ (by omega)]
                generalize va_up (va_up (va_up (va_up (va_up (va_up (va_up (va_up (va_up m 490 0) 491 0) (432+8*Q+0) a) (432+8*Q+1) b) (432+8*Q+2) w) (432+8*Q+3) dx) (432+8*Q+4) dy) (432+8*Q+5) rg) (432+8*Q+6) rg = R at hRt hRj hR490 hR491
                have hBt : ∀ t, ¬ (432+8*Q ≤ t ∧ t < 432+8*Q+7) → f2_begin (σ 0) Q a b w dx dy rg t = σ 0 t := fun t x1 => pbeg_fr (by omega)
                have hBj : ∀ j, j < 7 → f2_begin (σ 0) Q a b w dx dy rg (432+8*Q+j) = PV a b w dx dy rg j := fun j hj => pbeg_in hj
                generalize f2_begin (σ 0) Q a b w dx dy rg = B at hBt hBj
                rw [hRt 465 (by omega) (by decide) (by decide), hr.pn, nI_s, fg_e]
                have ew : va_up (va_up (va_up σ 0 B) 0 (va_up B 465 (nI (Q+1)))) 15 (va_up (va_up (va_up σ 0 B) 0 (va_up B 465 (nI (Q+1))) 15) 2 0) 0 = va_up B 465 (nI (Q+1)) := by
                  rw [va_up_ne _ _ (by decide), va_up_self]
                have e15 : va_up (va_up (va_up σ 0 B) 0 (va_up B 465 (nI (Q+1)))) 15 (va_up (va_up (va_up σ 0 B) 0 (va_up B 465 (nI (Q+1))) 15) 2 0) 15 = va_up (σ 15) 2 0 := by
                  rw [va_up_self, va_up_ne _ _ (by decide), va_up_ne _ _ (by decide)]
                have er : ∀ r, ¬ r = 0 → ¬ r = 15 → va_up (va_up (va_up σ 0 B) 0 (va_up B 465 (nI (Q+1)))) 15 (va_up (va_up (va_up σ 0 B) 0 (va_up B 465 (nI (Q+1))) 15) 2 0) r = σ r := fun r x1 x2 => by
                  rw [va_up_ne _ _ x2, va_up_ne _ _ x1, va_up_ne _ _ x1]
                generalize va_up (va_up (va_up σ 0 B) 0 (va_up B 465 (nI (Q+1)))) 15 (va_up (va_up (va_up σ 0 B) 0 (va_up B 465 (nI (Q+1))) 15) 2 0) = σf at ew e15 er
                refine ⟨⟨?_, rfl⟩, ?_, er 16 (by decide) (by decide)⟩
                · show va_up R 465 (nI (Q+1)) 490 = 0
                  rw [va_up_ne _ _ (by decide)]; exact hR490
                · show Top K σf (va_up R 465 (nI (Q+1)))
                  refine h.nw (Int.le_refl K) ?_ (fun t _ => by rw [er 2 (by decide) (by decide)]) (fun t ht => by rw [e15, va_up_ne _ _ ht]) (by rw [e15, va_up_self]) (fun t ht h4 h5 => ?_) ?_
                  · rw [ew]
                    refine ⟨N, Q+1, fun t ht => ?_, ⟨hc.1, by omega⟩, ⟨?_, ?_⟩, fun i j hi hj => ?_, fun p j hp hj => ?_⟩
                    · by_cases e4 : t = 465
                      · subst e4; rw [va_up_self, va_up_self]
                      · rw [va_up_ne _ _ e4, va_up_ne _ _ e4]
                        by_cases eN : 432+8*Q ≤ t ∧ t < 432+8*Q+7
                        · rw [show t = 432+8*Q+(t-(432+8*Q)) by omega, hBj _ (by omega), hRj _ (by omega)]
                        · have hlt := ht.lt hc.1 (by omega)
                          rw [hBt t eN, hRt t eN (by omega) (by omega)]
                          refine hr.eq t ?_
                          rcases id ht with q1 | q1 | ⟨i, j, q1, q2, q3⟩ | q1
                          · exact Or.inl q1
                          · exact Or.inr (Or.inl q1)
                          · exact Or.inr (Or.inr (Or.inl ⟨i, j, by omega, q2, q3⟩))
                          · exact Or.inr (Or.inr (Or.inr q1))
                    · rw [va_up_ne _ _ (by decide), hRt 464 (by omega) (by decide) (by decide)]; exact hr.nbm
                    · rw [va_up_self, nI_toInt (by omega)]
                    · rw [va_up_ne _ _ (by omega), hRt _ (by omega) (by omega) (by omega)]
                      exact hr.bd hi hj
                    · rw [va_up_ne _ _ (by omega)]
                      by_cases eN : p = Q
                      · subst eN
                        rw [hRj j hj]
                        rcases (show j = 0 ∨ j = 1 ∨ j = 2 ∨ j = 3 ∨ j = 4 ∨ j = 5 ∨ j = 6 by omega) with rfl | rfl | rfl | rfl | rfl | rfl | rfl
                        · exact (⟨by omega, by omega⟩ : -(K + 0) ≤ a.toInt ∧ a.toInt ≤ K + 0)
                        · exact (⟨by omega, by omega⟩ : -(K + 0) ≤ b.toInt ∧ b.toInt ≤ K + 0)
                        · exact b3
                        · exact b4
                        · exact b5
                        · exact trivial
                        · exact trivial
                      · rw [hRt _ (by omega) (by omega) (by omega)]
                        exact hr.pd (by omega) hj
                  · have : ¬ t = 490 := fun e => TP_490 (e ▸ ht)
                    rw [va_up_ne _ _ (by omega), hRt t (by omega) this h5]
                  · rw [va_up_ne _ _ (by decide)]; exact hR491
/-- dropOutBody leaves the platforms -/
theorem dropB_p {w : Nat} : ∀ (n : Nat) (c : Int32) (σ : Nat → Nat → Int32), 0 ≤ c.toInt → c.toInt < 4 → (σ w 464).toInt ≤ 4 → (4 - c.toInt).toNat < n → ∀ t, 432 ≤ t → t < 464 → f5_dropOutBody_L2 w n c σ w t = σ w t := by
  intro n
  induction n with
  | zero => intro c σ h0 hc4 h4 hn; omega
  | succ n ih =>
    intro c σ h0 hc4 h4 hn t ht1 ht2
    rw [f5_dropOutBody_L2]
    simp only [bnd_e]
    have hs := i4_step h0 hc4
    have hc := clampI h0
    have hx := nx_clamp h0 hc4
    by_cases hl : σ w 464 ≤ c + 1
    · rw [if_pos hl, va_up_self, va_up_ne _ _ (by omega)]
    · rw [if_neg hl]
      rw [Int32.le_iff_toInt_le] at hl
      have hn2 : ¬ (w = w ∧ c.toNatClampNeg = (c + 1).toNatClampNeg) := fun z => by have := z.2; omega
      have hf : f0_copyFrom σ w c.toNatClampNeg w (c + 1).toNatClampNeg w 464 = σ w 464 := copyB_fr hn2 (Or.inr (Or.inr (by omega)))
      rw [ih (c + 1) (f0_copyFrom σ w c.toNatClampNeg w (c + 1).toNatClampNeg) (by omega) (by omega) (by rw [hf]; exact h4) (by omega) t ht1 ht2]
      exact copyB_fr hn2 (Or.inr (Or.inr (by omega)))
theorem rb_L52 {f : Int32 → (Nat → Int32) → Int32 × (Nat → Int32)} {b : Nat} (hb : b < 3) : ∀ (n q : Nat) (m : Nat → Int32), q ≤ 24 → 24 < n + q → f7_removeBody_L52 f (nI b) n (nI q) m = f (nI (b+1)) (fun t => if 336+24*b+q ≤ t ∧ t < 336+24*b+24 then m (t+24) else m t) := by
  intro n
  induction n with
  | zero => intro q u h1 h2; omega
  | succ n ih =>
    intro q m hq hn
    have t24 : ((24 : Int32)).toInt = 24 := rfl
    rw [f7_removeBody_L52]
    simp only [bnd_e]
    by_cases c0 : 24 ≤ nI q
    · rw [if_pos c0, nI_s]
      rw [ti_le, t24, nI_toInt (by omega)] at c0
      congr 1
      funext t
      rw [if_neg (by omega)]
    · rw [if_neg c0]
      rw [ti_le, t24, nI_toInt (by omega)] at c0
      have hs : ∀ x, f7_sets m (nI b) (nI q) x = va_up m (336+24*b+q) x := fun x => by
        have := sets_c (u := m) (c := x) (k := q) (vp_in_nI (show b < 4 by omega) (by decide)) (by omega)
        rw [nI_clamp (by omega)] at this
        exact this
      rw [nI_s (q := b), of_nI (by omega) (by omega), hs, nI_s (q := q), ih (q+1) _ (by omega) (by omega)]
      congr 1
      funext t
      by_cases e2 : t = 336+24*b+q
      · subst e2; rw [if_neg (by omega), if_pos (by omega), va_up_self, show 336+24*b+q+24 = 336+24*(b+1)+q by omega]
      · by_cases c1 : 336+24*b+q ≤ t ∧ t < 336+24*b+24
        · rw [if_pos (by omega), if_pos c1, va_up_ne _ _ (by omega)]
        · rw [if_neg (by omega), if_neg c1, va_up_ne _ _ e2]
theorem rb_L38 {N2 : Nat} (hN : N2 ≤ 3) : ∀ (n b : Nat) (m : Nat → Int32), m 464 = nI N2 → b ≤ N2 → N2 < n + b → f7_removeBody_L38 n (nI b) m = (nI N2, fun t => if 336+24*b ≤ t ∧ t < 336+24*N2 then m (t+24) else m t) := by
  intro n
  induction n with
  | zero => intro q u h0 h1 h2; omega
  | succ n ih =>
    intro b m h0 hq hn
    rw [f7_removeBody_L38, h0]
    by_cases c0 : nI N2 ≤ nI b
    · rw [if_pos c0]
      rw [ti_le, nI_toInt (by omega), nI_toInt (by omega)] at c0
      congr 1
      funext t
      rw [if_neg (by omega)]
    · rw [if_neg c0]
      rw [ti_le, nI_toInt (by omega), nI_toInt (by omega)] at c0
      have e := rb_L52 (f := f7_removeBody_L38 n) (b := b) (by omega) BIG 0 m (Nat.zero_le _) (by unfold BIG; omega)
      rw [show (nI 0 : Int32) = 0 from rfl] at e
      rw [e, ih (b+1) _ (by show (if _ then _ else _) = _; rw [if_neg (by omega)]; exact h0) (by omega) (by omega)]
      congr 1
      funext t
      by_cases c1 : 336+24*b ≤ t ∧ t < 336+24*b+24
      · rw [if_neg (by omega), if_pos (by omega), if_pos (by omega)]
      · by_cases c2 : 336+24*(b+1) ≤ t ∧ t < 336+24*N2
        · rw [if_pos c2, if_neg (by omega), if_pos (by omega)]
        · rw [if_neg c2, if_neg (by omega), if_neg (by omega)]
theorem nI_d {n : Nat} (h : 0 < n) (h2 : n < 1000) : nI n - 1 = nI (n - 1) := by
  refine ti_inj ?_
  rw [ti_s1 (by rw [nI_toInt (by omega)]; omega), nI_toInt (by omega), nI_toInt (by omega)]
  omega
theorem t_removeBody {a : Int32} (h : Top K σ m) : PM (cd1 xOB) K σ (f6_removeBody σ a) (f7_removeBody m a) := by
  unfold f6_removeBody f7_removeBody
  simp only [bnd_e, fails_k]
  rcases rqB (a := a) h with ⟨e1, e2⟩ | ⟨N, Q, i, hr, hi, rfl, e1, e2⟩
  · rw [e1, bndx_r, e2, if_pos rfl]; exact PM.fl h ⟨rfl, rfl⟩
  · have h4 := hr.i4 hi
    have hc := hr.cnts
    have hi0 : 0 ≤ (nI i).toInt := by rw [nI_toInt (by omega)]; omega
    have hi4 : (nI i).toInt < 4 := by rw [nI_toInt (by omega)]; omega
    have ht4 : (nI i).toInt = i := nI_toInt (by omega)
    have hu4 : (σ 0 464).toInt = N := by rw [hr.e4]; exact hr.nbm
    obtain ⟨c1, c2, c3, c4⟩ := dropB_ch (w := 0) BIG (nI i) σ hi0 hi4 (by omega) (big_i4 _)
    have c5 := dropB_p (w := 0) BIG (nI i) σ hi0 hi4 (by omega) (big_i4 _)
    rw [e1, bndx_l, e2, if_neg n10, fg_e]
    have eD : f5_dropOutBody σ 0 (nI i) = f5_dropOutBody_L2 0 BIG (nI i) σ := rfl
    rw [eD]
    generalize f5_dropOutBody_L2 0 BIG (nI i) σ = S at c1 c2 c3 c4 c5
    rw [va_up_ne (k := 491) (j := 464) _ _ (by decide), va_up_ne (k := 490) (j := 464) _ _ (by decide), hr.bn, nI_d (by omega) (by omega)]
    rw [rb_L38 (N2 := N - 1) (by omega) BIG i _ (va_up_self _ _ _) (by omega) (by unfold BIG; omega)]
    have hRt : ∀ t, (t < 336 ∨ 432 ≤ t) → ¬ t = 464 → ¬ t = 490 → ¬ t = 491 → (if 336+24*i ≤ t ∧ t < 336+24*(N-1) then va_up (va_up (va_up m 490 0) 491 0) 464 (nI (N-1)) (t+24) else va_up (va_up (va_up m 490 0) 491 0) 464 (nI (N-1)) t) = m t := fun t x1 x2 x3 x4 => by
      rw [if_neg (by omega), va_up_ne _ _ x2, va_up_ne _ _ x4, va_up_ne _ _ x3]
    have hRb : ∀ b j, b < N - 1 → j < 24 → (if 336+24*i ≤ 336+24*b+j ∧ 336+24*b+j < 336+24*(N-1) then va_up (va_up (va_up m 490 0) 491 0) 464 (nI (N-1)) (336+24*b+j+24) else va_up (va_up (va_up m 490 0) 491 0) 464 (nI (N-1)) (336+24*b+j)) = if i ≤ b then m (336+24*(b+1)+j) else m (336+24*b+j) := fun b j x1 x2 => by
      by_cases e : i ≤ b
      · rw [if_pos (by omega), if_pos e, va_up_ne _ _ (by omega), va_up_ne _ _ (by omega), va_up_ne _ _ (by omega), show 336+24*b+j+24 = 336+24*(b+1)+j by omega]
      · rw [if_neg (by omega), if_neg e, va_up_ne _ _ (by omega), va_up_ne _ _ (by omega), va_up_ne _ _ (by omega)]
    have hR4 : (if 336+24*i ≤ 464 ∧ 464 < 336+24*(N-1) then va_up (va_up (va_up m 490 0) 491 0) 464 (nI (N-1)) (464+24) else va_up (va_up (va_up m 490 0) 491 0) 464 (nI (N-1)) 464) = nI (N-1) := by
      rw [if_neg (by omega), va_up_self]
    have hR0 : (if 336+24*i ≤ 490 ∧ 490 < 336+24*(N-1) then va_up (va_up (va_up m 490 0) 491 0) 464 (nI (N-1)) (490+24) else va_up (va_up (va_up m 490 0) 491 0) 464 (nI (N-1)) 490) = (0 : Int32) := by
      rw [if_neg (by omega), va_up_ne _ _ (by decide), va_up_ne _ _ (by decide), va_up_self]
    have hR1 : (if 336+24*i ≤ 491 ∧ 491 < 336+24*(N-1) then va_up (va_up (va_up m 490 0) 491 0) 464 (nI (N-1)) (491+24) else va_up (va_up (va_up m 490 0) 491 0) 464 (nI (N-1)) 491) = (0 : Int32) := by
      rw [if_neg (by omega), va_up_ne _ _ (by decide), va_up_self]
    generalize hR : (fun t => if 336+24*i ≤ t ∧ t < 336+24*(N-1) then va_up (va_up (va_up m 490 0) 491 0) 464 (nI (N-1)) (t+24) else va_up (va_up (va_up m 490 0) 491 0) 464 (nI (N-1)) t) = R
    have hRt : ∀ t, (t < 336 ∨ 432 ≤ t) → ¬ t = 464 → ¬ t = 490 → ¬ t = 491 → R t = m t := fun t x1 x2 x3 x4 => (congrFun hR t).symm.trans (hRt t x1 x2 x3 x4)
    have hRb : ∀ b j, b < N - 1 → j < 24 → R (336+24*b+j) = if i ≤ b then m (336+24*(b+1)+j) else m (336+24*b+j) := fun b j x1 x2 => (congrFun hR _).symm.trans (hRb b j x1 x2)
    have hR4 : R 464 = nI (N-1) := (congrFun hR 464).symm.trans hR4
    have hR0 : R 490 = 0 := (congrFun hR 490).symm.trans hR0
    have hR1 : R 491 = 0 := (congrFun hR 491).symm.trans hR1
    have hS4 : S 0 464 = nI (N-1) := by rw [c2, hr.e4, hr.bn, nI_d (by omega) (by omega)]
    have ew : va_up S 15 (va_up (S 15) 2 0) 0 = S 0 := va_up_ne _ _ (by decide)
    have hSr : ∀ r, ¬ r = 0 → S r = σ r := fun r x1 => funext (fun t => c1 r t (Or.inl x1))
    have e15 : va_up S 15 (va_up (S 15) 2 0) 15 = va_up (σ 15) 2 0 := by rw [va_up_self, hSr 15 (by decide)]
    have er : ∀ r, ¬ r = 0 → ¬ r = 15 → va_up S 15 (va_up (S 15) 2 0) r = σ r := fun r x1 x2 => by rw [va_up_ne _ _ x2, hSr r x1]
    generalize va_up S 15 (va_up (S 15) 2 0) = σf at ew e15 er
    refine ⟨⟨hR0, ?_⟩, ?_, er 16 (by decide) (by decide)⟩
    · show σf 0 464 = nI (N-1)
      rw [ew]; exact hS4
    · show Top K σf R
      refine h.nw (Int.le_refl K) ?_ (fun t _ => by rw [er 2 (by decide) (by decide)]) (fun t ht => by rw [e15, va_up_ne _ _ ht]) (by rw [e15, va_up_self]) (fun t ht h5 h6 => ?_) hR1
      · rw [ew]
        refine ⟨N-1, Q, fun t ht => ?_, ⟨by omega, hc.2.1⟩, ⟨by rw [hR4, nI_toInt (by omega)], by rw [hRt 465 (by omega) (by decide) (by decide) (by decide)]; exact hr.npm⟩, fun b j hb hj => ?_, fun p j hp hj => ?_⟩
        · rcases id ht with q1 | ⟨b, j, q1, q2, rfl⟩ | ⟨b, j, q1, q2, q3⟩ | q1
          · rw [c1 0 t (Or.inr (Or.inl q1)), hRt t (Or.inl q1) (by omega) (by omega) (by omega)]; exact hr.eq t (Or.inl q1)
          · rw [hRb b j q1 (by omega)]
            by_cases e : i ≤ b
            · rw [if_pos e, c3 b j q2 (by omega) (by omega)]
              have eb := hr.B (i := b+1) (by omega) j q2
              unfold bval
              by_cases e11 : j = 11
              · subst e11
                rw [if_pos rfl, eb]
                have hb : (m (336+24*(b+1)+11)).toInt = 0 ∨ (m (336+24*(b+1)+11)).toInt = 1 := hr.bd (i := b+1) (by omega) (by decide : 11 < 22)
                exact bl_nb (hb.imp (fun z => ti_inj z) (fun z => ti_inj z))
              · rw [if_neg e11]; exact eb
            · rw [if_neg e, c4 b j q2 (by omega) (by omega)]; exact hr.B (i := b) (by omega) j q2
          · have hlt := ht.lt (by omega) hc.2.1
            rw [c5 t (by omega) (by omega), hRt t (by omega) (by omega) (by omega) (by omega)]
            exact hr.eq t (Or.inr (Or.inr (Or.inl ⟨b, j, q1, q2, q3⟩)))
          · by_cases e4 : t = 464
            · subst e4; rw [hS4, hR4]
            · rw [c1 0 t (Or.inr (Or.inr (by omega))), hRt t (by omega) e4 (by omega) (by omega)]
              exact hr.eq t (Or.inr (Or.inr (Or.inr q1)))
        · rw [hRb b j hb (by omega)]
          by_cases e : i ≤ b
          · rw [if_pos e]; exact hr.bd (i := b+1) (by omega) hj
          · rw [if_neg e]; exact hr.bd (i := b) (by omega) hj
        · rw [hRt _ (by omega) (by omega) (by omega) (by omega)]; exact hr.pd hp hj
      · have : ¬ t = 490 := fun e => TP_490 (e ▸ ht)
        exact hRt t (by omega) (by omega) this h6
theorem rp_L52 {f : Int32 → (Nat → Int32) → Int32 × (Nat → Int32)} {b : Nat} (hb : b < 3) : ∀ (n q : Nat) (m : Nat → Int32), q ≤ 8 → 8 < n + q → f7_removePlatform_L52 f (nI b) n (nI q) m = f (nI (b+1)) (fun t => if 432+8*b+q ≤ t ∧ t < 432+8*b+8 then m (t+8) else m t) := by
  intro n
  induction n with
  | zero => intro q u h1 h2; omega
  | succ n ih =>
    intro q m hq hn
    have t8 : ((8 : Int32)).toInt = 8 := rfl
    rw [f7_removePlatform_L52]
    simp only [bnd_e]
    by_cases c0 : 8 ≤ nI q
    · rw [if_pos c0, nI_s]
      rw [ti_le, t8, nI_toInt (by omega)] at c0
      congr 1
      funext t
      rw [if_neg (by omega)]
    · rw [if_neg c0]
      rw [ti_le, t8, nI_toInt (by omega)] at c0
      rw [nI_s (q := b), plate_nI (by omega) (by omega), setsP_nI (by omega) (by omega), nI_s (q := q), ih (q+1) _ (by omega) (by omega)]
      congr 1
      funext t
      by_cases e2 : t = 432+8*b+q
      · subst e2; rw [if_neg (by omega), if_pos (by omega), va_up_self, show 432+8*b+q+8 = 432+8*(b+1)+q by omega]
      · by_cases c1 : 432+8*b+q ≤ t ∧ t < 432+8*b+8
        · rw [if_pos (by omega), if_pos c1, va_up_ne _ _ (by omega)]
        · rw [if_neg (by omega), if_neg c1, va_up_ne _ _ e2]
theorem rp_L38 {N2 : Nat} (hN : N2 ≤ 3) : ∀ (n b : Nat) (m : Nat → Int32), m 465 = nI N2 → b ≤ N2 → N2 < n + b → f7_removePlatform_L38 n (nI b) m = (nI N2, fun t => if 432+8*b ≤ t ∧ t < 432+8*N2 then m (t+8) else m t) := by
  intro n
  induction n with
  | zero => intro q u h0 h1 h2; omega
  | succ n ih =>
    intro b m h0 hq hn
    rw [f7_removePlatform_L38, h0]
    by_cases c0 : nI N2 ≤ nI b
    · rw [if_pos c0]
      rw [ti_le, nI_toInt (by omega), nI_toInt (by omega)] at c0
      congr 1
      funext t
      rw [if_neg (by omega)]
    · rw [if_neg c0]
      rw [ti_le, nI_toInt (by omega), nI_toInt (by omega)] at c0
      have e := rp_L52 (f := f7_removePlatform_L38 n) (b := b) (by omega) BIG 0 m (Nat.zero_le _) (by unfold BIG; omega)
      rw [show (nI 0 : Int32) = 0 from rfl] at e
      rw [e, ih (b+1) _ (by show (if _ then _ else _) = _; rw [if_neg (by omega)]; exact h0) (by omega) (by omega)]
      congr 1
      funext t
      by_cases c1 : 432+8*b ≤ t ∧ t < 432+8*b+8
      · rw [if_neg (by omega), if_pos (by omega), if_pos (by omega)]
      · by_cases c2 : 432+8*(b+1) ≤ t ∧ t < 432+8*N2
        · rw [if_pos c2, if_neg (by omega), if_pos (by omega)]
        · rw [if_neg c2, if_neg (by omega), if_neg (by omega)]
theorem t_removePlatform {a : Int32} (h : Top K σ m) : PM (cd1 xOB) K σ (f6_removePlatform σ a) (f7_removePlatform m a) := by
  unfold f6_removePlatform f7_removePlatform
  simp only [bnd_e, fails_k]
  rcases rqP (a := a) h with ⟨e1, e2⟩ | ⟨N, Q, i, hr, hi, rfl, e1, e2⟩
  · rw [e1, bndx_r, e2, if_pos rfl]; exact PM.fl h ⟨rfl, rfl⟩
  · have h4 := hr.p4 hi
    have hc := hr.cnts
    have hi0 : 0 ≤ (nI i).toInt := by rw [nI_toInt (by omega)]; omega
    have hi4 : (nI i).toInt < 4 := by rw [nI_toInt (by omega)]; omega
    have ht4 : (nI i).toInt = i := nI_toInt (by omega)
    have hu4 : (σ 0 465).toInt = Q := by rw [hr.e5]; exact hr.npm
    obtain ⟨c1, c2, c3, c4⟩ := dropP_ch (w := 0) BIG (nI i) σ hi0 hi4 (by omega) (big_i4 _)
    rw [e1, bndx_l, e2, if_neg n10, fg_e]
    have eD : f5_dropOutPlatform σ 0 (nI i) = f5_dropOutPlatform_L2 0 BIG (nI i) σ := rfl
    rw [eD]
    generalize f5_dropOutPlatform_L2 0 BIG (nI i) σ = S at c1 c2 c3 c4
    rw [va_up_ne (k := 491) (j := 465) _ _ (by decide), va_up_ne (k := 490) (j := 465) _ _ (by decide), hr.pn, nI_d (by omega) (by omega)]
    rw [rp_L38 (N2 := Q - 1) (by omega) BIG i _ (va_up_self _ _ _) (by omega) (by unfold BIG; omega)]
    have hRt : ∀ t, (t < 432 ∨ 464 ≤ t) → ¬ t = 465 → ¬ t = 490 → ¬ t = 491 → (if 432+8*i ≤ t ∧ t < 432+8*(Q-1) then va_up (va_up (va_up m 490 0) 491 0) 465 (nI (Q-1)) (t+8) else va_up (va_up (va_up m 490 0) 491 0) 465 (nI (Q-1)) t) = m t := fun t x1 x2 x3 x4 => by
      rw [if_neg (by omega), va_up_ne _ _ x2, va_up_ne _ _ x4, va_up_ne _ _ x3]
    have hRb : ∀ b j, b < Q - 1 → j < 8 → (if 432+8*i ≤ 432+8*b+j ∧ 432+8*b+j < 432+8*(Q-1) then va_up (va_up (va_up m 490 0) 491 0) 465 (nI (Q-1)) (432+8*b+j+8) else va_up (va_up (va_up m 490 0) 491 0) 465 (nI (Q-1)) (432+8*b+j)) = if i ≤ b then m (432+8*(b+1)+j) else m (432+8*b+j) := fun b j x1 x2 => by
      by_cases e : i ≤ b
      · rw [if_pos (by omega), if_pos e, va_up_ne _ _ (by omega), va_up_ne _ _ (by omega), va_up_ne _ _ (by omega), show 432+8*b+j+8 = 432+8*(b+1)+j by omega]
      · rw [if_neg (by omega), if_neg e, va_up_ne _ _ (by omega), va_up_ne _ _ (by omega), va_up_ne _ _ (by omega)]
    have hR4 : (if 432+8*i ≤ 465 ∧ 465 < 432+8*(Q-1) then va_up (va_up (va_up m 490 0) 491 0) 465 (nI (Q-1)) (465+8) else va_up (va_up (va_up m 490 0) 491 0) 465 (nI (Q-1)) 465) = nI (Q-1) := by
      rw [if_neg (by omega), va_up_self]
    have hR0 : (if 432+8*i ≤ 490 ∧ 490 < 432+8*(Q-1) then va_up (va_up (va_up m 490 0) 491 0) 465 (nI (Q-1)) (490+8) else va_up (va_up (va_up m 490 0) 491 0) 465 (nI (Q-1)) 490) = (0 : Int32) := by
      rw [if_neg (by omega), va_up_ne _ _ (by decide), va_up_ne _ _ (by decide), va_up_self]
    have hR1 : (if 432+8*i ≤ 491 ∧ 491 < 432+8*(Q-1) then va_up (va_up (va_up m 490 0) 491 0) 465 (nI (Q-1)) (491+8) else va_up (va_up (va_up m 490 0) 491 0) 465 (nI (Q-1)) 491) = (0 : Int32) := by
      rw [if_neg (by omega), va_up_ne _ _ (by decide), va_up_self]
    generalize hR : (fun t => if 432+8*i ≤ t ∧ t < 432+8*(Q-1) then va_up (va_up (va_up m 490 0) 491 0) 465 (nI (Q-1)) (t+8) else va_up (va_up (va_up m 490 0) 491 0) 465 (nI (Q-1)) t) = R
    have hRt : ∀ t, (t < 432 ∨ 464 ≤ t) → ¬ t = 465 → ¬ t = 490 → ¬ t = 491 → R t = m t := fun t x1 x2 x3 x4 => (congrFun hR t).symm.trans (hRt t x1 x2 x3 x4)
    have hRb : ∀ b j, b < Q - 1 → j < 8 → R (432+8*b+j) = if i ≤ b then m (432+8*(b+1)+j) else m (432+8*b+j) := fun b j x1 x2 => (congrFun hR _).symm.trans (hRb b j x1 x2)
    have hR4 : R 465 = nI (Q-1) := (congrFun hR 465).symm.trans hR4
    have hR0 : R 490 = 0 := (congrFun hR 490).symm.trans hR0
    have hR1 : R 491 = 0 := (congrFun hR 491).symm.trans hR1
    have hS4 : S 0 465 = nI (Q-1) := by rw [c2, hr.e5, hr.pn, nI_d (by omega) (by omega)]
    have ew : va_up S 15 (va_up (S 15) 2 0) 0 = S 0 := va_up_ne _ _ (by decide)
    have hSr : ∀ r, ¬ r = 0 → S r = σ r := fun r x1 => funext (fun t => c1 r t (Or.inl x1))
    have e15 : va_up S 15 (va_up (S 15) 2 0) 15 = va_up (σ 15) 2 0 := by rw [va_up_self, hSr 15 (by decide)]
    have er : ∀ r, ¬ r = 0 → ¬ r = 15 → va_up S 15 (va_up (S 15) 2 0) r = σ r := fun r x1 x2 => by rw [va_up_ne _ _ x2, hSr r x1]
    generalize va_up S 15 (va_up (S 15) 2 0) = σf at ew e15 er
    refine ⟨⟨hR0, ?_⟩, ?_, er 16 (by decide) (by decide)⟩
    · show σf 0 465 = nI (Q-1)
      rw [ew]; exact hS4
    · show Top K σf R
      refine h.nw (Int.le_refl K) ?_ (fun t _ => by rw [er 2 (by decide) (by decide)]) (fun t ht => by rw [e15, va_up_ne _ _ ht]) (by rw [e15, va_up_self]) (fun t ht h5 h6 => ?_) hR1
      · rw [ew]
        refine ⟨N, Q-1, fun t ht => ?_, ⟨hc.1, by omega⟩, ⟨by rw [hRt 464 (by omega) (by decide) (by decide) (by decide)]; exact hr.nbm, by rw [hR4, nI_toInt (by omega)]⟩, fun b j hb hj => ?_, fun p j hp hj => ?_⟩
        · rcases id ht with q1 | ⟨b, j, q1, q2, q3⟩ | ⟨b, j, q1, q2, rfl⟩ | q1
          · rw [c1 0 t (Or.inr (Or.inl (by omega))), hRt t (by omega) (by omega) (by omega) (by omega)]; exact hr.eq t (Or.inl q1)
          · rw [c1 0 t (Or.inr (Or.inl (by omega))), hRt t (by omega) (by omega) (by omega) (by omega)]
            exact hr.eq t (Or.inr (Or.inl ⟨b, j, q1, q2, q3⟩))
          · rw [hRb b j q1 (by omega)]
            by_cases e : i ≤ b
            · rw [if_pos e, c3 b j q2 (by omega) (by omega)]; exact hr.Pq (p := b+1) (by omega) j q2
            · rw [if_neg e, c4 b j q2 (by omega) (by omega)]; exact hr.Pq (p := b) (by omega) j q2
          · by_cases e4 : t = 465
            · subst e4; rw [hS4, hR4]
            · rw [c1 0 t (Or.inr (by omega)), hRt t (by omega) e4 (by omega) (by omega)]
              exact hr.eq t (Or.inr (Or.inr (Or.inr q1)))
        · rw [hRt _ (by omega) (by omega) (by omega) (by omega)]; exact hr.bd hb hj
        · rw [hRb p j hp (by omega)]
          by_cases e : i ≤ p
          · rw [if_pos e]; exact hr.pd (p := p+1) (by omega) hj
          · rw [if_neg e]; exact hr.pd (p := p) (by omega) hj
      · have : ¬ t = 490 := fun e => TP_490 (e ▸ ht)
        exact hRt t (by omega) (by omega) this h6
end
