/-! PURE: addBody, addPlatform, removeBody, removePlatform -/
section
variable {sz M0 : Nat → Int32} {N Q c : Nat} {k K L : Int} {u w m u2 w2 m2 : Nat → Int32} {i j p : Nat} {σ σ2 : Nat → Nat → Int32}
theorem LV4 : LV N Q 464 := Or.inr (Or.inr (Or.inr ⟨by decide, by decide⟩))
theorem LV5 : LV N Q 465 := Or.inr (Or.inr (Or.inr ⟨by decide, by decide⟩))
/-- a live place isn't one of the first dead body -/
theorem LV.nd {t : Nat} (h : LV N Q t) (hN : N < 4) (hQ : Q ≤ 4) : ¬ (336+24*N ≤ t ∧ t < 336+24*N+24) := by
  rcases h with q1 | ⟨i, j, q1, q2, q3⟩ | ⟨i, j, q1, q2, q3⟩ | q1 <;> omega
theorem LV.ndP {t : Nat} (h : LV N Q t) (hN : N ≤ 4) (hQ : Q < 4) : ¬ (432+8*Q ≤ t ∧ t < 432+8*Q+8) := by
  rcases h with q1 | ⟨i, j, q1, q2, q3⟩ | ⟨i, j, q1, q2, q3⟩ | q1 <;> omega
theorem Top.dead (h : Top K σ m) (hr : RB (σ 15) m N Q 0 K (σ 0) m) (hu : ∀ t, LV N Q t → u2 t = σ 0 t) (hm : ∀ t, LV N Q t → m2 t = m t) (hm2 : ∀ t, TP t → 467 ≤ t → m2 t = m t) : Top K (va_up σ 0 u2) m2 := by
  have h0 : ∀ w, ¬ w = 0 → va_up σ 0 u2 w = σ w := fun w hw => va_up_ne _ _ hw
  unfold TP at hm2
  refine ⟨h.k0, by rw [va_up_self]; exact WD.dead hr hu hm, ?_, ?_, ?_, ?_, ?_⟩
  · rw [h0 15 (by decide)]
    exact h.es.cg (fun _ _ _ => rfl) (fun t a b => hm2 t (by omega) (by omega))
  · exact h.sn.cg (Int.le_refl K) (fun t _ => by rw [h0 2 (by decide)]) (by rw [h0 15 (by decide)]) (fun t _ _ => by rw [h0 15 (by decide)]) (hm2 _ (by omega) (by omega)) (fun t a b => hm2 t (by omega) (by omega)) (fun t a b => hm2 t (by omega) (by omega))
  · exact h.hi.cg (Int.le_refl K) (fun w a b t _ => by rw [h0 w (by omega)]) (by rw [h0 15 (by decide)]) (by rw [h0 15 (by decide)]) (hm2 _ (by omega) (by omega)) (fun t a b => hm2 t (by omega) (by omega))
  · exact h.tx.cg (by rw [h0 15 (by decide)]) (fun t _ _ => by rw [h0 15 (by decide)]) (hm2 _ (by omega) (by omega)) (fun t a b => hm2 t (by omega) (by omega))
  · rw [h0 15 (by decide), hm2 496 (by omega) (by omega)]; exact h.fa
theorem i4_lt : ∀ n : Nat, n ≤ 4 → (nI n < 4 ↔ n < 4) ∧ (nI n = 4 ↔ n = 4) := by
  intro n hn
  rcases (show n = 0 ∨ n = 1 ∨ n = 2 ∨ n = 3 ∨ n = 4 by omega) with rfl | rfl | rfl | rfl | rfl <;> decide
theorem RB.bn (h : RB sz M0 N Q c k u m) : m 464 = nI N := ti_inj (by rw [h.nbm, nI_toInt (by have := h.cnts; omega)])
theorem RB.pn (h : RB sz M0 N Q c k u m) : m 465 = nI Q := ti_inj (by rw [h.npm, nI_toInt (by have := h.cnts; omega)])
theorem t_addBody {a b w hh : Int32} (h : Top K σ m) : PM (cd2 xIA xIS) K σ (f6_addBody σ a b w hh) (f7_addBody m a b w hh) := by
  obtain ⟨N, Q, hr⟩ := h.rb
  have hc := hr.cnts
  have t383 : ((383 : Int32)).toInt = 383 := rfl
  have t223 : ((223 : Int32)).toInt = 223 := rfl
  have t16 : ((16 : Int32)).toInt = 16 := rfl
  have t28 : ((28 : Int32)).toInt = 28 := rfl
  have t4 : ((4 : Int32)).toInt = 4 := rfl
  unfold f6_addBody f6_addBody_b26 f6_addBody_b27 f6_addBody_b55 f6_addBody_b56 f7_addBody
  simp only [bnd_e, fails_k, wi_e]
  by_cases d1 : f7_isBetween a 0 383 = 0
  · rw [if_pos d1, if_pos d1, rq0, bndx_r]; exact PM.fl h (Or.inl ⟨rfl, rfl⟩)
  · rw [if_neg d1, if_neg d1]
    by_cases d2 : f7_isBetween b 0 223 = 0
    · rw [if_pos d2, if_pos d2, rq0, bndx_r]; exact PM.fl h (Or.inl ⟨rfl, rfl⟩)
    · rw [if_neg d2, if_neg d2, rq1 n10, bndx_l]
      by_cases d3 : f7_isBetween w 4 16 = 0
      · rw [if_pos d3, if_pos d3, rq0, bndx_r]; exact PM.fl h (Or.inl ⟨rfl, rfl⟩)
      · rw [if_neg d3, if_neg d3]
        by_cases d4 : f7_isBetween hh 4 28 = 0
        · rw [if_pos d4, if_pos d4, rq0, bndx_r]; exact PM.fl h (Or.inl ⟨rfl, rfl⟩)
        · rw [if_neg d4, if_neg d4, rq1 n10, bndx_l, hr.e4, hr.bn]
          by_cases d5 : N = 4
          · rw [if_neg (fun z => by have := (i4_lt N hc.1).1.mp z; omega), if_pos ((i4_lt N hc.1).2.mpr d5)]
            exact PM.fl h (Or.inr ⟨rfl, rfl⟩)
          · have hN : N < 4 := by omega
            rw [if_pos ((i4_lt N hc.1).1.mpr hN), if_neg (fun z => d5 ((i4_lt N hc.1).2.mp z)), nI_clamp (by omega), va_up_self]
            have b1 := bt_in d1
            have b2 := bt_in d2
            have b3 := bt_in d3
            have b4 := bt_in d4
            rw [t_0, t383] at b1
            rw [t_0, t223] at b2
            rw [t4, t16] at b3
            rw [t4, t28] at b4
            have eL := ab_L (a := a) (b := b) (w := w) (h := hh) hN BIG 0 m (Nat.zero_le _) (by unfold BIG; omega)
            have eL : f7_addBody_L74 a b w hh (nI N) BIG 0 m = f7_addBody_L74 a b w hh (nI N) (0+1) 24 (fun t => if 336+24*N+0 ≤ t ∧ t < 336+24*N+24 then 0 else m t) := eL
            rw [eL, f7_addBody_L74, if_pos (show (24 : Int32) ≤ 24 by decide)]
            simp only [bnd_e, fails_k]
            generalize hz : (fun t => if 336+24*N+0 ≤ t ∧ t < 336+24*N+24 then 0 else m t) = Z
            have hz0 : ∀ t, 336+24*N ≤ t → t < 336+24*N+24 → Z t = 0 := fun t x1 x2 => (congrFun hz t).symm.trans (if_pos (by omega))
            have hz1 : ∀ t, ¬ (336+24*N ≤ t ∧ t < 336+24*N+24) → Z t = m t := fun t x1 => (congrFun hz t).symm.trans (if_neg (by omega))
            have hT : ET (f0_begin (σ 0) N a b w hh) (f7_sets (f7_sets Z (nI N) 7 w) (nI N) 8 hh) := fun t ht => by
              rw [s_7 hN, s_8 hN, va_up_ne _ _ (by omega), va_up_ne _ _ (by omega), hz1 t (by omega), beg_fr (by omega)]
              exact hr.T t ht
            have hD : ED (f0_begin (σ 0) N a b w hh) (f7_sets (f7_sets Z (nI N) 7 w) (nI N) 8 hh) N := fun j hj => by
              rw [s_7 hN, s_8 hN, beg_in (by omega)]
              rcases (show j = 7 ∨ j = 8 by omega) with rfl | rfl
              · rw [va_up_ne _ _ (by omega), va_up_self]; rfl
              · rw [va_up_self]; rfl
            rw [e_block hN hT hD]
            by_cases d6 : f7_blocks (f7_sets (f7_sets Z (nI N) 7 w) (nI N) 8 hh) (nI N) a b = 0
            · rw [if_pos d6, if_pos d6]
              rw [s_7 hN, s_8 hN, s_0 hN, s_1 hN, s_12 hN, s_13 hN, s_20 hN]
              have hRt : ∀ t, ¬ (336+24*N ≤ t ∧ t < 336+24*N+24) → ¬ t = 490 → ¬ t = 491 → va_up (va_up (va_up (va_up (va_up (va_up (va_up (va_up (va_up Z (336+24*N+7) w) (336+24*N+8) hh) 490 0) 491 0) (336+24*N+0) a) (336+24*N+1) b) (336+24*N+12) a) (336+24*N+13) b) (336+24*N+20) b t = m t := fun t x1 x2 x3 => by
                repeat first | rw [va_up_ne _ _ (by omega)]
                exact hz1 t x1
              have hRj : ∀ j, j < 22 → va_up (va_up (va_up (va_up (va_up (va_up (va_up (va_up (va_up Z (336+24*N+7) w) (336+24*N+8) hh) 490 0) 491 0) (336+24*N+0) a) (336+24*N+1) b) (336+24*N+12) a) (336+24*N+13) b) (336+24*N+20) b (336+24*N+j) = NV a b w hh j := fun j hj => by
                by_cases e20 : j = 20
                · subst e20; rw [va_up_self]; rfl
                rw [va_up_ne _ _ (by omega)]
                by_cases e13 : j = 13
                · subst e13; rw [va_up_self]; rfl
                rw [va_up_ne _ _ (by omega)]
                by_cases e12 : j = 12
                · subst e12; rw [va_up_self]; rfl
                rw [va_up_ne _ _ (by omega)]
                by_cases e1 : j = 1
                · subst e1; rw [va_up_self]; rfl
                rw [va_up_ne _ _ (by omega)]
                by_cases e0 : j = 0
                · subst e0; rw [va_up_self]; rfl
                rw [va_up_ne _ _ (by omega), va_up_ne _ _ (by omega), va_up_ne _ _ (by omega)]
                by_cases e8 : j = 8
                · subst e8; rw [va_up_self]; rfl
                rw [va_up_ne _ _ (by omega)]
                by_cases e7 : j = 7
                · subst e7; rw [va_up_self]; rfl
                rw [va_up_ne _ _ (by omega), hz0 _ (by omega) (by omega)]
                unfold NV
                rw [if_neg e0, if_neg e1, if_neg e7, if_neg e8, if_neg e12, if_neg e13, if_neg e20]
              have hR490 : va_up (va_up (va_up (va_up (va_up (va_up (va_up (va_up (va_up Z (336+24*N+7) w) (336+24*N+8) hh) 490 0) 491 0) (336+24*N+0) a) (336+24*N+1) b) (336+24*N+12) a) (336+24*N+13) b) (336+24*N+20) b 490 = 0 := by
                repeat first | rw [va_up_self] | rw [va_up_ne _ _ (by omega)]
              have hR491 : va_up (va_up (va_up (va_up (va_up (va_up (va_up (va_up (va_up Z (336+24*N+7) w) (336+24*N+8) hh) 490 0) 491 0) (336+24*N+0) a) (336+24*N+1) b) (336+24*N+12) a) (336+24*N+13) b) (336+24*N+20) b 491 = 0 := by
                repeat first | rw [va_up_self] | rw [va_up_ne _ _ (by omega)]
              generalize va_up (va_up (va_up (va_up (va_up (va_up (va_up (va_up (va_up Z (336+24*N+7) w) (336+24*N+8) hh) 490 0) 491 0) (336+24*N+0) a) (336+24*N+1) b) (336+24*N+12) a) (336+24*N+13) b) (336+24*N+20) b = R at hRt hRj hR490 hR491
              have hBt : ∀ t, ¬ (336+24*N ≤ t ∧ t < 336+24*N+24) → f0_begin (σ 0) N a b w hh t = σ 0 t := fun t x1 => beg_fr (by omega)
              have hBj : ∀ j, j < 22 → f0_begin (σ 0) N a b w hh (336+24*N+j) = NV a b w hh j := fun j hj => beg_in hj
              generalize f0_begin (σ 0) N a b w hh = B at hBt hBj
              rw [hRt 464 (by omega) (by decide) (by decide), hr.bn, nI_s, fg_e]
              have ew : va_up (va_up (va_up σ 0 B) 0 (va_up B 464 (nI (N+1)))) 15 (va_up (va_up (va_up σ 0 B) 0 (va_up B 464 (nI (N+1))) 15) 2 0) 0 = va_up B 464 (nI (N+1)) := by
                rw [va_up_ne _ _ (by decide), va_up_self]
              have e15 : va_up (va_up (va_up σ 0 B) 0 (va_up B 464 (nI (N+1)))) 15 (va_up (va_up (va_up σ 0 B) 0 (va_up B 464 (nI (N+1))) 15) 2 0) 15 = va_up (σ 15) 2 0 := by
                rw [va_up_self, va_up_ne _ _ (by decide), va_up_ne _ _ (by decide)]
              have er : ∀ r, ¬ r = 0 → ¬ r = 15 → va_up (va_up (va_up σ 0 B) 0 (va_up B 464 (nI (N+1)))) 15 (va_up (va_up (va_up σ 0 B) 0 (va_up B 464 (nI (N+1))) 15) 2 0) r = σ r := fun r x1 x2 => by
                rw [va_up_ne _ _ x2, va_up_ne _ _ x1, va_up_ne _ _ x1]
              generalize va_up (va_up (va_up σ 0 B) 0 (va_up B 464 (nI (N+1)))) 15 (va_up (va_up (va_up σ 0 B) 0 (va_up B 464 (nI (N+1))) 15) 2 0) = σf at ew e15 er
              refine ⟨⟨?_, rfl⟩, ?_, er 16 (by decide) (by decide)⟩
              · show va_up R 464 (nI (N+1)) 490 = 0
                rw [va_up_ne _ _ (by decide)]; exact hR490
              · show Top K σf (va_up R 464 (nI (N+1)))
                refine h.nw (Int.le_refl K) ?_ (fun t _ => by rw [er 2 (by decide) (by decide)]) (fun t ht => by rw [e15, va_up_ne _ _ ht]) (by rw [e15, va_up_self]) (fun t ht h4 h5 => ?_) ?_
                · rw [ew]
                  refine ⟨N+1, Q, fun t ht => ?_, ⟨by omega, hc.2.1⟩, ⟨?_, ?_⟩, fun i j hi hj => ?_, fun p j hp hj => ?_⟩
                  · by_cases e4 : t = 464
                    · subst e4; rw [va_up_self, va_up_self]
                    · rw [va_up_ne _ _ e4, va_up_ne _ _ e4]
                      by_cases eN : 336+24*N ≤ t ∧ t < 336+24*N+24
                      · have e2 : ∃ j, j < 22 ∧ t = 336+24*N+j := by
                          rcases id ht with q1 | ⟨i, j, q1, q2, q3⟩ | ⟨i, j, q1, q2, q3⟩ | q1
                          · omega
                          · exact ⟨j, q2, by omega⟩
                          · omega
                          · omega
                        obtain ⟨j, hj, rfl⟩ := e2
                        rw [hBj j hj, hRj j hj]
                      · have hlt := ht.lt (by omega) hc.2.1
                        rw [hBt t eN, hRt t eN (by omega) (by omega)]
                        refine hr.eq t ?_
                        rcases id ht with q1 | ⟨i, j, q1, q2, q3⟩ | q1 | q1
                        · exact Or.inl q1
                        · exact Or.inr (Or.inl ⟨i, j, by omega, q2, q3⟩)
                        · exact Or.inr (Or.inr (Or.inl q1))
                        · exact Or.inr (Or.inr (Or.inr q1))
                  · rw [va_up_self, nI_toInt (by omega)]
                  · rw [va_up_ne _ _ (by decide), hRt 465 (by omega) (by decide) (by decide)]; exact hr.npm
                  · rw [va_up_ne _ _ (by omega)]
                    by_cases eN : i = N
                    · subst eN
                      rw [hRj j hj]
                      exact NV_bd h.k0 b1 b2 b3 b4 hj
                    · rw [hRt _ (by omega) (by omega) (by omega)]
                      exact hr.bd (by omega) hj
                  · rw [va_up_ne _ _ (by omega), hRt _ (by omega) (by omega) (by omega)]
                    exact hr.pd hp hj
                · have : ¬ t = 490 := fun e => TP_490 (e ▸ ht)
                  rw [va_up_ne _ _ (by omega), hRt t (by omega) this h5]
                · rw [va_up_ne _ _ (by decide)]; exact hR491
            · rw [if_neg d6, if_neg d6]
              refine ⟨?_, h.dead hr (fun t ht => beg_fr (by have := ht.nd hN hc.2.1; omega)) (fun t ht => ?_) (fun t ht h4 => ?_), (show va_up σ 0 (f0_begin (σ 0) N a b w hh) 16 = σ 16 from va_up_ne _ _ (by decide))⟩
              · show cd2 xIA xIS xIS (va_up (f7_sets (f7_sets Z (nI N) 7 w) (nI N) 8 hh) 490 2 490)
                rw [va_up_self]
                exact Or.inr ⟨rfl, rfl⟩
              · have := ht.nd hN hc.2.1
                have hlt := ht.lt hc.1 hc.2.1
                show va_up (f7_sets (f7_sets Z (nI N) 7 w) (nI N) 8 hh) 490 2 t = m t
                rw [s_7 hN, s_8 hN, va_up_ne _ _ (by omega), va_up_ne _ _ (by omega), va_up_ne _ _ (by omega), hz1 t this]
              · have : ¬ t = 490 := fun e => TP_490 (e ▸ ht)
                show va_up (f7_sets (f7_sets Z (nI N) 7 w) (nI N) 8 hh) 490 2 t = m t
                rw [s_7 hN, s_8 hN, va_up_ne _ _ this, va_up_ne _ _ (by omega), va_up_ne _ _ (by omega), hz1 t (by omega)]
end
