/-! PURE: texts -/
section
variable {sz M0 : Nat → Int32} {N Q c : Nat} {k K L : Int} {u w m u2 w2 m2 : Nat → Int32} {i j p : Nat} {σ σ2 : Nat → Nat → Int32}
theorem len0 : fJ0_length 0 = nI 11 := by decide
theorem len1 : fJ0_length 1 = nI 8 := by decide
def chT (k : Nat) : Int32 := ([46, 35, 61, 47, 92, 105, 62, 60, 94, 120, 111] : List Int32).getD k 0
def chI (k : Nat) : Int32 := ([110, 108, 114, 106, 100, 76, 82, 68] : List Int32).getD k 0
theorem char0 : ∀ k, k < 11 → fJ0_charAt 0 (nI k) = chT k := by decide
theorem char1 : ∀ k, k < 8 → fJ0_charAt 1 (nI k) = chI k := by decide
/-- the first place from q on whose sign is x -/
def fst (f : Nat → Int32) (x : Int32) (n : Nat) : Nat → Int32 → Int32 := fun _ _ => 0
theorem pl_L {s n : Nat} {f : Nat → Int32} {x : Int32} (hl : fJ0_length s = nI n) (hn : n ≤ 100) (hc : ∀ k, k < n → fJ0_charAt s (nI k) = f k) : ∀ (F q : Nat), q ≤ n → n < F + q →
    (f3_placeOf_L2 x s F (nI q) = -1 ∧ ∀ k, q ≤ k → k < n → ¬ f k = x) ∨ (∃ k, q ≤ k ∧ k < n ∧ f k = x ∧ f3_placeOf_L2 x s F (nI q) = nI k) := by
  intro F
  induction F with
  | zero => intro q h1 h2; omega
  | succ F ih =>
    intro q hq hF
    rw [f3_placeOf_L2]
    simp only [bnd_e]
    rw [hl]
    by_cases c0 : nI n ≤ nI q
    · rw [if_pos c0]
      rw [ti_le, nI_toInt (by omega), nI_toInt (by omega)] at c0
      exact Or.inl ⟨rfl, fun k h1 h2 => by omega⟩
    · rw [if_neg c0]
      rw [ti_le, nI_toInt (by omega), nI_toInt (by omega)] at c0
      rw [hc q (by omega)]
      by_cases c1 : f q = x
      · rw [if_pos c1]
        exact Or.inr ⟨q, Nat.le_refl q, by omega, c1, rfl⟩
      · rw [if_neg c1, nI_s]
        rcases ih (q+1) (by omega) (by omega) with ⟨e1, e2⟩ | ⟨k, e1, e2, e3, e4⟩
        · refine Or.inl ⟨e1, fun k h1 h2 => ?_⟩
          by_cases e : k = q
          · subst e; exact c1
          · exact e2 k (by omega) h2
        · exact Or.inr ⟨k, by omega, e2, e3, e4⟩
theorem pl_T {x : Int32} : (f3_placeOf x 0 = -1 ∧ ∀ k, k < 11 → ¬ chT k = x) ∨ (∃ k, k < 11 ∧ chT k = x ∧ f3_placeOf x 0 = nI k) := by
  rcases pl_L (x := x) len0 (by decide) char0 BIG 0 (Nat.zero_le _) (by unfold BIG; omega) with ⟨e1, e2⟩ | ⟨k, e1, e2, e3, e4⟩
  · exact Or.inl ⟨e1, fun k h => e2 k (Nat.zero_le _) h⟩
  · exact Or.inr ⟨k, e2, e3, e4⟩
theorem pl_I {x : Int32} : (f3_placeOf x 1 = -1 ∧ ∀ k, k < 8 → ¬ chI k = x) ∨ (∃ k, k < 8 ∧ chI k = x ∧ f3_placeOf x 1 = nI k) := by
  rcases pl_L (x := x) len1 (by decide) char1 BIG 0 (Nat.zero_le _) (by unfold BIG; omega) with ⟨e1, e2⟩ | ⟨k, e1, e2, e3, e4⟩
  · exact Or.inl ⟨e1, fun k h => e2 k (Nat.zero_le _) h⟩
  · exact Or.inr ⟨k, e2, e3, e4⟩
theorem kindOf_T : ∀ k, k < 11 → f7_kindOf (chT k) = nI k := by decide
theorem keysFor_I : ∀ k, k < 8 → f7_keysFor (chI k) = keyS k := by decide
theorem kindOf_n {x : Int32} (h : ∀ k, k < 11 → ¬ chT k = x) : f7_kindOf x = -1 := by
  have g := fun k hk e => h k hk (Eq.symm e)
  unfold f7_kindOf
  rw [if_neg (c := x = 35) (g 1 (by decide)), if_neg (c := x = 46) (g 0 (by decide)), if_neg (c := x = 47) (g 3 (by decide)), if_neg (c := x = 60) (g 7 (by decide)), if_neg (c := x = 61) (g 2 (by decide)), if_neg (c := x = 62) (g 6 (by decide)), if_neg (c := x = 92) (g 4 (by decide)), if_neg (c := x = 94) (g 8 (by decide)), if_neg (c := x = 105) (g 5 (by decide)), if_neg (c := x = 111) (g 10 (by decide)), if_neg (c := x = 120) (g 9 (by decide))]
theorem keysFor_n {x : Int32} (h : ∀ k, k < 8 → ¬ chI k = x) : f7_keysFor x = -1 := by
  have g := fun k hk e => h k hk (Eq.symm e)
  unfold f7_keysFor
  rw [if_neg (c := x = 68) (g 7 (by decide)), if_neg (c := x = 76) (g 5 (by decide)), if_neg (c := x = 82) (g 6 (by decide)), if_neg (c := x = 100) (g 4 (by decide)), if_neg (c := x = 106) (g 3 (by decide)), if_neg (c := x = 108) (g 1 (by decide)), if_neg (c := x = 110) (g 0 (by decide)), if_neg (c := x = 114) (g 2 (by decide))]
theorem tile_kind {x : Int32} : f3_placeOf x 0 = f7_kindOf x := by
  rcases pl_T (x := x) with ⟨e1, e2⟩ | ⟨k, e1, e2, e3⟩
  · rw [e1, kindOf_n e2]
  · rw [e3, ← e2, kindOf_T k e1]
theorem keyS_ge : ∀ k, k < 8 → 0 ≤ keyS k := by decide
theorem chI_nd : ∀ k, k < 8 → 57 < chI k := by decide
/-- what a sign is in a text of inputs -/
theorem key_kind {x : Int32} : (f3_placeOf x 1 = -1 ∧ f7_keysFor x = -1) ∨ (∃ k, k < 8 ∧ f3_placeOf x 1 = nI k ∧ f7_keysFor x = keyS k ∧ f3_isDigit x = 0) := by
  rcases pl_I (x := x) with ⟨e1, e2⟩ | ⟨k, e1, e2, e3⟩
  · exact Or.inl ⟨e1, keysFor_n e2⟩
  · refine Or.inr ⟨k, e1, e3, by rw [← e2, keysFor_I k e1], ?_⟩
    have h9 := chI_nd k e1
    rw [← e2]
    unfold f3_isDigit
    rw [if_pos h9]
    split
    · rfl
    · rfl
theorem Top.t15 {s2 : Nat → Int32} (h : Top K σ m) (hs : ∀ t, (t = 0 ∨ t = 2 ∨ t = 3 ∨ (10 ≤ t ∧ t < 18)) → s2 t = σ 15 t) (hm : ∀ t, TP t → ¬ t = 493 → ¬ t = 496 → ¬ (500 ≤ t ∧ t < 540) → m2 t = m t) (htx : TX (va_up σ 15 s2) m2) (hf : s2 1 = m2 496) : Top K (va_up σ 15 s2) m2 := by
  unfold TP at hm
  have h0 : ∀ w, ¬ w = 15 → va_up σ 15 s2 w = σ w := fun w hw => va_up_ne _ _ hw
  have h1 : va_up σ 15 s2 15 = s2 := va_up_self _ _ _
  refine ⟨h.k0, h.wd.cg (fun t _ => by rw [h0 0 (by decide)]) (fun t ht => hm t (by omega) (by omega) (by omega) (by omega)), by rw [h1]; exact h.es.cg (fun t a b => hs t (by omega)) (fun t a b => hm t (by omega) (by omega) (by omega) (by omega)), ?_, ?_, htx, by rw [h1]; exact hf⟩
  · exact h.sn.cg (Int.le_refl K) (fun t _ => by rw [h0 2 (by decide)]) (by rw [h1]; exact hs 0 (by omega)) (fun t _ _ => by rw [h1]; exact hs t (by omega)) (hm 492 (by omega) (by omega) (by omega) (by omega)) (fun t a b => hm t (by omega) (by omega) (by omega) (by omega)) (fun t a b => hm t (by omega) (by omega) (by omega) (by omega))
  · exact h.hi.cg (Int.le_refl K) (fun w a b t _ => by rw [h0 w (by omega)]) (by rw [h1]; exact hs 2 (by omega)) (by rw [h1]; exact hs 3 (by omega)) (hm 491 (by omega) (by omega) (by omega) (by omega)) (fun t a b => hm t (by omega) (by omega) (by omega) (by omega))
theorem t_append {a : Int32} (h : Top K σ m) : PM (cd1 xIS) K σ (f6_append σ a) (0, f7_append m a) := by
  obtain ⟨L, a1, a2, a3, a4⟩ := h.tx
  have t40 : ((40 : Int32)).toInt = 40 := rfl
  have e40 : (nI L = 40) ↔ L = 40 := by
    constructor
    · intro e
      have := congrArg Int32.toInt e
      rw [nI_toInt (by omega), t40] at this
      omega
    · intro e; rw [e]; rfl
  have l40 : (nI L < 40) ↔ L < 40 := by
    rw [ti_lt, nI_toInt (by omega), t40]; omega
  unfold f6_append f3_takeIn f7_append f7_append_b15
  simp only [bnd_e]
  rw [a2, a3, va_up_ne (k := 490) (j := 493) _ _ (by decide), va_up_ne (k := 490) (j := 493) _ _ (by decide), a3, va_up_self, va_up_self]
  by_cases d1 : L = 40
  · rw [if_neg (fun z => by have := l40.mp z; omega), if_pos (e40.mpr d1), bnd2_mk, if_pos rfl, if_neg (show ¬ (1 : Int32) ≤ 0 by decide), up_eta]
    exact PM.fl h ⟨rfl, rfl⟩
  · have hL : L < 40 := by omega
    rw [if_pos (l40.mpr hL), if_neg (fun z => d1 (e40.mp z)), bnd2_mk, if_neg n10, if_pos (show (0 : Int32) ≤ 0 by decide), nI_clamp (by omega)]
    rw [va_up_ne (k := 20 + L) (j := 4) _ _ (by omega), a2, va_up_ne (k := 500 + L) (j := 493) _ _ (by omega), va_up_ne (k := 490) (j := 493) _ _ (by decide), a3, nI_s]
    refine ⟨⟨?_, rfl⟩, ?_, (show va_up σ 15 (va_up (va_up (σ 15) (20+L) (vp_nar .char a)) 4 (nI (L+1))) 16 = σ 16 from va_up_ne _ _ (by decide))⟩
    · show va_up (va_up (va_up m 490 0) (500+L) (vp_nar .char a)) 493 (nI (L+1)) 490 = 0
      rw [va_up_ne _ _ (by decide), va_up_ne _ _ (by omega), va_up_self]
    · show Top K (va_up σ 15 (va_up (va_up (σ 15) (20+L) (vp_nar .char a)) 4 (nI (L+1)))) (va_up (va_up (va_up m 490 0) (500+L) (vp_nar .char a)) 493 (nI (L+1)))
      refine h.t15 (fun t ht => ?_) (fun t ht h1 h2 h3 => ?_) ⟨L+1, by omega, ?_, va_up_self _ _ _, fun j hj => ?_⟩ ?_
      · rw [va_up_ne _ _ (by omega), va_up_ne _ _ (by omega)]
      · have : ¬ t = 490 := fun e => TP_490 (e ▸ ht)
        rw [va_up_ne _ _ h1, va_up_ne _ _ (by omega), va_up_ne _ _ this]
      · rw [va_up_self, va_up_self]
      · rw [va_up_self, va_up_ne _ _ (by omega), va_up_ne (k := 493) _ _ (by omega)]
        by_cases e : j = L
        · subst e; rw [va_up_self, va_up_self]
        · rw [va_up_ne _ _ (by omega), va_up_ne _ _ (by omega), va_up_ne _ _ (by omega)]; exact a4 j (by omega)
      · rw [va_up_ne _ _ (by decide), va_up_ne _ _ (by omega), va_up_ne _ _ (by decide), va_up_ne _ _ (by omega), va_up_ne _ _ (by decide)]; exact h.fa
/-- the fault of a text of tiles -/
theorem ft_L {L : Nat} {s : Nat → Int32} (hL : L ≤ 40) : ∀ (F q : Nat) (m : Nat → Int32), (∀ j, j < L → s (20+j) = m (500+j)) → m 494 = nI q → q ≤ L → q ≤ 24 → L < F + q →
    ∃ q2 is, q2 ≤ 24 ∧ f7_areTiles_L5 (nI L) F m = (is, va_up m 494 (nI q2)) ∧ f3_faultOfTiles_L2 s (nI L) F (nI q) = (if is = 0 then nI q2 else -1) ∧ (is = 0 ∨ (is = 1 ∧ q2 = L ∧ 0 < L)) := by
  intro F
  induction F with
  | zero => intro q m h0 h1 h2; omega
  | succ F ih =>
    intro q m hs hm hq h24 hF
    have t24 : ((24 : Int32)).toInt = 24 := rfl
    have em : va_up m 494 (nI q) = m := by rw [← hm, up_eta]
    have hq0 : (nI q ≤ 0) ↔ q = 0 := by rw [ti_le, nI_toInt (by omega), t_0]; omega
    have hqL : (nI q = nI L) ↔ q = L := by
      constructor
      · intro e
        have := congrArg Int32.toInt e
        rw [nI_toInt (by omega), nI_toInt (by omega)] at this
        omega
      · intro e; rw [e]
    have hL0 : (nI L = 0) ↔ L = 0 := by
      constructor
      · intro e
        have := congrArg Int32.toInt e
        rw [nI_toInt (by omega), t_0] at this
        omega
      · intro e; rw [e]; rfl
    have hb50 : f7_areTiles_b50 (nI L) m = (if q = 0 then 0 else if q = L then 1 else 0, m) := by
      unfold f7_areTiles_b50
      rw [hm]
      by_cases c1 : q = 0
      · rw [if_pos (hq0.mpr c1), if_pos c1]
      · rw [if_neg (fun z => c1 (hq0.mp z)), if_neg c1]
        by_cases c2 : q = L
        · rw [if_pos (hqL.mpr c2), if_pos c2]
        · rw [if_neg (fun z => c2 (hqL.mp z)), if_neg c2]
    rw [f7_areTiles_L5, f3_faultOfTiles_L2, hm, hb50]
    unfold f3_tileAt
    simp only [bnd_e]
    rw [tile_kind, nI_clamp (by omega)]
    by_cases c0 : nI L ≤ nI q
    · rw [if_pos c0, if_pos c0]
      rw [ti_le, nI_toInt (by omega), nI_toInt (by omega)] at c0
      have e : q = L := by omega
      by_cases c1 : q = 0
      · refine ⟨q, 0, h24, by rw [if_pos c1, em], ?_, Or.inl rfl⟩
        rw [if_pos (hL0.mpr (by omega)), if_pos rfl, c1]; rfl
      · refine ⟨q, 1, h24, by rw [if_neg c1, if_pos e, em], ?_, Or.inr ⟨rfl, e, by omega⟩⟩
        rw [if_neg (fun z => by have := hL0.mp z; omega), if_neg n10]
    · rw [if_neg c0, if_neg c0]
      rw [ti_le, nI_toInt (by omega), nI_toInt (by omega)] at c0
      have eqL : ¬ q = L := by omega
      have hout : (if q = 0 then (0 : Int32) else if q = L then 1 else 0, m) = (0, va_up m 494 (nI q)) := by
        rw [em, if_neg eqL]
        split
        · rfl
        · rfl
      by_cases c1 : 24 ≤ nI q
      · rw [if_pos c1, if_pos c1]
        exact ⟨q, 0, h24, hout, by rw [if_pos rfl], Or.inl rfl⟩
      · rw [if_neg c1, if_neg c1, hs q (by omega)]
        rw [ti_le, t24, nI_toInt (by omega)] at c1
        by_cases c2 : f7_kindOf (m (500+q)) < 0
        · rw [if_pos c2, if_neg (c := 0 ≤ f7_kindOf (m (500+q))) (fun z => by rw [ti_lt] at c2; rw [ti_le] at z; omega)]
          exact ⟨q, 0, h24, hout, by rw [if_pos rfl], Or.inl rfl⟩
        · rw [if_neg c2, if_pos (c := 0 ≤ f7_kindOf (m (500+q))) (by rw [ti_lt] at c2; rw [ti_le]; omega), nI_s]
          obtain ⟨q2, is, g1, g2, g3, g4⟩ := ih (q+1) (va_up m 494 (nI (q+1))) (fun j hj => (hs j hj).trans (va_up_ne _ _ (by omega)).symm) (va_up_self _ _ _) (by omega) (by omega) (by omega)
          exact ⟨q2, is, g1, by rw [g2, up_up], g3, g4⟩
theorem ft_e {L : Nat} {s : Nat → Int32} (hL : L ≤ 40) (hs : ∀ j, j < L → s (20+j) = m (500+j)) : ∃ q2 is, q2 ≤ 24 ∧ f7_areTiles m (nI L) = (is, va_up m 494 (nI q2)) ∧ f3_faultOfTiles s (nI L) = (if is = 0 then nI q2 else -1) ∧ (is = 0 ∨ (is = 1 ∧ q2 = L ∧ 0 < L)) := by
  unfold f7_areTiles f3_faultOfTiles
  simp only [bnd_e]
  obtain ⟨q2, is, g1, g2, g3, g4⟩ := ft_L (s := s) hL BIG 0 (va_up m 494 0) (fun j hj => (hs j hj).trans (va_up_ne _ _ (by omega)).symm) (va_up_self _ _ _) (Nat.zero_le _) (by decide) (by unfold BIG; omega)
  exact ⟨q2, is, g1, by rw [g2, up_up], g3, g4⟩
end
