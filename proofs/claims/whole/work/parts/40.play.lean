/-! PURE: play -/
section
variable {sz M0 : Nat → Int32} {N Q c : Nat} {k K L : Int} {u w m u2 w2 m2 : Nat → Int32} {i j p : Nat} {σ σ2 : Nat → Nat → Int32}
theorem dg01 {x : Int32} : f3_isDigit x = 0 ∨ (f3_isDigit x = 1 ∧ ∃ A : Nat, A ≤ 9 ∧ x - 48 = nI A) := by
  have t48 : ((48 : Int32)).toInt = 48 := rfl
  have t57 : ((57 : Int32)).toInt = 57 := rfl
  unfold f3_isDigit
  by_cases c1 : x < 48
  · rw [if_pos c1]; exact Or.inl rfl
  · by_cases c2 : 57 < x
    · rw [if_neg c1, if_pos c2]; exact Or.inl rfl
    · rw [if_neg c1, if_neg c2]
      rw [ti_lt, t48] at c1
      rw [ti_lt, t57] at c2
      have h3 : (x - 48).toInt = x.toInt - 48 := by rw [ti_sub (by rw [t48]; omega) (by rw [t48]; omega), t48]
      obtain ⟨A, hA, e⟩ := vp_nI (w := x - 48) (K := 10) (vp_in_iff.mpr ⟨by omega, by omega⟩) (by decide)
      exact Or.inr ⟨rfl, A, by omega, e⟩
theorem dg7 {L p : Nat} (hL : L ≤ 40) (hp : p ≤ L) (h : m 494 = nI p) : f7_isDigit m (nI L) = if p < L then f3_isDigit (m (500+p)) else 0 := by
  unfold f7_isDigit f3_isDigit
  rw [h, nI_clamp (by omega)]
  by_cases c : p < L
  · rw [if_neg (c := nI L ≤ nI p) (fun z => by rw [ti_le, nI_toInt (by omega), nI_toInt (by omega)] at z; omega), if_pos c]
  · rw [if_pos (c := nI L ≤ nI p) (by rw [ti_le, nI_toInt (by omega), nI_toInt (by omega)]; omega), if_neg c]
theorem s66 {f : Int32 → Int32 → (Nat → Int32) → Int32 × (Nat → Int32)} {v x : Int32} {L q n : Nat} (hL : L ≤ 40) (hq : q ≤ L) : f3_readCommands_L66 f (nI L) v u (n+1) x (nI q) = if q < L ∧ ¬ f3_isDigit (u (20+q)) = 0 then f3_readCommands_L66 f (nI L) v u n (x * 10 + u (20+q) - 48) (nI (q+1)) else f3_readCommands_b106 f v u x (nI q) := by
  rw [f3_readCommands_L66]
  simp only [bnd_e]
  by_cases c : q < L
  · rw [if_neg (c := nI L ≤ nI q) (fun z => by rw [ti_le, nI_toInt (by omega), nI_toInt (by omega)] at z; omega), nI_clamp (by omega), nI_s]
    by_cases d : f3_isDigit (u (20+q)) = 0
    · rw [if_pos d, if_neg (c := q < L ∧ ¬ f3_isDigit (u (20+q)) = 0) (fun z => z.2 d)]
    · rw [if_neg d, if_pos (c := q < L ∧ ¬ f3_isDigit (u (20+q)) = 0) ⟨c, d⟩]
  · rw [if_pos (c := nI L ≤ nI q) (by rw [ti_le, nI_toInt (by omega), nI_toInt (by omega)]; omega), if_neg (c := q < L ∧ ¬ f3_isDigit (u (20+q)) = 0) (fun z => c z.1)]
theorem keyS_bd : ∀ k, k < 8 → 0 ≤ (keyS k).toInt ∧ (keyS k).toInt ≤ 15 := by decide
/-- a sum of ticks -/
def smL (m : Nat → Int32) (n : Nat) (j : Nat) (v : Int32) : Int32 := match n with
  | 0 => v
  | n + 1 => smL m n (j+1) (v + m (560+j))
theorem smL_s (m : Nat → Int32) (n j : Nat) (v : Int32) : smL m (n+1) j v = smL m n (j+1) (v + m (560+j)) := rfl
theorem smL_cg {m2 : Nat → Int32} (h : ∀ j, m2 (560+j) = m (560+j)) : ∀ (n j : Nat) (v : Int32), smL m2 n j v = smL m n j v := by
  intro n
  induction n with
  | zero => intro j v; rfl
  | succ n ih => intro j v; rw [smL_s, smL_s, ih, h]
/-- what the reading of a text of inputs leaves, from place p and command c on -/
def FI (L : Nat) (s : Nat → Int32) (p c : Nat) (m : Nat → Int32) (r : Int32 × (Nat → Int32)) : Prop :=
  ∃ is p2 m2, r = (is, m2) ∧ m2 494 = nI p2 ∧ p2 ≤ L ∧ (∀ t, ¬ t = 494 → ¬ t = 495 → ¬ (540 ≤ t ∧ t < 580) → m2 t = m t) ∧
   (∀ F d, (d = 2 ∨ (d = 1 ∧ (p < L → f3_isDigit (s (20+p)) = 0))) → L < F + p → f3_faultOfInputs_L4 s (nI L) F (nI p) d = if is = 0 then nI p2 else -1) ∧
   (is = 0 ∨ (is = 1 ∧ p < L ∧ f3_isDigit (s (20+p)) = 0 ∧ ∃ c2, c ≤ c2 ∧ 2*c2 ≤ L ∧ m2 495 = nI c2 ∧ (∀ j, j < c → m2 (540+j) = m (540+j) ∧ m2 (560+j) = m (560+j)) ∧ (∀ j, c ≤ j → j < c2 → (0 ≤ (m2 (540+j)).toInt ∧ (m2 (540+j)).toInt ≤ 15) ∧ ∃ A : Nat, A ≤ 99 ∧ m2 (560+j) = nI A) ∧
     ∀ F v u, (∀ j, j < L → u (20+j) = s (20+j)) → u 5 = nI c → L < F + p → ∃ u2, f3_readCommands_L9 (nI L) F (nI p) v u = (smL m2 (c2-c) c v, u2) ∧ u2 5 = nI c2 ∧ (∀ t, ¬ t = 5 → ¬ (60 ≤ t ∧ t < 100) → u2 t = u t) ∧ (∀ j, j < c → u2 (60+j) = u (60+j) ∧ u2 (80+j) = u (80+j)) ∧ (∀ j, c ≤ j → j < c2 → u2 (60+j) = m2 (540+j) ∧ u2 (80+j) = m2 (560+j))))
/-- a command is read; the rest -/
theorem fi_end {L : Nat} {s : Nat → Int32} (hL : L ≤ 40) {n p c q A : Nat} {m m4 : Nat → Int32} {d2 ky : Int32} (hs : ∀ j, j < L → s (20+j) = m (500+j)) (h2 : 2*c ≤ p) (hpL : p < L) (hnd : f3_isDigit (s (20+p)) = 0) (hq : p + 2 ≤ q) (hqL : q ≤ L) (hA : A ≤ 99) (hky : 0 ≤ ky.toInt ∧ ky.toInt ≤ 15)
    (g1 : m4 494 = nI q) (g2 : m4 495 = nI (c+1)) (g3 : ∀ t, ¬ t = 494 → ¬ t = 495 → ¬ t = 540+c → ¬ t = 560+c → m4 t = m t) (g4 : m4 (540+c) = ky) (g5 : m4 (560+c) = nI A)
    (hd2 : d2 = 2 ∨ (d2 = 1 ∧ (q < L → f3_isDigit (s (20+q)) = 0)))
    (sF : ∀ F d, (d = 2 ∨ (d = 1 ∧ (p < L → f3_isDigit (s (20+p)) = 0))) → L < F + p → ∃ F', L < F' + q ∧ f3_faultOfInputs_L4 s (nI L) F (nI p) d = f3_faultOfInputs_L4 s (nI L) F' (nI q) d2)
    (sR : (q < L → f3_isDigit (s (20+q)) = 0) → ∀ F v u, (∀ j, j < L → u (20+j) = s (20+j)) → u 5 = nI c → L < F + p → ∃ F', L < F' + q ∧ f3_readCommands_L9 (nI L) F (nI p) v u = f3_readCommands_L9 (nI L) F' (nI q) (v + nI A) (va_up (va_up (va_up u (60+c) ky) (80+c) (nI A)) 5 (nI (c+1))))
    (ih : q < L → FI L s q (c+1) m4 (f7_areInputs_L10 (nI L) n m4)) : FI L s p c m (if nI q < nI L then f7_areInputs_L10 (nI L) n m4 else (1, m4)) := by
  have hlt : nI q < nI L ↔ q < L := by rw [ti_lt, nI_toInt (by omega), nI_toInt (by omega)]; omega
  have hd20 : ¬ d2 = 0 := by rcases hd2 with e | ⟨e, -⟩ <;> rw [e] <;> decide
  have hu3 : ∀ u : Nat → Int32, (∀ j, j < L → u (20+j) = s (20+j)) → ∀ j, j < L → va_up (va_up (va_up u (60+c) ky) (80+c) (nI A)) 5 (nI (c+1)) (20+j) = s (20+j) := fun u hu j hj => by
    rw [va_up_ne _ _ (by omega), va_up_ne _ _ (by omega), va_up_ne _ _ (by omega)]; exact hu j hj
  by_cases cq : q < L
  · rw [if_pos (hlt.mpr cq)]
    obtain ⟨is, p2, m2, b1, b2, b3, b4, b5, b6⟩ := ih cq
    refine ⟨is, p2, m2, b1, b2, b3, fun t x1 x2 x3 => (b4 t x1 x2 x3).trans (g3 t x1 x2 (by omega) (by omega)), fun F d hd hF => ?_, ?_⟩
    · obtain ⟨F', hF', e⟩ := sF F d hd hF
      rw [e]; exact b5 F' d2 hd2 hF'
    · rcases b6 with b6 | ⟨e1, -, e3, c2, e4, e5, e6, e7, e8, e9⟩
      · exact Or.inl b6
      · have hk1 : m2 (540+c) = ky := (e7 c (by omega)).1.trans g4
        have hk2 : m2 (560+c) = nI A := (e7 c (by omega)).2.trans g5
        refine Or.inr ⟨e1, hpL, hnd, c2, by omega, e5, e6, fun j hj => ⟨(e7 j (by omega)).1.trans (g3 _ (by omega) (by omega) (by omega) (by omega)), (e7 j (by omega)).2.trans (g3 _ (by omega) (by omega) (by omega) (by omega))⟩, fun j x1 x2 => ?_, fun F v u hu h5 hF => ?_⟩
        · by_cases ej : j = c
          · subst ej
            rw [hk1, hk2]; exact ⟨hky, A, hA, rfl⟩
          · exact e8 j (by omega) x2
        · obtain ⟨F', hF', e⟩ := sR (fun _ => e3) F v u hu h5 hF
          obtain ⟨u2, r1, r2, r3, r4, r5⟩ := e9 F' (v + nI A) _ (hu3 u hu) (va_up_self _ _ _) hF'
          refine ⟨u2, ?_, r2, fun t x1 x2 => ?_, fun j hj => ⟨?_, ?_⟩, fun j x1 x2 => ?_⟩
          · rw [e, r1, show c2 - c = (c2 - (c+1)) + 1 by omega, smL_s, hk2]
          · rw [r3 t x1 x2, va_up_ne _ _ x1, va_up_ne _ _ (by omega), va_up_ne _ _ (by omega)]
          · rw [(r4 j (by omega)).1, va_up_ne _ _ (by omega), va_up_ne _ _ (by omega), va_up_ne _ _ (by omega)]
          · rw [(r4 j (by omega)).2, va_up_ne _ _ (by omega), va_up_ne _ _ (by omega), va_up_ne _ _ (by omega)]
          · by_cases ej : j = c
            · subst ej
              rw [hk1, hk2]
              refine ⟨?_, ?_⟩
              · rw [(r4 j (by omega)).1, va_up_ne _ _ (by omega), va_up_ne _ _ (by omega), va_up_self]
              · rw [(r4 j (by omega)).2, va_up_ne _ _ (by omega), va_up_self]
            · exact r5 j (by omega) x2
  · rw [if_neg (fun z => cq (hlt.mp z))]
    have hqe : q = L := by omega
    have hle : nI L ≤ nI q := by rw [ti_le, nI_toInt (by omega), nI_toInt (by omega)]; omega
    have hL0 : ¬ nI L = 0 := fun e => by
      have := congrArg Int32.toInt e
      rw [nI_toInt (by omega), t_0] at this
      omega
    refine ⟨1, q, m4, rfl, g1, hqL, fun t x1 x2 x3 => g3 t x1 x2 (by omega) (by omega), fun F d hd hF => ?_, Or.inr ⟨rfl, hpL, hnd, c+1, by omega, by omega, g2, fun j hj => ⟨g3 _ (by omega) (by omega) (by omega) (by omega), g3 _ (by omega) (by omega) (by omega) (by omega)⟩, fun j x1 x2 => ?_, fun F v u hu h5 hF => ?_⟩⟩
    · obtain ⟨F', hF', e⟩ := sF F d hd hF
      rw [e, if_neg n10]
      cases F' with
      | zero => omega
      | succ F' => rw [f3_faultOfInputs_L4, if_pos hle, if_neg hL0, if_neg hd20]
    · have ej : j = c := by omega
      subst ej
      rw [g4, g5]; exact ⟨hky, A, hA, rfl⟩
    · obtain ⟨F', hF', e⟩ := sR (fun z => absurd z cq) F v u hu h5 hF
      refine ⟨va_up (va_up (va_up u (60+c) ky) (80+c) (nI A)) 5 (nI (c+1)), ?_, va_up_self _ _ _, fun t x1 x2 => ?_, fun j hj => ⟨?_, ?_⟩, fun j x1 x2 => ?_⟩
      · rw [e, show c + 1 - c = 0 + 1 by omega, smL_s, g5]
        cases F' with
        | zero => omega
        | succ F' => rw [f3_readCommands_L9, if_pos hle]; rfl
      · rw [va_up_ne _ _ x1, va_up_ne _ _ (by omega), va_up_ne _ _ (by omega)]
      · rw [va_up_ne _ _ (by omega), va_up_ne _ _ (by omega), va_up_ne _ _ (by omega)]
      · rw [va_up_ne _ _ (by omega), va_up_ne _ _ (by omega), va_up_ne _ _ (by omega)]
      · have ej : j = c := by omega
        subst ej
        rw [g4, g5]
        refine ⟨?_, ?_⟩
        · rw [va_up_ne _ _ (by omega), va_up_ne _ _ (by omega), va_up_self]
        · rw [va_up_ne _ _ (by omega), va_up_self]
/-- the head of a reading of one command -/
theorem rd_head {L p c kk F : Nat} {s : Nat → Int32} {v : Int32} (hL : L ≤ 40) (hpL : p < L) (h2 : 2*c ≤ p) (hk : kk < 8) (hp : f3_placeOf (s (20+p)) 1 = nI kk) (hu : ∀ j, j < L → u (20+j) = s (20+j)) (h5 : u 5 = nI c) : ∃ B, f3_readCommands_L9 (nI L) (F+1) (nI p) v u = f3_readCommands_L66 (f3_readCommands_L9 (nI L) F) (nI L) v (va_up u (60+c) (keyS kk)) (B+3) 0 (nI (p+1)) := by
  have t20 : ((20 : Int32)).toInt = 20 := rfl
  have hz : (0 : Int32) ≤ nI kk := nI_g0 (by omega)
  obtain ⟨B, hB⟩ : ∃ B, BIG = B + 3 := ⟨BIG - 3, by unfold BIG; omega⟩
  refine ⟨B, ?_⟩
  rw [f3_readCommands_L9]
  unfold f3_readCommands_b59
  simp only [bnd_e]
  rw [if_neg (c := nI L ≤ nI p) (fun z => by rw [ti_le, nI_toInt (by omega), nI_toInt (by omega)] at z; omega), h5, if_neg (c := (20 : Int32) ≤ nI c) (fun z => by rw [ti_le, t20, nI_toInt (by omega)] at z; omega), nI_clamp (by omega), hu p hpL, hp, if_pos hz, nI_clamp (by omega), nI_clamp (by omega), nI_s, hB]
theorem rd_tail {L c F : Nat} {v ky x : Int32} {q : Nat} (hc : c ≤ 20) (h5 : u 5 = nI c) : f3_readCommands_b106 (f3_readCommands_L9 (nI L) F) v (va_up u (60+c) ky) x (nI q) = f3_readCommands_L9 (nI L) F (nI q) (v + x) (va_up (va_up (va_up u (60+c) ky) (80+c) x) 5 (nI (c+1))) := by
  unfold f3_readCommands_b106
  simp only [bnd_e]
  rw [va_up_ne (k := 60+c) (j := 5) _ _ (by omega), h5, nI_clamp (by omega), va_up_ne (k := 80+c) (j := 5) _ _ (by omega), va_up_ne (k := 60+c) (j := 5) _ _ (by omega), h5, nI_s]
theorem fi_L {L : Nat} {s : Nat → Int32} (hL : L ≤ 40) : ∀ (n p c : Nat) (m : Nat → Int32), (∀ j, j < L → s (20+j) = m (500+j)) → m 494 = nI p → m 495 = nI c → 2*c ≤ p → (p < L ∨ (p = 0 ∧ L = 0)) → L < n + p → FI L s p c m (f7_areInputs_L10 (nI L) n m) := by
  intro n
  induction n with
  | zero => intro p c m h1 h2 h3 h4 h5 h6; omega
  | succ n ih =>
    intro p c m hs hp hc h2 hpl hn
    have eqi : ∀ a b : Nat, a < 1000 → b < 1000 → nI a = nI b → a = b := fun a b ha hb e => by
      have := congrArg Int32.toInt e
      rw [nI_toInt (by omega), nI_toInt (by omega)] at this
      omega
    have nle : ∀ a : Nat, a < L → ¬ nI L ≤ nI a := fun a ha z => by rw [ti_le, nI_toInt (by omega), nI_toInt (by omega)] at z; omega
    have yle : ∀ a : Nat, a = L → nI L ≤ nI a := fun a ha => by rw [ti_le, nI_toInt (by omega), nI_toInt (by omega)]; omega
    rw [f7_areInputs_L10, hp]
    by_cases cp : p < L
    · rw [if_neg (c := nI p = nI L) (fun e => by have := eqi p L (by omega) (by omega) e; omega), nI_clamp (by omega)]
      have hx := hs p cp
      have hL0 : ¬ nI L = 0 := fun e => by have := eqi L 0 (by omega) (by decide) e; omega
      have h21 : ¬ (2 : Int32) = 0 := by decide
      have h12 : ¬ (1 : Int32) = 2 := by decide
      have h02 : ¬ (0 : Int32) = 2 := by decide
      rcases key_kind (x := m (500+p)) with ⟨k1, k2⟩ | ⟨kk, k1, k2, k3, k4⟩
      · rw [k2]
        simp only [bnd_e]
        rw [if_neg (c := (0 : Int32) ≤ -1) (by decide)]
        refine ⟨0, p, m, rfl, hp, by omega, fun t _ _ _ => rfl, fun F d hd hF => ?_, Or.inl rfl⟩
        rw [if_pos rfl]
        cases F with
        | zero => omega
        | succ F =>
          rw [f3_faultOfInputs_L4, if_neg (nle p cp)]
          simp only [bnd_e]
          rw [nI_clamp (by omega), hx, k1, if_neg (c := (0 : Int32) ≤ -1) (by decide)]
          rcases dg01 (x := m (500+p)) with e | ⟨e, -⟩
          · rw [if_pos e]
            split
            · rfl
            · rfl
          · rw [if_neg (c := f3_isDigit (m (500+p)) = 0) (fun z => by rw [e] at z; exact n10 z)]
            rcases hd with e2 | ⟨e2, e3⟩
            · rw [if_pos e2]
            · have := e3 cp
              rw [hx, e] at this
              exact absurd this n10
      · rw [k3]
        simp only [bnd_e]
        rw [if_pos (keyS_ge kk k1), hc, nI_clamp (by omega), va_up_ne (k := 540+c) (j := 494) _ _ (by omega), hp, nI_s]
        have hnd : f3_isDigit (s (20+p)) = 0 := by rw [hx]; exact k4
        have hpk : f3_placeOf (s (20+p)) 1 = nI kk := by rw [hx]; exact k2
        have f1 : va_up (va_up m (540+c) (keyS kk)) 494 (nI (p+1)) 494 = nI (p+1) := va_up_self _ _ _
        have f2 : va_up (va_up m (540+c) (keyS kk)) 494 (nI (p+1)) 495 = nI c := by rw [va_up_ne _ _ (by decide), va_up_ne _ _ (by omega)]; exact hc
        have f3 : ∀ t, ¬ t = 494 → ¬ t = 540+c → va_up (va_up m (540+c) (keyS kk)) 494 (nI (p+1)) t = m t := fun t x1 x2 => by rw [va_up_ne _ _ x1, va_up_ne _ _ x2]
        have f4 : va_up (va_up m (540+c) (keyS kk)) 494 (nI (p+1)) (540+c) = keyS kk := by rw [va_up_ne _ _ (by omega), va_up_self]
        generalize va_up (va_up m (540+c) (keyS kk)) 494 (nI (p+1)) = m1 at f1 f2 f3 f4
        have hz : (0 : Int32) ≤ nI kk := nI_g0 (by omega)
        have sF1 : ∀ F d, (d = 2 ∨ (d = 1 ∧ (p < L → f3_isDigit (s (20+p)) = 0))) → L < F + p → ∃ F', L < F' + (p+1) ∧ f3_faultOfInputs_L4 s (nI L) F (nI p) d = f3_faultOfInputs_L4 s (nI L) F' (nI (p+1)) 0 := by
          intro F d hd hF
          cases F with
          | zero => omega
          | succ F =>
            have hd0 : ¬ d = 0 := by rcases hd with e | ⟨e, -⟩ <;> rw [e] <;> decide
            refine ⟨F, by omega, ?_⟩
            rw [f3_faultOfInputs_L4, if_neg (nle p cp)]
            unfold f3_faultOfInputs_b56
            simp only [bnd_e]
            rw [nI_clamp (by omega), hnd, if_pos (c := (0 : Int32) = 0) rfl, if_neg hd0, hpk, if_pos hz, nI_s]
        rw [dg7 hL (by omega) f1, f1, f2]
        by_cases D1 : p + 1 < L ∧ ¬ f3_isDigit (s (20+(p+1))) = 0
        · rw [if_pos D1.1, f3 (500+(p+1)) (by omega) (by omega), ← hs (p+1) D1.1, if_neg D1.2, nI_clamp (by omega), nI_clamp (by omega), f3 (500+(p+1)) (by omega) (by omega), ← hs (p+1) D1.1]
          rcases dg01 (x := s (20+(p+1))) with e1 | ⟨e1, A1, hA1, v1⟩
          · exact absurd e1 D1.2
          rw [v1, va_up_ne (k := 560+c) (j := 494) _ _ (by omega), f1, nI_s]
          have g1 : va_up (va_up m1 (560+c) (nI A1)) 494 (nI (p+1+1)) 494 = nI (p+2) := va_up_self _ _ _
          have g2 : va_up (va_up m1 (560+c) (nI A1)) 494 (nI (p+1+1)) 495 = nI c := by rw [va_up_ne _ _ (by decide), va_up_ne _ _ (by omega)]; exact f2
          have g3 : ∀ t, ¬ t = 494 → ¬ t = 540+c → ¬ t = 560+c → va_up (va_up m1 (560+c) (nI A1)) 494 (nI (p+1+1)) t = m t := fun t x1 x2 x3 => by rw [va_up_ne _ _ x1, va_up_ne _ _ x3]; exact f3 t x1 x2
          have g4 : va_up (va_up m1 (560+c) (nI A1)) 494 (nI (p+1+1)) (540+c) = keyS kk := by rw [va_up_ne _ _ (by omega), va_up_ne _ _ (by omega)]; exact f4
          have g5 : va_up (va_up m1 (560+c) (nI A1)) 494 (nI (p+1+1)) (560+c) = nI A1 := by rw [va_up_ne _ _ (by omega), va_up_self]
          generalize va_up (va_up m1 (560+c) (nI A1)) 494 (nI (p+1+1)) = m3 at g1 g2 g3 g4 g5
          have sF2 : ∀ F d, (d = 2 ∨ (d = 1 ∧ (p < L → f3_isDigit (s (20+p)) = 0))) → L < F + p → ∃ F', L < F' + (p+2) ∧ f3_faultOfInputs_L4 s (nI L) F (nI p) d = f3_faultOfInputs_L4 s (nI L) F' (nI (p+2)) 1 := by
            intro F d hd hF
            obtain ⟨F', h1, h2⟩ := sF1 F d hd hF
            cases F' with
            | zero => omega
            | succ F' =>
              refine ⟨F', by omega, ?_⟩
              rw [h2, f3_faultOfInputs_L4, if_neg (nle (p+1) D1.1)]
              unfold f3_faultOfInputs_b56
              simp only [bnd_e]
              rw [nI_clamp (by omega), if_neg D1.2, if_neg h02, nI_s]
              rfl
          rw [dg7 hL (show p + 2 ≤ L by omega) g1, g1, g2]
          have sub48 : ∀ a b : Nat, ∀ x : Int32, x - 48 = nI b → nI 10 * nI a + x - 48 = nI (10*a+b) := fun a b x e => by
            rw [Int32.sub_eq_add_neg, Int32.add_assoc, ← Int32.sub_eq_add_neg, e, pk_mul, nI_add]
          by_cases D2 : p + 2 < L ∧ ¬ f3_isDigit (s (20+(p+2))) = 0
          · rw [if_pos D2.1, g3 (500+(p+2)) (by omega) (by omega) (by omega), ← hs (p+2) D2.1, if_neg D2.2]
            unfold f7_areInputs_b159
            simp only [bnd_e]
            rcases dg01 (x := s (20+(p+2))) with e2 | ⟨e2, A2, hA2, v2⟩
            · exact absurd e2 D2.2
            rw [nI_clamp (by omega), nI_clamp (by omega), g5, g3 (500+(p+2)) (by omega) (by omega) (by omega), ← hs (p+2) D2.1, show (10 : Int32) = nI 10 from rfl, sub48 A1 A2 _ v2, va_up_ne (k := 560+c) (j := 494) _ _ (by omega), g1, nI_s]
            have w1 : va_up (va_up (va_up m3 (560+c) (nI (10*A1+A2))) 494 (nI (p+2+1))) 495 (nI (c+1)) 494 = nI (p+3) := by rw [va_up_ne _ _ (by decide), va_up_self]
            have w2 : va_up (va_up (va_up m3 (560+c) (nI (10*A1+A2))) 494 (nI (p+2+1))) 495 (nI (c+1)) 495 = nI (c+1) := va_up_self _ _ _
            have w3 : ∀ t, ¬ t = 494 → ¬ t = 495 → ¬ t = 540+c → ¬ t = 560+c → va_up (va_up (va_up m3 (560+c) (nI (10*A1+A2))) 494 (nI (p+2+1))) 495 (nI (c+1)) t = m t := fun t x1 x2 x3 x4 => by rw [va_up_ne _ _ x2, va_up_ne _ _ x1, va_up_ne _ _ x4]; exact g3 t x1 x3 x4
            have w4 : va_up (va_up (va_up m3 (560+c) (nI (10*A1+A2))) 494 (nI (p+2+1))) 495 (nI (c+1)) (540+c) = keyS kk := by rw [va_up_ne _ _ (by omega), va_up_ne _ _ (by omega), va_up_ne _ _ (by omega)]; exact g4
            have w5 : va_up (va_up (va_up m3 (560+c) (nI (10*A1+A2))) 494 (nI (p+2+1))) 495 (nI (c+1)) (560+c) = nI (10*A1+A2) := by rw [va_up_ne _ _ (by omega), va_up_ne _ _ (by omega), va_up_self]
            have r495 : va_up (va_up m3 (560+c) (nI (10*A1+A2))) 494 (nI (p+2+1)) 495 = nI c := by rw [va_up_ne _ _ (by decide), va_up_ne _ _ (by omega)]; exact g2
            rw [r495, nI_s]
            generalize va_up (va_up (va_up m3 (560+c) (nI (10*A1+A2))) 494 (nI (p+2+1))) 495 (nI (c+1)) = m4 at w1 w2 w3 w4 w5
            rw [w1]
            refine fi_end (A := 10*A1+A2) (d2 := 2) hL hs h2 cp hnd (show p + 2 ≤ p + 3 by omega) (by omega) (by omega) (keyS_bd kk k1) w1 w2 w3 w4 w5 (Or.inl rfl) (fun F d hd hF => ?_) (fun hz3 F v u hu h5 hF => ?_) (fun cq => ih (p+3) (c+1) m4 (fun j hj => (hs j hj).trans (w3 _ (by omega) (by omega) (by omega) (by omega)).symm) w1 w2 (by omega) (Or.inl cq) (by omega))
            · obtain ⟨F', h1, h2⟩ := sF2 F d hd hF
              cases F' with
              | zero => omega
              | succ F' =>
                refine ⟨F', by omega, ?_⟩
                rw [h2, f3_faultOfInputs_L4, if_neg (nle (p+2) D2.1)]
                unfold f3_faultOfInputs_b56
                simp only [bnd_e]
                rw [nI_clamp (by omega), if_neg D2.2, if_neg h12, nI_s]
                rfl
            · cases F with
              | zero => omega
              | succ F =>
                have c1 : ∀ j, j < L → va_up u (60+c) (keyS kk) (20+j) = s (20+j) := fun j hj => by rw [va_up_ne _ _ (by omega)]; exact hu j hj
                obtain ⟨B, hB⟩ := rd_head (F := F) (v := v) hL cp h2 k1 hpk hu h5
                refine ⟨F, by omega, ?_⟩
                have q3 : ¬ (p + 1 + 1 + 1 < L ∧ ¬ f3_isDigit (va_up u (60+c) (keyS kk) (20+(p+1+1+1))) = 0) := fun z => z.2 (by rw [c1 _ z.1]; exact hz3 z.1)
                rw [hB, s66 hL (by omega), c1 _ D1.1, if_pos D1, s66 hL (by omega), c1 _ D2.1, if_pos D2, s66 hL (by omega), if_neg q3, Int32.zero_mul, Int32.zero_add, v1, Int32.mul_comm, show (10 : Int32) = nI 10 from rfl, sub48 A1 A2 _ v2, rd_tail (by omega) h5]
          · have hif : (if p + 2 < L then f3_isDigit (m3 (500+(p+2))) else 0) = 0 := by
              by_cases e : p + 2 < L
              · rw [if_pos e, g3 (500+(p+2)) (by omega) (by omega) (by omega), ← hs (p+2) e]
                exact Classical.byContradiction (fun z => D2 ⟨e, z⟩)
              · rw [if_neg e]
            have hz2 : p + 2 < L → f3_isDigit (s (20+(p+2))) = 0 := fun e => Classical.byContradiction (fun z => D2 ⟨e, z⟩)
            rw [if_pos hif]
            unfold f7_areInputs_b159
            simp only [bnd_e]
            rw [g2, nI_s]
            have w1 : va_up m3 495 (nI (c+1)) 494 = nI (p+2) := by rw [va_up_ne _ _ (by decide)]; exact g1
            have w2 : va_up m3 495 (nI (c+1)) 495 = nI (c+1) := va_up_self _ _ _
            have w3 : ∀ t, ¬ t = 494 → ¬ t = 495 → ¬ t = 540+c → ¬ t = 560+c → va_up m3 495 (nI (c+1)) t = m t := fun t x1 x2 x3 x4 => by rw [va_up_ne _ _ x2]; exact g3 t x1 x3 x4
            have w4 : va_up m3 495 (nI (c+1)) (540+c) = keyS kk := by rw [va_up_ne _ _ (by omega)]; exact g4
            have w5 : va_up m3 495 (nI (c+1)) (560+c) = nI A1 := by rw [va_up_ne _ _ (by omega)]; exact g5
            generalize va_up m3 495 (nI (c+1)) = m4 at w1 w2 w3 w4 w5
            rw [w1]
            refine fi_end (A := A1) (d2 := 1) hL hs h2 cp hnd (show p + 2 ≤ p + 2 by omega) (by omega) (by omega) (keyS_bd kk k1) w1 w2 w3 w4 w5 (Or.inr ⟨rfl, hz2⟩) sF2 (fun hz3 F v u hu h5 hF => ?_) (fun cq => ih (p+2) (c+1) m4 (fun j hj => (hs j hj).trans (w3 _ (by omega) (by omega) (by omega) (by omega)).symm) w1 w2 (by omega) (Or.inl cq) (by omega))
            cases F with
            | zero => omega
            | succ F =>
              have c1 : ∀ j, j < L → va_up u (60+c) (keyS kk) (20+j) = s (20+j) := fun j hj => by rw [va_up_ne _ _ (by omega)]; exact hu j hj
              obtain ⟨B, hB⟩ := rd_head (F := F) (v := v) hL cp h2 k1 hpk hu h5
              refine ⟨F, by omega, ?_⟩
              have q3 : ¬ (p + 1 + 1 < L ∧ ¬ f3_isDigit (va_up u (60+c) (keyS kk) (20+(p+1+1))) = 0) := fun z => z.2 (by rw [c1 _ z.1]; exact hz3 z.1)
              rw [hB, s66 hL (by omega), c1 _ D1.1, if_pos D1, s66 hL (by omega), if_neg q3, Int32.zero_mul, Int32.zero_add, v1, rd_tail (by omega) h5]
        · have hif : (if p + 1 < L then f3_isDigit (m1 (500+(p+1))) else 0) = 0 := by
            by_cases e : p + 1 < L
            · rw [if_pos e, f3 (500+(p+1)) (by omega) (by omega), ← hs (p+1) e]
              exact Classical.byContradiction (fun z => D1 ⟨e, z⟩)
            · rw [if_neg e]
          rw [if_pos hif]
          refine ⟨0, p+1, m1, rfl, f1, by omega, fun t x1 x2 x3 => f3 t x1 (by omega), fun F d hd hF => ?_, Or.inl rfl⟩
          obtain ⟨F', h1, h2⟩ := sF1 F d hd hF
          rw [if_pos rfl]
          cases F' with
          | zero => omega
          | succ F' =>
            rw [h2, f3_faultOfInputs_L4]
            by_cases e : p + 1 < L
            · rw [if_neg (nle (p+1) e)]
              simp only [bnd_e]
              rw [nI_clamp (by omega), if_pos (Classical.byContradiction (fun z => D1 ⟨e, z⟩) : f3_isDigit (s (20+(p+1))) = 0), if_pos (c := True) trivial]
            · rw [if_pos (yle (p+1) (by omega)), if_neg hL0, if_pos (c := (0 : Int32) = 0) rfl, show p + 1 = L by omega]
    · have hp0 : p = 0 ∧ L = 0 := by omega
      rw [if_pos (c := nI p = nI L) (by rw [hp0.1, hp0.2])]
      refine ⟨0, p, m, rfl, hp, by omega, fun t _ _ _ => rfl, fun F d hd hF => ?_, Or.inl rfl⟩
      rw [if_pos rfl]
      cases F with
      | zero => omega
      | succ F => rw [f3_faultOfInputs_L4, if_pos (yle p (by omega)), if_pos (c := nI L = 0) (by rw [hp0.2]; rfl), hp0.1, hp0.2]
theorem fi_e {L : Nat} {s : Nat → Int32} (hL : L ≤ 40) (hs : ∀ j, j < L → s (20+j) = m (500+j)) : ∃ is p2 m2, f7_areInputs m (nI L) = (is, m2) ∧ m2 494 = nI p2 ∧ p2 ≤ L ∧ (∀ t, ¬ t = 494 → ¬ t = 495 → ¬ (540 ≤ t ∧ t < 580) → m2 t = m t) ∧ f3_faultOfInputs s (nI L) = (if is = 0 then nI p2 else -1) ∧
   (is = 0 ∨ (is = 1 ∧ ∃ c2, c2 ≤ 20 ∧ m2 495 = nI c2 ∧ (∀ j, j < c2 → (0 ≤ (m2 (540+j)).toInt ∧ (m2 (540+j)).toInt ≤ 15) ∧ ∃ A : Nat, A ≤ 99 ∧ m2 (560+j) = nI A) ∧
     ∀ u, (∀ j, j < L → u (20+j) = s (20+j)) → ∃ u2, f3_readCommands u (nI L) = (smL m2 c2 0 0, u2) ∧ u2 5 = nI c2 ∧ (∀ t, ¬ t = 5 → ¬ (60 ≤ t ∧ t < 100) → u2 t = u t) ∧ (∀ j, j < c2 → u2 (60+j) = m2 (540+j) ∧ u2 (80+j) = m2 (560+j)))) := by
  have g := fi_L (s := s) hL BIG 0 0 (va_up (va_up m 494 0) 495 0) (fun j hj => by rw [va_up_ne _ _ (by omega), va_up_ne _ _ (by omega)]; exact hs j hj) (by rw [va_up_ne _ _ (by decide), va_up_self]; rfl) (va_up_self _ _ _) (by decide) (by omega) (by unfold BIG; omega)
  obtain ⟨is, p2, m2, b1, b2, b3, b4, b5, b6⟩ := g
  refine ⟨is, p2, m2, ?_, b2, b3, fun t x1 x2 x3 => ?_, b5 BIG 2 (Or.inl rfl) (by unfold BIG; omega), ?_⟩
  · unfold f7_areInputs
    simp only [bnd_e]
    exact b1
  · rw [b4 t x1 x2 x3, va_up_ne _ _ x2, va_up_ne _ _ x1]
  · rcases b6 with b6 | ⟨e1, -, -, c2, e4, e5, e6, e7, e8, e9⟩
    · exact Or.inl b6
    · refine Or.inr ⟨e1, c2, by omega, e6, fun j hj => e8 j (Nat.zero_le _) hj, fun u hu => ?_⟩
      obtain ⟨u2, r1, r2, r3, r4, r5⟩ := e9 BIG 0 (va_up u 5 0) (fun j hj => by rw [va_up_ne _ _ (by omega)]; exact hu j hj) (va_up_self _ _ _) (by unfold BIG; omega)
      refine ⟨u2, ?_, r2, fun t x1 x2 => ?_, fun j hj => r5 j (Nat.zero_le _) hj⟩
      · unfold f3_readCommands
        simp only [bnd_e]
        exact r1
      · rw [r3 t x1 x2, va_up_ne _ _ x1]
end
