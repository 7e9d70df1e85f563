/-! PURE: steps 11 and 12 of an update -/
def T9 (u v : Nat → Int32) : Prop := ∀ c r : Int32, f4_kindAt u c r = 9 ↔ f4_kindAt v c r = 9
def T9F (u v : Nat → Int32) : Prop := T9 u v ∧ ∀ t, 336 ≤ t → u t = v t
section
variable {KK : Int} {lo : Nat → Int} {sz M0 : Nat → Int32} {N Q c : Nat} {k l : Int} {u m v : Nat → Int32} {i j p : Nat}
def FIN (KK : Int) (lo : Nat → Int) (sz M0 : Nat → Int32) (N Q c : Nat) (k : Int) (i : Nat) (b0 : Int32) (v : Nat → Int32) (a : Int32 × (Nat → Int32)) (t : Int32) (b : Int32 × (Nat → Int32)) (fl : Int32) : Prop := RC KK lo sz M0 N Q c k (va_up a.2 (336+24*i+14) (b0 + a.1)) b.2 ∧ T9F a.2 v ∧ (b.1 = 0 ↔ (fl = 0 ∧ t = 0))
theorem kind_ix {a b : Int32} (h : f7_kindIn m a b = 10) : ¬ a < 0 ∧ a < 24 ∧ ¬ b < 0 ∧ b < 14 := by
  unfold f7_kindIn at h
  by_cases h1 : a < 0
  · rw [if_pos h1] at h; exact absurd h (by decide)
  · rw [if_neg h1] at h
    by_cases h2 : a < 24
    · rw [if_pos h2] at h
      by_cases h3 : b < 0
      · rw [if_pos h3] at h; exact absurd h (by decide)
      · rw [if_neg h3] at h
        by_cases h4 : b < 14
        · exact ⟨h1, h2, h3, h4⟩
        · rw [if_neg h4] at h; exact absurd h (by decide)
    · rw [if_neg h2] at h; exact absurd h (by decide)
theorem put_e {a b : Int32} (h : ¬ a < 0 ∧ a < 24 ∧ ¬ b < 0 ∧ b < 14) : f4_put u a b 0 = va_up u (24 * b + a).toNatClampNeg 0 := by
  obtain ⟨h1, h2, h3, h4⟩ := h
  unfold f4_put f6_isTile f6_isWithin
  simp only [bnd_e]
  have t23 : ((23 : Int32)).toInt = 23 := rfl
  have t24 : ((24 : Int32)).toInt = 24 := rfl
  have t13 : ((13 : Int32)).toInt = 13 := rfl
  have t14 : ((14 : Int32)).toInt = 14 := rfl
  have h5 : ¬ 23 < a := fun z => by rw [ti_lt] at z h2; omega
  have h6 : ¬ 13 < b := fun z => by rw [ti_lt] at z h4; omega
  rw [if_neg h1, if_neg h5, if_neg (show ¬ (1 : Int32) = 0 by decide), if_neg h3, if_neg h6, if_neg (show ¬ (1 : Int32) = 0 by decide), if_neg (show ¬ (1 : Int32) = 0 by decide), Int32.mul_comm b 24]
theorem T9_up {a b : Int32} (h : ¬ a < 0 ∧ a < 24 ∧ ¬ b < 0 ∧ b < 14) (hk : u (24 * b + a).toNatClampNeg = 10) : T9 (va_up u (24 * b + a).toNatClampNeg 0) u := by
  intro a2 b2
  unfold f4_kindAt
  by_cases h1 : a2 < 0
  · rw [if_pos h1, if_pos h1]
  · rw [if_neg h1, if_neg h1]
    by_cases h2 : a2 < 24
    · rw [if_pos h2, if_pos h2]
      by_cases h3 : b2 < 0
      · rw [if_pos h3, if_pos h3]
      · rw [if_neg h3, if_neg h3]
        by_cases h4 : b2 < 14
        · rw [if_pos h4, if_pos h4]
          by_cases e : (b2 * 24 + a2).toNatClampNeg = (24 * b + a).toNatClampNeg
          · rw [e, va_up_self, hk]
            decide
          · rw [va_up_ne _ _ e]
        · rw [if_neg h4, if_neg h4]
    · rw [if_neg h2, if_neg h2]
theorem T9.tr {u v w : Nat → Int32} (h1 : T9 u v) (h2 : T9 v w) : T9 u w := fun a b => (h1 a b).trans (h2 a b)
theorem T9_14 (hi : i < 4) {x : Int32} : T9 (va_up u (336+24*i+14) x) u := fun a b => by rw [e_kind (u := va_up u (336+24*i+14) x) (m := u) (fun t ht => va_up_ne _ _ (by omega)), ← e_kind (u := u) (m := u) (fun _ _ => rfl)]
theorem FIN.cv {b0 t t0 fl fl2 : Int32} {a b : Int32 × (Nat → Int32)} (h : FIN KK lo sz M0 N Q c k i b0 v a t b fl2) (he : (fl2 = 0 ∧ t = 0) ↔ (fl = 0 ∧ t0 = 0)) : FIN KK lo sz M0 N Q c k i b0 v a t0 b fl := ⟨h.1, h.2.1, h.2.2.trans he⟩
def DM (i : Nat) (x y w h : Int32) (m : Nat → Int32) : Prop := m (336+24*i+0) = x ∧ m (336+24*i+1) = y ∧ m (336+24*i+7) = w ∧ m (336+24*i+8) = h
theorem n10 : ¬ (1 : Int32) = 0 := by decide
/-- the rows of a column -/
theorem e_cin {kC : Int32 → Int32 → (Nat → Int32) → Int32 × (Nat → Int32)} {kT : Int32 → Int32} {kR : Int32 → Int32 → (Nat → Int32) → Int32 × (Nat → Int32)} {b0 x y w hh col : Int32} (hi : i < N)
    (hkk : ∀ cnt fl u m, RC KK lo sz M0 N Q c k (va_up u (336+24*i+14) (b0 + cnt)) m → DM i x y w hh m → T9F u v → FIN KK lo sz M0 N Q c k i b0 v (kC (col+1) cnt u) (kT (col+1)) (kR (col+1) fl m) fl) :
    ∀ (n : Nat) (r cnt fl : Int32) (u m : Nat → Int32), (134217728 - r.toInt).toNat < n → RC KK lo sz M0 N Q c k (va_up u (336+24*i+14) (b0 + cnt)) m → DM i x y w hh m → T9F u v →
      FIN KK lo sz M0 N Q c k i b0 v (f4_giveCoins_L43 kC (((y + hh) - 1) >>> ((4 : Int32) &&& 31)) col n r cnt u) (f4_touch_L41 kT v 9 (((y + hh) - 1) >>> ((4 : Int32) &&& 31)) col n r) (f7_touches_L50 kR (nI i) col n r fl m) fl := by
  intro n
  induction n with
  | zero => intro r cnt fl u m h; omega
  | succ n ih =>
    intro r cnt fl u m hn h hD h9
    have h4 := h.i4 hi
    obtain ⟨d0, d1, d7, d8⟩ := hD
    have hT : ET u m := fun t ht => (va_up_ne _ _ (by omega)).symm.trans (h.T t ht)
    rw [f4_giveCoins_L43, f4_touch_L41, f7_touches_L50]
    unfold f4_giveCoins_b75 f7_touches_b94 f7_touches_b99 f7_touches_b131
    simp only [bnd_e]
    rw [o_1 h4, o_8 h4, d1, d8, e_row, e_kind hT]
    have hkv : (f4_kindAt v col r = 9) ↔ f7_kindIn m col r = 9 := by rw [← h9.1 col r, e_kind hT]
    by_cases hl : ((y + hh) - 1) >>> ((4 : Int32) &&& 31) < r
    · rw [if_pos hl, if_pos hl, if_pos hl]
      exact hkk cnt fl u m h ⟨d0, d1, d7, d8⟩ h9
    · rw [if_neg hl, if_neg hl, if_neg hl]
      have hd := dec_k hl (shr4k _) (rfl : r + 1 = r + 1)
      by_cases c10 : f7_kindIn m col r = 10
      · have hix := kind_ix c10
        have c9 : ¬ f7_kindIn m col r = 9 := by rw [c10]; decide
        have ht : (24 * r + col).toNatClampNeg < 336 := kindIn_in (u := m) hix.1 hix.2.1 hix.2.2.1 hix.2.2.2
        have hu10 : u (24 * r + col).toNatClampNeg = 10 := by
          rw [hT _ ht]
          unfold f7_kindIn at c10
          rw [if_neg hix.1, if_pos hix.2.1, if_neg hix.2.2.1, if_pos hix.2.2.2] at c10
          exact c10
        have h14 : m (336+24*i+14) = b0 + cnt := by
          have := h.B hi 14 (by decide)
          rw [va_up_self] at this
          exact this.symm
        have hz : RC KK lo sz M0 N Q c k (va_up (va_up u (24 * r + col).toNatClampNeg 0) (336+24*i+14) (b0 + (cnt + 1))) (f7_adds (va_up m (24 * r + col).toNatClampNeg 0) (nI i) 14 1) := by
          have h5 := (h.st (x := 0) (y := 0) (Or.inl ht) rfl).sb (j := 14) (x := b0 + (cnt + 1)) (y := b0 + (cnt + 1)) hi (by decide) rfl trivial
          rw [up_comm (a := 336+24*i+14) (b := (24 * r + col).toNatClampNeg) (by omega), up_up] at h5
          rw [a_14 h4, va_up_ne (k := (24 * r + col).toNatClampNeg) (j := 336+24*i+14) _ _ (by omega), h14, Int32.add_assoc]
          exact h5
        have hD2 : DM i x y w hh (f7_adds (va_up m (24 * r + col).toNatClampNeg 0) (nI i) 14 1) := by
          rw [a_14 h4]
          unfold DM
          repeat first | rw [va_up_ne _ _ (by omega)]
          exact ⟨d0, d1, d7, d8⟩
        have step := fun fl2 => ih (r+1) (cnt+1) fl2 _ _ (by omega) hz hD2 ⟨(T9_up hix hu10).tr h9.1, fun t ht9 => (va_up_ne _ _ (by omega)).trans (h9.2 t ht9)⟩
        rw [if_pos c10, if_neg (fun z => c9 (hkv.mp z)), put_e hix]
        simp only [if_pos c10]
        by_cases cf : fl = 0
        · rw [if_pos cf, if_neg c9]
          exact (step 0).cv (by rw [cf])
        · rw [if_neg cf]
          exact (step 1).cv ⟨fun z => absurd z.1 n10, fun z => absurd z.1 cf⟩
      · have step := fun fl2 => ih (r+1) cnt fl2 _ _ (by omega) h ⟨d0, d1, d7, d8⟩ h9
        rw [if_neg c10]
        simp only [if_neg c10]
        by_cases c9 : f7_kindIn m col r = 9
        · rw [if_pos (hkv.mpr c9), if_pos c9]
          by_cases cf : fl = 0
          · rw [if_pos cf]
            exact (step 1).cv ⟨fun z => absurd z.1 n10, fun z => absurd z.2 n10⟩
          · rw [if_neg cf]
            exact (step 1).cv ⟨fun z => absurd z.1 n10, fun z => absurd z.2 n10⟩
        · rw [if_neg (fun z => c9 (hkv.mp z)), if_neg c9]
          by_cases cf : fl = 0
          · rw [if_pos cf]
            exact (step 0).cv (by rw [cf])
          · rw [if_neg cf]
            exact (step 1).cv ⟨fun z => absurd z.1 n10, fun z => absurd z.1 cf⟩
/-- the columns -/
theorem e_cout {b0 x y w hh : Int32} (hi : i < N) (hv1 : v (336+24*i+1) = y) :
    ∀ (n : Nat) (col cnt fl : Int32) (u m : Nat → Int32), (134217728 - col.toInt).toNat < n → RC KK lo sz M0 N Q c k (va_up u (336+24*i+14) (b0 + cnt)) m → DM i x y w hh m → T9F u v →
      FIN KK lo sz M0 N Q c k i b0 v (f4_giveCoins_L29 i (((x + w) - 1) >>> ((4 : Int32) &&& 31)) (((y + hh) - 1) >>> ((4 : Int32) &&& 31)) n col cnt u) (f4_touch_L27 v i 9 (((x + w) - 1) >>> ((4 : Int32) &&& 31)) (((y + hh) - 1) >>> ((4 : Int32) &&& 31)) n col) (f7_touches_L14 (nI i) n col fl m) fl := by
  intro n
  induction n with
  | zero => intro r cnt fl u m h; omega
  | succ n ih =>
    intro col cnt fl u m hn h hD h9
    have h4 := h.i4 hi
    have hD' := hD
    obtain ⟨d0, d1, d7, d8⟩ := hD
    have hu1 : u (336+24*i+1) = y := (va_up_ne (k := 336+24*i+14) _ _ (by omega)).symm.trans ((h.B hi 1 (by decide)).trans d1)
    rw [f4_giveCoins_L29, f4_touch_L27, f7_touches_L14]
    simp only [bnd_e]
    rw [o_0 h4, o_7 h4, o_1 h4, d0, d7, d1, fd16, e_row, hu1, hv1]
    by_cases hl : ((x + w) - 1) >>> ((4 : Int32) &&& 31) < col
    · rw [if_pos hl, if_pos hl, if_pos hl]
      exact ⟨h, h9, by simp⟩
    · rw [if_neg hl, if_neg hl, if_neg hl]
      have hd := dec_k hl (shr4k _) (rfl : col + 1 = col + 1)
      exact e_cin hi (fun cnt fl u m a1 a2 a3 => ih (col+1) cnt fl u m (by omega) a1 a2 a3) BIG _ cnt fl u m (big_k _) h hD' h9
/-- touch asks the tiles for 9 alone -/
theorem t9_in {kT kT2 : Int32 → Int32} {a : Nat → Int32} {Lr col : Int32} (h9 : T9 a v) (hk : kT (col+1) = kT2 (col+1)) : ∀ (n : Nat) (r : Int32), f4_touch_L41 kT a 9 Lr col n r = f4_touch_L41 kT2 v 9 Lr col n r := by
  intro n
  induction n with
  | zero => intro r; rfl
  | succ n ih =>
    intro r
    rw [f4_touch_L41, f4_touch_L41]
    simp only [bnd_e]
    by_cases hl : Lr < r
    · rw [if_pos hl, if_pos hl, hk]
    · rw [if_neg hl, if_neg hl]
      by_cases c9 : f4_kindAt a col r = 9
      · rw [if_pos c9, if_pos ((h9 _ _).mp c9)]
      · rw [if_neg c9, if_neg (fun z => c9 ((h9 _ _).mpr z)), ih]
theorem t9_out {a : Nat → Int32} {Lr Lc : Int32} (h9 : T9 a v) (h1 : a (336+24*i+1) = v (336+24*i+1)) : ∀ (n : Nat) (col : Int32), f4_touch_L27 a i 9 Lc Lr n col = f4_touch_L27 v i 9 Lc Lr n col := by
  intro n
  induction n with
  | zero => intro r; rfl
  | succ n ih =>
    intro col
    rw [f4_touch_L27, f4_touch_L27, h1]
    simp only [bnd_e]
    by_cases hl : Lc < col
    · rw [if_pos hl, if_pos hl]
    · rw [if_neg hl, if_neg hl]
      exact t9_in h9 (ih _) BIG _
theorem t9_touch {a : Nat → Int32} (h9 : T9 a v) (h0 : a (336+24*i+0) = v (336+24*i+0)) (h1 : a (336+24*i+1) = v (336+24*i+1)) (h7 : a (336+24*i+7) = v (336+24*i+7)) (h8 : a (336+24*i+8) = v (336+24*i+8)) : f4_touch a i 9 = f4_touch v i 9 := by
  unfold f4_touch f0_lastColumnAt f0_lastRowAt
  simp only [bnd_e]
  rw [h0, h1, h7, h8]
  exact t9_out h9 h1 BIG _
theorem e_coins (h : RC KK lo sz M0 N Q c k u m) (hi : i < N) : ∃ rc uc rm mm, f4_giveCoins u i = (rc, uc) ∧ f7_touches m (nI i) = (rm, mm) ∧ RC KK lo sz M0 N Q c k (va_up uc (336+24*i+14) (u (336+24*i+14) + rc)) mm ∧ (rm = 0 ↔ f4_touch (va_up uc (336+24*i+14) (u (336+24*i+14) + rc)) i 9 = 0) := by
  have h4 := h.i4 hi
  have hB := h.B hi
  have h0 : RC KK lo sz M0 N Q c k (va_up u (336+24*i+14) (u (336+24*i+14) + 0)) m := by rw [Int32.add_zero, up_eta]; exact h
  have key := e_cout (v := u) (b0 := u (336+24*i+14)) (x := m (336+24*i+0)) (y := m (336+24*i+1)) (w := m (336+24*i+7)) (hh := m (336+24*i+8)) hi (hB 1 (by decide)) BIG (m (336+24*i+0) >>> ((4 : Int32) &&& 31)) 0 0 u m (big_k _) h0 ⟨rfl, rfl, rfl, rfl⟩ ⟨fun _ _ => Iff.rfl, fun _ _ => rfl⟩
  have e1 : f4_giveCoins u i = f4_giveCoins_L29 i (((m (336+24*i+0) + m (336+24*i+7)) - 1) >>> ((4 : Int32) &&& 31)) (((m (336+24*i+1) + m (336+24*i+8)) - 1) >>> ((4 : Int32) &&& 31)) BIG (m (336+24*i+0) >>> ((4 : Int32) &&& 31)) 0 u := by
    unfold f4_giveCoins f0_lastColumnAt f0_lastRowAt
    simp only [bnd_e]
    rw [hB 0 (by decide), hB 1 (by decide), hB 7 (by decide), hB 8 (by decide)]
  have e2 : f4_touch u i 9 = f4_touch_L27 u i 9 (((m (336+24*i+0) + m (336+24*i+7)) - 1) >>> ((4 : Int32) &&& 31)) (((m (336+24*i+1) + m (336+24*i+8)) - 1) >>> ((4 : Int32) &&& 31)) BIG (m (336+24*i+0) >>> ((4 : Int32) &&& 31)) := by
    unfold f4_touch f0_lastColumnAt f0_lastRowAt
    simp only [bnd_e]
    rw [hB 0 (by decide), hB 1 (by decide), hB 7 (by decide), hB 8 (by decide)]
  have e3 : f7_touches m (nI i) = f7_touches_L14 (nI i) BIG (m (336+24*i+0) >>> ((4 : Int32) &&& 31)) 0 m := by
    unfold f7_touches
    simp only [bnd_e]
    rw [o_0 h4, fd16]
  rw [← e1, ← e2, ← e3] at key
  generalize f4_giveCoins u i = a at key
  generalize f7_touches m (nI i) = b at key
  obtain ⟨a1, a2⟩ := a
  obtain ⟨b1, b2⟩ := b
  obtain ⟨k1, ⟨k2, k3⟩, k4⟩ := key
  have k1 : RC KK lo sz M0 N Q c k (va_up a2 (336+24*i+14) (u (336+24*i+14) + a1)) b2 := k1
  have k2 : T9 a2 u := k2
  have k3 : ∀ t, 336 ≤ t → a2 t = u t := k3
  have k4 : b1 = 0 ↔ ((0 : Int32) = 0 ∧ f4_touch u i 9 = 0) := k4
  have k5 := t9_touch (i := i) ((T9_14 (u := a2) (i := i) h4 (x := u (336+24*i+14) + a1)).tr k2) ((va_up_ne _ _ (by omega)).trans (k3 _ (by omega))) ((va_up_ne _ _ (by omega)).trans (k3 _ (by omega))) ((va_up_ne _ _ (by omega)).trans (k3 _ (by omega))) ((va_up_ne _ _ (by omega)).trans (k3 _ (by omega)))
  refine ⟨_, _, _, _, rfl, rfl, k1, ?_⟩
  rw [k5]
  exact k4.trans ⟨fun z => z.2, fun z => ⟨rfl, z⟩⟩
theorem dies_ch {a : Int32} {n : Nat} : f7_dies_L28 a (n+6) 2 u = f7_adds (f7_sets (f7_sets (f7_sets (f7_sets (f7_sets (f7_sets u a 2 0) a 3 0) a 4 0) a 5 0) a 6 0) a 11 0) a 15 1 := by
  rw [f7_dies_L28, if_neg (show ¬ (6 : Int32) < 2 by decide)]
  simp only [bnd_e]
  rw [show (2 : Int32) + 1 = 3 from rfl, f7_dies_L28, if_neg (show ¬ (6 : Int32) < 3 by decide)]
  simp only [bnd_e]
  rw [show (3 : Int32) + 1 = 4 from rfl, f7_dies_L28, if_neg (show ¬ (6 : Int32) < 4 by decide)]
  simp only [bnd_e]
  rw [show (4 : Int32) + 1 = 5 from rfl, f7_dies_L28, if_neg (show ¬ (6 : Int32) < 5 by decide)]
  simp only [bnd_e]
  rw [show (5 : Int32) + 1 = 6 from rfl, f7_dies_L28, if_neg (show ¬ (6 : Int32) < 6 by decide)]
  simp only [bnd_e]
  rw [show (6 : Int32) + 1 = 7 from rfl, f7_dies_L28, if_pos (show (6 : Int32) < 7 by decide)]
  simp only [bnd_e]
theorem e_die {l : Int} (h : RC KK lo sz M0 N Q c k u m) (hi : i < N) (hk0 : 383 ≤ KK ∧ 0 ≤ k) (hl : 40 ≤ l + k ∧ l ≤ 1000) : RC KK (lset lo i l) sz M0 N Q c k (f0_die u i) (f7_dies m (nI i)) := by
  have h4 := h.i4 hi
  have hB := h.B hi
  have hx : 0 ≤ (m (336+24*i+12)).toInt ∧ (m (336+24*i+12)).toInt ≤ 383 := h.bd hi (by decide : 12 < 22)
  have hy : 0 ≤ (m (336+24*i+13)).toInt ∧ (m (336+24*i+13)).toInt ≤ 383 := h.bd hi (by decide : 13 < 22)
  unfold f0_die f0_calmDown f7_dies
  simp only [bnd_e]
  rw [show BIG = 4294967298 + 6 from rfl, dies_ch]
  simp only [o_12 h4, o_13 h4, s_0 h4, s_1 h4, s_2 h4, s_3 h4, s_4 h4, s_5 h4, s_6 h4, s_11 h4, a_15 h4]
  repeat first | rw [va_up_ne _ _ (by omega)]
  rw [hB 12 (by decide), hB 13 (by decide), hB 15 (by decide)]
  exact ((((((((h.sb (j := 0) hi (by decide) rfl (bb0 (by omega) (by omega))).sy hi rfl hl.2 ⟨by omega, by omega⟩).sb (j := 2) hi (by decide) rfl (bb2 (by decide) (by decide))).sb (j := 3) hi (by decide) rfl (bb3 (by decide) (by decide))).sb (j := 4) hi (by decide) rfl (bb4 (by decide) (by decide))).sb (j := 5) hi (by decide) rfl (bb5 (by decide) (by decide))).sb (j := 6) hi (by decide) rfl (bb6 (by decide) (by decide))).sb (j := 11) hi (by decide) rfl (Or.inl rfl)).sb (j := 15) hi (by decide) rfl trivial
/-- step 11 -/
theorem e_meet {l : Int} (h : RC KK lo sz M0 N Q c k u m) (hi : i < N) (hk0 : 383 ≤ KK ∧ 0 ≤ k) (hl : 40 ≤ l + k ∧ l ≤ 1000) : ∃ m1, f7_updates_b87 (nI i) m = f7_updates_b111 (nI i) m1 ∧ RC KK (lset lo i l) sz M0 N Q c k (f5_meetCoinsAndSpikes u i) m1 := by
  have h4 := h.i4 hi
  obtain ⟨rc, uc, rm, mm, e1, e2, h1, h2⟩ := e_coins h hi
  unfold f5_meetCoinsAndSpikes f7_updates_b87 f7_updates_b106
  rw [e1, e2, bnd2_mk rc uc, bnd2_mk rm mm]
  simp only [bnd_e]
  generalize va_up uc (336+24*i+14) (u (336+24*i+14) + rc) = u1 at h1 h2
  have hd := e_die h1 hi hk0 hl
  rw [o_1 h4, h1.B hi 1 (by decide)]
  have t40 : ((-40 : Int32)).toInt = -40 := rfl
  by_cases c1 : mm (336+24*i+1) < -40
  · rw [if_pos c1]
    rw [ti_lt, t40] at c1
    by_cases c2 : rm = 0
    · rw [if_pos c2, if_neg (fun z => by rw [ti_le, t40] at z; omega)]
      exact ⟨_, rfl, hd⟩
    · rw [if_neg c2]
      exact ⟨_, rfl, hd⟩
  · rw [if_neg c1]
    rw [ti_lt, t40] at c1
    by_cases c2 : rm = 0
    · rw [if_pos c2, if_pos (h2.mp c2), if_pos (ti_le.mpr (by rw [t40]; omega))]
      exact ⟨_, rfl, h1.sl hi hl.2 (by omega)⟩
    · rw [if_neg c2, if_neg (fun z => c2 (h2.mpr z))]
      exact ⟨_, rfl, hd⟩
/-- step 12, and what an update ends with -/
theorem e_end (h : RC KK lo sz M0 N Q c k u m) (hi : i < N) : RC KK lo sz M0 N Q c k (f0_endTick u i) (f7_updates_b111 (nI i) m) := by
  have h4 := h.i4 hi
  have key : ∀ u m, RC KK lo sz M0 N Q c k u m → RC KK lo sz M0 N Q c k (f0_endTick_b12 i u) (f7_updates_b128 (nI i) m) := by
    intro u m h
    have hB := h.B hi
    unfold f0_endTick_b12 f0_endTick_b33 f0_endTick_b44 f7_updates_b128 f7_updates_b177
    simp only [bnd_e]
    simp only [o_9 h4, s_10 h4, a_21 h4, o_21 h4, o_1 h4, o_20 h4, s_20 h4]
    repeat first | rw [va_up_self] | rw [va_up_ne _ _ (by omega)]
    rw [hB 21 (by decide), hB 1 (by decide), hB 20 (by decide), hB 9 (by decide)]
    have hz : (m (336+24*i+21) + 1 = 1) ↔ m (336+24*i+21) = 0 := by
      constructor
      · intro e
        have := congrArg (fun z => z - 1) e
        simp only [Int32.add_sub_cancel] at this
        rw [this]; rfl
      · intro e; rw [e]; rfl
    have h1 : RC KK lo sz M0 N Q c k (va_up (va_up u (336+24*i+21) (m (336+24*i+21) + 1)) (336+24*i+10) (m (336+24*i+9))) (va_up (va_up m (336+24*i+10) (m (336+24*i+9))) (336+24*i+21) (m (336+24*i+21) + 1)) := by
      rw [up_comm (u := m) (a := 336+24*i+10) (b := 336+24*i+21) (by omega)]
      exact (h.sb (j := 21) hi (by decide) rfl trivial).sb (j := 10) hi (by decide) rfl trivial
    have h2 : RC KK lo sz M0 N Q c k (va_up (va_up (va_up u (336+24*i+20) (m (336+24*i+1))) (336+24*i+21) (m (336+24*i+21) + 1)) (336+24*i+10) (m (336+24*i+9))) (va_up (va_up (va_up m (336+24*i+10) (m (336+24*i+9))) (336+24*i+21) (m (336+24*i+21) + 1)) (336+24*i+20) (m (336+24*i+1))) := by
      rw [up_comm (u := m) (a := 336+24*i+10) (b := 336+24*i+21) (by omega), up_comm (a := 336+24*i+20) (b := 336+24*i+21) (by omega), up_comm (a := 336+24*i+20) (b := 336+24*i+10) (by omega)]
      exact ((h.sb (j := 21) hi (by decide) rfl trivial).sb (j := 10) hi (by decide) rfl trivial).sb (j := 20) hi (by decide) rfl trivial
    by_cases c1 : m (336+24*i+21) = 0
    · rw [if_pos c1, if_pos (hz.mpr c1)]
      exact h2
    · rw [if_neg c1, if_neg (fun z => c1 (hz.mp z))]
      by_cases c2 : m (336+24*i+1) ≤ m (336+24*i+20)
      · rw [if_pos c2, if_pos c2]; exact h1
      · rw [if_neg c2, if_neg c2]; exact h2
  unfold f0_endTick f7_updates_b111
  simp only [bnd_e]
  rw [o_3 h4, s_11 h4, h.B hi 3 (by decide)]
  by_cases c0 : 0 < m (336+24*i+3)
  · rw [if_pos c0, if_pos c0]; exact key u m h
  · rw [if_neg c0, if_neg c0]
    exact key _ _ (h.sb (j := 11) hi (by decide) rfl (Or.inl rfl))
/-- an update -/
theorem e_update (h : RC KK lo sz M0 N Q c k u m) (hi : i < N) (hk0 : 383 ≤ KK ∧ 0 ≤ k) (hk : KK + k + 34 ≤ 1000000000 ∧ k + 34 ≤ 900000) : RC KK (lset lo i (6 - k)) sz M0 N Q c (k+34) (f5_update u sz i) (f7_updates m (nI i)) := by
  have h4 := h.i4 hi
  obtain ⟨w, u1, m1, e1, e2, hw, h1⟩ := e_dec1 h hi (by omega)
  obtain ⟨hd1, hd2⟩ := e_dir h1 hi
  have h2 := e_steer (w := w) h1 hi hd2
  have e3 : f7_decides_b180 (nI i) w m1 = f7_decides_b220 (nI i) w (f7_wayOf m1 (nI i)) (if f7_wayOf m1 (nI i) = 0 then (if w = 0 then m1 else if f7_isOnIce m1 (nI i) = 0 then f7_slowsDown m1 (nI i) else m1) else f7_speedsUp m1 (nI i) (f7_wayOf m1 (nI i)) w) := by
    unfold f7_decides_b180
    simp only [bnd_e]
    by_cases c1 : f7_wayOf m1 (nI i) = 0
    · rw [if_pos c1, if_pos c1]
      by_cases c2 : w = 0
      · rw [if_pos c2, if_pos c2]
      · rw [if_neg c2, if_neg c2]
        by_cases c3 : f7_isOnIce m1 (nI i) = 0
        · rw [if_pos c3, if_pos c3]
        · rw [if_neg c3, if_neg c3]
    · rw [if_neg c1, if_neg c1]
  have tail : ∀ (d w : Int32) (u m : Nat → Int32), RC KK lo sz M0 N Q c k u m → ∃ m2 u2, f5_update_b57 i d u w = f5_update_b81 i u2 ∧ (bnd2 (f7_decides_b231 (nI i) d m w) (fun r2 u2 => if r2 = 0 then f7_updates_b60 (nI i) u2 else (bnd (f7_of u2 (nI i) 0) fun r13 => bnd (f7_of u2 (nI i) 1) fun r19 => bnd (f7_firmBelow u2 (nI i) r13 r19) fun r22 => if ((r22 >>> ((6 : Int32) &&& 31)) &&& 1) = 1 then (bnd2 (f7_stepsAcross u2 (nI i) 1) fun _ u39 => f7_updates_b43 (nI i) r22 u39) else (f7_updates_b43 (nI i) r22 u2)))) = f7_updates_b60 (nI i) m2 ∧ RC KK lo sz M0 N Q c (k+2) u2 m2 := by
    intro d w u m h
    obtain ⟨m2, a1, a2⟩ := e_cut (w := w) (d := d) h hi
    rw [a1]
    unfold f5_update_b57 f7_decides_b268
    simp only [bnd_e]
    by_cases c1 : w = 0
    · rw [if_pos c1, if_pos c1, bnd2_mk w, if_pos c1]
      exact ⟨_, _, rfl, rfl, (e_fall a2 hi).mono (by omega)⟩
    · rw [if_neg c1, if_neg c1, bnd2_mk w, if_neg c1]
      obtain ⟨m3, b1, b2⟩ := e_belts a2 hi (by omega)
      exact ⟨m3, _, rfl, b1, b2⟩
  obtain ⟨rj, u3, m3, j1, j2, j3, h3⟩ := e_jumps (w := w) h2 hi
  have fin : ∃ m4 u4, f5_update u sz i = f5_update_b81 i u4 ∧ f7_updates m (nI i) = f7_updates_b60 (nI i) m4 ∧ RC KK lo sz M0 N Q c (k+2) u4 m4 := by
    unfold f7_updates
    rw [e1, e2, e3]
    unfold f5_update_b28 f7_decides_b220
    rw [j2, bnd2_mk rj m3]
    simp only [bnd_e]
    rw [hd1, j1, bnd2_mk rj u3]
    by_cases c1 : rj = 0
    · rw [if_pos c1, if_pos c1]
      obtain ⟨m4, u4, t1, t2, t3⟩ := tail (f7_wayOf m1 (nI i)) w u3 m3 h3
      exact ⟨m4, u4, t1, t2, t3⟩
    · rw [if_neg c1, if_neg c1]
      obtain ⟨m4, u4, t1, t2, t3⟩ := tail (f7_wayOf m1 (nI i)) 0 u3 m3 h3
      exact ⟨m4, u4, t1, t2, t3⟩
  obtain ⟨m4, u4, f1, f2, h5⟩ := fin
  rw [f1, f2]
  have h6 := e_run h5 hi (by omega)
  have h7 := e_rof h6 hi (by omega)
  obtain ⟨m5, g1, h8⟩ := e_meet (l := 6 - k) h7 hi (by omega) (by omega)
  have h9 := e_end h8 hi
  unfold f5_update_b81 f7_updates_b60
  simp only [bnd_e]
  have e9 : (if f7_of (f7_goesAcross m4 (nI i)) (nI i) 3 ≤ 0 then f7_updates_b87 (nI i) (f7_goesDown (f7_goesAcross m4 (nI i)) (nI i)) else f7_updates_b87 (nI i) (f7_goesUp (f7_goesAcross m4 (nI i)) (nI i))) = f7_updates_b87 (nI i) (if f7_of (f7_goesAcross m4 (nI i)) (nI i) 3 ≤ 0 then f7_goesDown (f7_goesAcross m4 (nI i)) (nI i) else f7_goesUp (f7_goesAcross m4 (nI i)) (nI i)) := by
    split
    · rfl
    · rfl
  rw [e9, g1]
  exact h9.mono (by omega)
/-- the bodies, and the whole tick -/
theorem e_L20 : ∀ (n q : Nat) (lo : Nat → Int) (k : Int) (u m : Nat → Int32), RC KK lo sz M0 N Q c k u m → q ≤ N → N < n + q → (383 ≤ KK ∧ 0 ≤ k) → (KK + k + 136 ≤ 1000000000 + 34 * q ∧ k + 136 ≤ 900000 + 34 * q) → (∀ t, t < q → lo t + k ≤ 40 + 34 * q) → ∃ lo2 : Nat → Int, RC KK lo2 sz M0 N Q c (k + 136 - 34 * q) (f5_advance_L20 sz n (nI q) u) (f7_goesTick_L106 n (nI q) m) ∧ ∀ t, t < N → lo2 t + (k + 136 - 34 * q) ≤ 1000 := by
  intro n
  induction n with
  | zero => intro q lo k u m h h1 h2; omega
  | succ n ih =>
    intro q lo k u m h hq hn hk0 hk hlo
    have h2 := h.cnts
    rw [f5_advance_L20, f7_goesTick_L106, h.e4]
    by_cases c0 : m 464 ≤ nI q
    · rw [if_pos c0, if_pos c0]
      rw [ti_le, nI_toInt (by omega), h.nbm] at c0
      exact ⟨lo, h.mono (by omega), fun t ht => by have := hlo t (by omega); omega⟩
    · rw [if_neg c0, if_neg c0]
      have hqN : q < N := by
        rw [ti_le, nI_toInt (by omega), h.nbm] at c0; omega
      simp only [bnd_e]
      rw [nI_clamp (by omega), nI_s]
      obtain ⟨lo2, g1, g2⟩ := ih (q+1) _ (k+34) _ _ (e_update h hqN hk0 (by omega)) (by omega) (by omega) (by omega) (by omega) (fun t ht => by
        unfold lset
        by_cases e : t = q
        · rw [if_pos e]; omega
        · rw [if_neg e]
          have := hlo t (by omega)
          omega)
      refine ⟨lo2, g1.mono (by omega), fun t ht => ?_⟩
      have := g2 t ht
      omega
/-- between two ticks: what lives is within K, and no body lower than 1000 below the first row -/
abbrev RB (sz M0 : Nat → Int32) (N Q c : Nat) (K : Int) (u m : Nat → Int32) : Prop := RC K (fun _ => 1000) sz M0 N Q c 0 u m
theorem e_advance {K : Int} (h : RB sz M0 N Q 0 K u m) (hk0 : 383 ≤ K) (hk : K + 248 ≤ 1000000000) : RB sz M0 N Q N (K+248) (f5_advance u sz) (f7_goesTick m) := by
  obtain ⟨m1, e1, h1⟩ := e_pre h (by omega)
  rw [e1]
  unfold f5_advance
  simp only [bnd_e]
  obtain ⟨lo2, g1, g2⟩ := e_L20 BIG 0 _ _ _ _ h1 (Nat.zero_le _) (by have := h.cnts; unfold BIG; omega) (by omega) (by omega) (fun t ht => absurd ht (Nat.not_lt_zero _))
  exact ⟨g1.eq, g1.rest, g1.car, g1.cnts, ⟨g1.nbm, g1.npm⟩, fun i j hi hj => bdB_mono (by omega) (by have := g2 i hi; show _ ≤ (1000 : Int) + 0; omega) j (g1.bd hi hj), fun _ j hp hj => bdP_mono (by omega) j (g1.pd hp hj), g1.es, fun _ => Int.le_refl _⟩
end
