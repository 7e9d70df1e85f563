/-! PURE: drop, look, ray, count, set, clock, faultPosition -/
section
variable {sz M0 : Nat → Int32} {N Q c : Nat} {k K L : Int} {u w m u2 w2 m2 : Nat → Int32} {i j p : Nat} {σ σ2 : Nat → Nat → Int32}
theorem L20_ch (h : RB sz M0 N Q c K u m) (hi : i < N) (hK : K ≤ 900000000) (hu : σ 0 = u) : ∀ (n : Nat) (y cnt : Int32), 0 < n → y.toInt + 41 < n → -41 ≤ y.toInt ∨ y = m (336+24*i+1) → y.toInt ≤ (m (336+24*i+1)).toInt → cnt.toInt = (m (336+24*i+1)).toInt - y.toInt →
    f6_drop_L20 (nI i) σ n y = (.inl (f7_drop_L28 (nI i) (m (336+24*i+1)) n cnt (va_up m (336+24*i+1) y)).1, σ) ∧ (f7_drop_L28 (nI i) (m (336+24*i+1)) n cnt (va_up m (336+24*i+1) y)).2 = m := by
  have h4 := h.i4 hi
  have hy := h.y hi
  have t40 : ((-40 : Int32)).toInt = -40 := rfl
  intro n
  induction n with
  | zero => intro y cnt hn; omega
  | succ n ih =>
    intro y cnt hn0 hn hlo hhi hcnt
    have hyl : -900000000 ≤ y.toInt := by
      rcases hlo with z | z
      · omega
      · rw [z]; omega
    have hback : ∀ z : Int32, va_up (va_up m (336+24*i+1) z) (336+24*i+1) (m (336+24*i+1)) = m := fun z => by rw [up_up, up_eta]
    rw [f6_drop_L20, f7_drop_L28]
    unfold f7_drop_b53 f7_drop_b69 f7_movesDown f7_supportOf f7_supportAt
    simp only [bnd_e]
    rw [o_1 h4, va_up_self, s_1 h4, hback]
    by_cases c1 : y < -40
    · rw [if_pos c1, if_pos c1]
      rw [ti_lt, t40] at c1
      rw [if_neg (fun z => by rw [ti_le, t40] at z; omega), if_neg n10]
      exact ⟨rfl, rfl⟩
    · rw [if_neg c1, if_neg c1]
      rw [ti_lt, t40] at c1
      have hu2 : ∀ t, t ≠ 336+24*i+1 → LV N Q t → u t = va_up m (336+24*i+1) y t := fun t ht hl => (h.eq t hl).trans (va_up_ne _ _ ht).symm
      have hs : f5_supportAt (σ 0) i (σ 0 (336+24*i+0)) y (-1) = f7_supportBut (va_up m (336+24*i+1) y) (nI i) (f7_of (va_up m (336+24*i+1) y) (nI i) 0) y (-1) := by
        rw [hu, o_0 h4, va_up_ne _ _ (by omega), h.B hi 0 (by decide)]
        refine e_support h4 (fun t ht => (h.T t ht).trans (va_up_ne _ _ (by omega)).symm) (fun k hk => (h.B hi k (by omega)).trans (va_up_ne _ _ (by omega)).symm) ?_ ⟨h.e5.trans (va_up_ne _ _ (by omega)).symm, fun q hq hq2 k hk => ?_⟩ (ne_min (by omega))
        · obtain ⟨o1, o2, o3, o4⟩ := h.ok
          unfold okW
          rw [va_up_ne _ _ (by omega), va_up_ne _ _ (by omega)]
          exact ⟨o1, o2, o3, o4⟩
        · rw [va_up_ne _ _ (by omega)] at hq2
          exact (h.P.2 q hq hq2 k hk).trans (va_up_ne _ _ (by omega)).symm
      rw [nI_clamp (by omega), hs]
      by_cases c2 : f7_supportBut (va_up m (336+24*i+1) y) (nI i) (f7_of (va_up m (336+24*i+1) y) (nI i) 0) y (-1) = 0
      · rw [if_pos c2, if_pos c2, a_1 h4, va_up_self, up_up, bnd2_mk, if_neg n10]
        have hn1 := ti_n1 (x := y) (by omega)
        have hc1 := ti_p1 (x := cnt) (by omega)
        have q1 : -40 ≤ y.toInt := by omega
        have q2 : 0 < n := by omega
        have q3 : (y + -1).toInt + 41 < n := by omega
        have q4 : -41 ≤ (y + -1).toInt := by omega
        have q5 : (y + -1).toInt ≤ (m (336+24*i+1)).toInt := by omega
        have q6 : (cnt + 1).toInt = (m (336+24*i+1)).toInt - (y + -1).toInt := by omega
        exact ih (y + -1) (cnt + 1) q2 q3 (Or.inl q4) q5 q6
      · rw [if_neg c2, if_neg c2, bnd2_mk, if_pos (c := (0 : Int32) = 0) rfl, o_1 h4, va_up_self, if_pos (ti_le.mpr (by rw [t40]; omega)), s_1 h4, hback, hu, h.B hi 1 (by decide)]
        refine ⟨?_, rfl⟩
        have e : m (336+24*i+1) - y = cnt := ti_inj (by rw [ti_sub (by omega) (by omega), hcnt])
        rw [e, if_pos trivial]
theorem t_drop {a : Int32} (h : Top K σ m) (hK : K ≤ 900000000) : PM (cd1 xOB) K σ (f6_drop σ a) (f7_drop m a) := by
  unfold f6_drop f7_drop
  simp only [bnd_e, fails_k]
  rcases rqB (a := a) h with ⟨e1, e2⟩ | ⟨N, Q, i, hr, hi, rfl, e1, e2⟩
  · rw [e1, bndx_r, e2, if_pos rfl]; exact PM.fl h ⟨rfl, rfl⟩
  · have h4 := hr.i4 hi
    have h9 := hr.mx (t := 490) (x := 0) (by decide)
    have hy := hr.y hi
    have e9 : (va_up m 490 0) (336+24*i+1) = m (336+24*i+1) := va_up_ne _ _ (by omega)
    obtain ⟨k1, k2⟩ := L20_ch h9 hi hK rfl (σ := σ) BIG (m (336+24*i+1)) 0 (by unfold BIG; omega) (by unfold BIG; omega) (Or.inr e9.symm) (by rw [e9]; omega) (by rw [e9, t_0]; omega)
    rw [e1, bndx_l, e2, if_neg n10, o_1 h4, nI_clamp (by omega), hr.B hi 1 (by decide), e9]
    have e8 : va_up (va_up m 490 0) (336+24*i+1) (m (336+24*i+1)) = va_up m 490 0 := by
      have := up_eta (va_up m 490 0) (336+24*i+1)
      rw [e9] at this
      exact this
    rw [e9, e8] at k1 k2
    rw [k1]
    generalize f7_drop_L28 (nI i) (m (336+24*i+1)) BIG 0 (va_up m 490 0) = z at k2
    obtain ⟨z1, z2⟩ := z
    have k2 : z2 = va_up m 490 0 := k2
    subst k2
    exact PM.rd h rfl
/-- a cell within a box -/
theorem bt_sh {a x w : Int32} (ha : 0 ≤ a.toInt ∧ a.toInt ≤ 1000) (hx : -900000000 ≤ x.toInt ∧ x.toInt ≤ 900000000) (hw : 1 ≤ w.toInt ∧ w.toInt ≤ 100) : f6_isWithin a x ((x + w) - 1) = f7_isBetween (a - x) 0 (w - 1) := by
  have e1 := ti_add (x := x) (y := w) (by omega) (by omega)
  have e2 := ti_s1 (x := x + w) (by omega)
  have e3 := ti_sub (x := a) (y := x) (by omega) (by omega)
  have e4 := ti_s1 (x := w) (by omega)
  unfold f6_isWithin f7_isBetween
  by_cases c1 : a < x
  · rw [if_pos c1]
    rw [ti_lt] at c1
    rw [if_pos (ti_lt.mpr (by rw [t_0]; omega))]
  · rw [if_neg c1]
    rw [ti_lt] at c1
    rw [if_neg (c := a - x < 0) (fun z => by rw [ti_lt, t_0] at z; omega)]
    by_cases c2 : (x + w) - 1 < a
    · rw [if_pos c2]
      rw [ti_lt] at c2
      rw [if_pos (ti_lt.mpr (by omega))]
    · rw [if_neg c2]
      rw [ti_lt] at c2
      rw [if_neg (fun z => by rw [ti_lt] at z; omega)]
theorem look_p {a b : Int32} (h : RB sz M0 N Q c K u m) (hK : K ≤ 900000000) (hu : σ 0 = u) (ha : 0 ≤ a.toInt ∧ a.toInt ≤ 1000) (hb : 0 ≤ b.toInt ∧ b.toInt ≤ 1000) : ∀ (n q : Nat), q ≤ Q → Q < n + q → ∃ v, f6_look_L73 a b σ n (nI q) = (.inl v, σ) ∧ f7_look_L108 a b m n (nI q) = (v, m) := by
  intro n
  induction n with
  | zero => intro q h1 h2; omega
  | succ n ih =>
    intro q hq hn
    have hc := h.cnts
    rw [f6_look_L73, f7_look_L108, hu, h.e5]
    unfold f7_look_b161 f2_isTopOf
    simp only [bnd_e]
    by_cases c0 : m 465 ≤ nI q
    · rw [if_pos c0, if_pos c0, e_kindAt, e_kind h.T]
      exact ⟨_, rfl, rfl⟩
    · rw [if_neg c0, if_neg c0]
      have hqQ : q < Q := by
        rw [ti_le, nI_toInt (by omega), h.npm] at c0; omega
      have p4 := h.p4 hqQ
      have bx : -(K+0) ≤ (m (432+8*q+0)).toInt ∧ (m (432+8*q+0)).toInt ≤ K+0 := h.pd hqQ (by decide : 0 < 7)
      have bw : 16 ≤ (m (432+8*q+2)).toInt ∧ (m (432+8*q+2)).toInt ≤ 64 := h.pd hqQ (by decide : 2 < 7)
      obtain ⟨v, i1, i2⟩ := ih (q+1) (by omega) (by omega)
      rw [nI_clamp (by omega), p_0 p4, p_1 p4, p_2 p4, h.Pq hqQ 0 (by decide), h.Pq hqQ 1 (by decide), h.Pq hqQ 2 (by decide), bt_sh ha (by omega) (by omega), nI_s]
      have hz : (m (432+8*q+1) - 1 = b) ↔ m (432+8*q+1) = b + 1 := by
        constructor
        · intro e; rw [← e, Int32.sub_add_cancel]
        · intro e; rw [e, Int32.add_sub_cancel]
      by_cases c1 : m (432+8*q+1) = b + 1
      · rw [if_pos c1, if_pos (hz.mpr c1)]
        by_cases c2 : f7_isBetween (a - m (432+8*q+0)) 0 (m (432+8*q+2) - 1) = 0
        · rw [if_pos c2, if_pos c2, if_pos rfl]
          exact ⟨v, i1, i2⟩
        · rw [if_neg c2, if_neg c2, if_neg n10]
          exact ⟨_, rfl, rfl⟩
      · rw [if_neg c1, if_neg (fun z => c1 (hz.mp z)), if_pos rfl]
        exact ⟨v, i1, i2⟩
theorem look_b {a b : Int32} (h : RB sz M0 N Q c K u m) (hK : K ≤ 900000000) (hu : σ 0 = u) (ha : 0 ≤ a.toInt ∧ a.toInt ≤ 1000) (hb : 0 ≤ b.toInt ∧ b.toInt ≤ 1000) : ∀ (n q : Nat), q ≤ N → N < n + q → ∃ v, f6_look_L32 a b σ n (nI q) = (.inl v, σ) ∧ f7_look_L35 a b m n (nI q) = (v, m) := by
  intro n
  induction n with
  | zero => intro q h1 h2; omega
  | succ n ih =>
    intro q hq hn
    have hc := h.cnts
    rw [f6_look_L32, f7_look_L35, hu, h.e4]
    unfold f7_look_b100 f0_covers
    simp only [bnd_e]
    by_cases c0 : m 464 ≤ nI q
    · rw [if_pos c0, if_pos c0]
      exact look_p h hK hu ha hb BIG 0 (Nat.zero_le _) (by unfold BIG; omega)
    · rw [if_neg c0, if_neg c0]
      have hqN : q < N := by
        rw [ti_le, nI_toInt (by omega), h.nbm] at c0; omega
      have h4 := h.i4 hqN
      have bx := h.x hqN
      have by1 := h.y hqN
      have bw : 4 ≤ (m (336+24*q+7)).toInt ∧ (m (336+24*q+7)).toInt ≤ 16 := h.bd hqN (by decide : 7 < 22)
      have bh : 4 ≤ (m (336+24*q+8)).toInt ∧ (m (336+24*q+8)).toInt ≤ 28 := h.bd hqN (by decide : 8 < 22)
      obtain ⟨v, i1, i2⟩ := ih (q+1) (by omega) (by omega)
      rw [nI_clamp (by omega), o_0 h4, o_1 h4, o_7 h4, o_8 h4, h.B hqN 0 (by decide), h.B hqN 1 (by decide), h.B hqN 7 (by decide), h.B hqN 8 (by decide), bt_sh ha (by omega) (by omega), bt_sh hb (by omega) (by omega), nI_s]
      by_cases c1 : f7_isBetween (a - m (336+24*q+0)) 0 (m (336+24*q+7) - 1) = 0
      · rw [if_pos c1, if_pos c1, if_pos rfl]
        exact ⟨v, i1, i2⟩
      · rw [if_neg c1, if_neg c1]
        by_cases c2 : f7_isBetween (b - m (336+24*q+1)) 0 (m (336+24*q+8) - 1) = 0
        · rw [if_pos c2, if_pos c2, if_pos rfl]
          exact ⟨v, i1, i2⟩
        · rw [if_neg c2, if_neg c2, if_neg n10]
          exact ⟨_, rfl, rfl⟩
theorem t_look {a b : Int32} (h : Top K σ m) (hK : K ≤ 900000000) : PM (cd1 xIA) K σ (f6_look σ a b) (f7_look m a b) := by
  obtain ⟨N, Q, hr⟩ := h.rb
  have h9 := hr.mx (t := 490) (x := 0) (by decide)
  have t383 : ((383 : Int32)).toInt = 383 := rfl
  have t223 : ((223 : Int32)).toInt = 223 := rfl
  unfold f6_look f6_look_b26 f6_look_b27 f7_look
  simp only [bnd_e, fails_k, wi_e]
  by_cases d1 : f7_isBetween a 0 383 = 0
  · rw [if_pos d1, if_pos d1, rq0, bndx_r]; exact PM.fl h ⟨rfl, rfl⟩
  · rw [if_neg d1, if_neg d1]
    by_cases d2 : f7_isBetween b 0 223 = 0
    · rw [if_pos d2, if_pos d2, rq0, bndx_r]; exact PM.fl h ⟨rfl, rfl⟩
    · rw [if_neg d2, if_neg d2, rq1 n10, bndx_l]
      have b1 := bt_in d1
      have b2 := bt_in d2
      rw [t_0, t383] at b1
      rw [t_0, t223] at b2
      obtain ⟨v, e1, e2⟩ := look_b h9 hK rfl (by omega) (by omega) BIG 0 (Nat.zero_le _) (by have := hr.cnts; unfold BIG; omega) (a := a) (b := b) (σ := σ)
      have e1 : f6_look_L32 a b σ BIG 0 = (.inl v, σ) := e1
      have e2 : f7_look_L35 a b (va_up m 490 0) BIG 0 = (v, va_up m 490 0) := e2
      rw [e1, e2]
      exact PM.rd h rfl
theorem e_free {x y : Int32} (hT : ET u m) (hy : -1000000 ≤ y.toInt) : f4_isFree u x y = f7_isFreeCell m x y := by
  have hs := e_surf (x := x) (y := y) hT
  unfold f4_isFree f7_isFreeCell
  simp only [bnd_e]
  rw [hs, e_kindAt, e_kind hT, e_firm]
  by_cases c1 : f6_isFirm (f7_kindIn m (x >>> ((4 : Int32) &&& 31)) (y >>> ((4 : Int32) &&& 31))) = 0
  · rw [if_pos c1, if_pos c1]
    by_cases c2 : f7_isSlope (f7_kindIn m (x >>> ((4 : Int32) &&& 31)) (y >>> ((4 : Int32) &&& 31))) = 0
    · rw [if_pos c2, if_pos c2, if_neg (fun z => by
        rw [ti_lt, show ((-1000000 : Int32)).toInt = -1000000 from rfl] at z
        omega)]
    · rw [if_neg c2, if_neg c2]
  · rw [if_neg c1, if_neg c1]
end
