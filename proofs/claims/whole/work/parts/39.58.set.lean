/-! PURE: ray, count, set, press, push, clock, faultPosition -/
section
variable {sz M0 : Nat → Int32} {N Q c : Nat} {k K L : Int} {u w m u2 w2 m2 : Nat → Int32} {i j p : Nat} {σ σ2 : Nat → Nat → Int32}
theorem ray_st {a d : Int32} {q : Nat} : a + nI (q+1) * d = a + nI q * d + d := by
  rw [← nI_s, Int32.add_mul, Int32.one_mul, Int32.add_assoc]
theorem ti_q {a d : Int32} {q : Nat} (hq : q < 2000) (ha : 0 ≤ a.toInt ∧ a.toInt ≤ 1000) (hd : d = 0 ∨ d = 1 ∨ d = -1) : (d = 0 → (a + nI q * d).toInt = a.toInt) ∧ (d = 1 → (a + nI q * d).toInt = a.toInt + q) ∧ (d = -1 → (a + nI q * d).toInt = a.toInt - q) := by
  have hn := nI_toInt (n := q) (by omega)
  refine ⟨fun e => ?_, fun e => ?_, fun e => ?_⟩
  · rw [e, Int32.mul_zero, Int32.add_zero]
  · rw [e, Int32.mul_one, ti_add (by omega) (by omega), hn]
  · rw [e, mul_m1, ti_add (by rw [ti_0s (by omega) (by omega)]; omega) (by rw [ti_0s (by omega) (by omega)]; omega), ti_0s (by omega) (by omega), hn]; omega
theorem ray_L {a b d dx dy : Int32} (h : RB sz M0 N Q c K u m) (hu : σ 0 = u) (ha : 0 ≤ a.toInt ∧ a.toInt ≤ 383) (hb : 0 ≤ b.toInt ∧ b.toInt ≤ 223)
    (hx : (dx = 0 ∨ dx = 1 ∨ dx = -1) ∧ (dy = 0 ∨ dy = 1 ∨ dy = -1) ∧ ¬ (dx = 0 ∧ dy = 0))
    (hst : ∀ (f : Int32 → Int32 → Int32 → Int32 × (Nat → Int32)) (x6 x5 x4 : Int32), (if d = 0 then (f7_ray_b94 f d x6 x5 x4 1) else (if d = 2 then (f7_ray_b94 f d x6 x5 x4 (-1)) else (f7_ray_b94 f d x6 x5 x4 0))) = f (x6 + 1) (x5 + dy) (x4 + dx)) :
    ∀ (n q : Nat), (q = 0 ∨ ∃ q0, q = q0 + 1 ∧ q0 < 1000 ∧ (0 ≤ (a + nI q0 * dx).toInt ∧ (a + nI q0 * dx).toInt ≤ 383) ∧ (0 ≤ (b + nI q0 * dy).toInt ∧ (b + nI q0 * dy).toInt ≤ 223)) → 1500 < n + q →
      ∃ v, f6_ray_L83 a b σ dx dy n (nI q) = (.inl v, σ) ∧ f7_ray_L51 d m n (nI q) (b + nI q * dy) (a + nI q * dx) = (v, m) := by
  have t223 : ((223 : Int32)).toInt = 223 := rfl
  have t400 : ((400 : Int32)).toInt = 400 := rfl
  have hq400 : ∀ q, (q = 0 ∨ ∃ q0, q = q0 + 1 ∧ q0 < 1000 ∧ (0 ≤ (a + nI q0 * dx).toInt ∧ (a + nI q0 * dx).toInt ≤ 383) ∧ (0 ≤ (b + nI q0 * dy).toInt ∧ (b + nI q0 * dy).toInt ≤ 223)) → q < 400 := by
    intro q hq
    rcases hq with rfl | ⟨q0, rfl, h1, h2, h3⟩
    · decide
    · obtain ⟨x0, x1, x2⟩ := ti_q (a := a) (d := dx) (q := q0) (by omega) (by omega) hx.1
      obtain ⟨y0, y1, y2⟩ := ti_q (a := b) (d := dy) (q := q0) (by omega) (by omega) hx.2.1
      rcases hx.1 with e | e | e
      · rcases hx.2.1 with e2 | e2 | e2
        · exact absurd ⟨e, e2⟩ hx.2.2
        · have := y1 e2; omega
        · have := y2 e2; omega
      · have := x1 e; omega
      · have := x2 e; omega
  intro n
  induction n with
  | zero => intro q hq hn; have := hq400 q hq; omega
  | succ n ih =>
    intro q hq hn
    have hql := hq400 q hq
    have hyl : -1000000 ≤ (b + nI q * dy).toInt := by
      obtain ⟨y0, y1, y2⟩ := ti_q (a := b) (d := dy) (q := q) (by omega) (by omega) hx.2.1
      rcases hx.2.1 with e2 | e2 | e2
      · have := y0 e2; omega
      · have := y1 e2; omega
      · have := y2 e2; omega
    rw [f6_ray_L83, f7_ray_L51]
    unfold f7_ray_b127
    simp only [bnd_e, wi_e]
    rw [if_neg (c := (400 : Int32) ≤ nI q) (fun z => by rw [ti_le, t400, nI_toInt (by omega)] at z; omega), hst, hu, e_free h.T hyl]
    by_cases c1 : f7_isBetween (b + nI q * dy) 0 223 = 0
    · rw [if_pos c1, if_pos c1, if_pos c1]
      exact ⟨_, rfl, rfl⟩
    · rw [if_neg c1, if_neg c1, if_neg c1]
      by_cases c2 : f7_isFreeCell m (a + nI q * dx) (b + nI q * dy) = 0
      · rw [if_pos c2, if_pos c2]
        exact ⟨_, rfl, rfl⟩
      · rw [if_neg c2, if_neg c2]
        have hf := free_x rfl c2
        have hy := bt_in c1
        rw [t_0, t223] at hy
        have i1 := ih (q+1) (Or.inr ⟨q, rfl, by omega, ⟨hf.1, by omega⟩, hy⟩) (by omega)
        rw [ray_st, ray_st, ← nI_s] at i1
        exact i1
theorem t_ray {a b d : Int32} (h : Top K σ m) : PM (cd1 xIA) K σ (f6_ray σ a b d) (f7_ray m a b d) := by
  obtain ⟨N, Q, hr⟩ := h.rb
  have h9 := hr.mx (t := 490) (x := 0) (by decide)
  have t383 : ((383 : Int32)).toInt = 383 := rfl
  have t223 : ((223 : Int32)).toInt = 223 := rfl
  unfold f6_ray f6_ray_b26 f6_ray_b27 f6_ray_b57 f6_ray_b78 f7_ray
  simp only [bnd_e, fails_k, wi_e]
  by_cases d1 : f7_isBetween a 0 383 = 0
  · rw [if_pos d1, if_pos d1, rq0, bndx_r]; exact PM.fl h ⟨rfl, rfl⟩
  · rw [if_neg d1, if_neg d1]
    by_cases d2 : f7_isBetween b 0 223 = 0
    · rw [if_pos d2, if_pos d2, rq0, bndx_r]; exact PM.fl h ⟨rfl, rfl⟩
    · rw [if_neg d2, if_neg d2, rq1 n10, bndx_l]
      by_cases d3 : f7_isBetween d 0 3 = 0
      · rw [d3, rq0, bndx_r, if_pos rfl]; exact PM.fl h ⟨rfl, rfl⟩
      · rw [rq1 d3, bndx_l, if_neg d3]
        have b1 := bt_in d1
        have b2 := bt_in d2
        rw [t_0, t383] at b1
        rw [t_0, t223] at b2
        have key : ∀ dx dy : Int32, ((dx = 0 ∨ dx = 1 ∨ dx = -1) ∧ (dy = 0 ∨ dy = 1 ∨ dy = -1) ∧ ¬ (dx = 0 ∧ dy = 0)) → (∀ (f : Int32 → Int32 → Int32 → Int32 × (Nat → Int32)) (x6 x5 x4 : Int32), (if d = 0 then (f7_ray_b94 f d x6 x5 x4 1) else (if d = 2 then (f7_ray_b94 f d x6 x5 x4 (-1)) else (f7_ray_b94 f d x6 x5 x4 0))) = f (x6 + 1) (x5 + dy) (x4 + dx)) → PM (cd1 xIA) K σ (f6_ray_L83 a b σ dx dy BIG 0) (f7_ray_L51 d (va_up m 490 0) BIG 0 b a) := by
          intro dx dy k1 k2
          obtain ⟨v, e1, e2⟩ := ray_L h9 rfl b1 b2 k1 k2 (σ := σ) BIG 0 (Or.inl rfl) (by unfold BIG; omega)
          have e1 : f6_ray_L83 a b σ dx dy BIG 0 = (.inl v, σ) := e1
          rw [show (nI 0 : Int32) = 0 from rfl, Int32.zero_mul, Int32.zero_mul, Int32.add_zero, Int32.add_zero] at e2
          rw [e1, e2]
          exact PM.rd h rfl
        obtain ⟨q, hq, rfl⟩ := bt_nI (n := 3) rfl (by decide) d3
        rcases (show q = 0 ∨ q = 1 ∨ q = 2 ∨ q = 3 by omega) with rfl | rfl | rfl | rfl
        · rw [if_pos (show nI 0 = 0 by decide), if_neg (show ¬ nI 0 = 1 by decide), if_neg (show ¬ nI 0 = 3 by decide)]
          refine key 1 0 (by decide) (fun f x6 x5 x4 => ?_)
          unfold f7_ray_b94 f7_ray_b118
          simp only [bnd_e]
          rw [if_pos (show nI 0 = 0 by decide), if_neg (show ¬ nI 0 = 1 by decide), if_neg (show ¬ nI 0 = 3 by decide)]
        · rw [if_neg (show ¬ nI 1 = 0 by decide), if_neg (show ¬ nI 1 = 2 by decide), if_pos (show nI 1 = 1 by decide)]
          refine key 0 1 (by decide) (fun f x6 x5 x4 => ?_)
          unfold f7_ray_b94 f7_ray_b118
          simp only [bnd_e]
          rw [if_neg (show ¬ nI 1 = 0 by decide), if_neg (show ¬ nI 1 = 2 by decide), if_pos (show nI 1 = 1 by decide)]
        · rw [if_neg (show ¬ nI 2 = 0 by decide), if_pos (show nI 2 = 2 by decide), if_neg (show ¬ nI 2 = 1 by decide), if_neg (show ¬ nI 2 = 3 by decide)]
          refine key (-1) 0 (by decide) (fun f x6 x5 x4 => ?_)
          unfold f7_ray_b94 f7_ray_b118
          simp only [bnd_e]
          rw [if_neg (show ¬ nI 2 = 0 by decide), if_pos (show nI 2 = 2 by decide), if_neg (show ¬ nI 2 = 1 by decide), if_neg (show ¬ nI 2 = 3 by decide)]
        · rw [if_neg (show ¬ nI 3 = 0 by decide), if_neg (show ¬ nI 3 = 2 by decide), if_neg (show ¬ nI 3 = 1 by decide), if_pos (show nI 3 = 3 by decide)]
          refine key 0 (-1) (by decide) (fun f x6 x5 x4 => ?_)
          unfold f7_ray_b94 f7_ray_b118
          simp only [bnd_e]
          rw [if_neg (show ¬ nI 3 = 0 by decide), if_neg (show ¬ nI 3 = 2 by decide), if_neg (show ¬ nI 3 = 1 by decide), if_pos (show nI 3 = 3 by decide)]
/-- both counts of a kind -/
theorem cnt_L2 (hT : ET u m) : ∀ (n q : Nat) (x y : Int32), q ≤ 336 → 336 < n + q → x + y = nI q → ∃ r, f7_count_L53 2 m n (nI q) y = (r, m) ∧ f4_countOf_L4 u 0 n (nI q) x + r = 336 := by
  intro n
  induction n with
  | zero => intro q x y h1 h2; omega
  | succ n ih =>
    intro q x y hq hn e
    have t336 : ((336 : Int32)).toInt = 336 := rfl
    rw [f7_count_L53, f4_countOf_L4]
    unfold f7_count_b99 f4_countOf_b24
    simp only [bnd_e]
    by_cases c0 : 336 ≤ nI q
    · rw [if_pos c0, if_pos c0]
      rw [ti_le, t336, nI_toInt (by omega)] at c0
      refine ⟨_, rfl, ?_⟩
      rw [e, show q = 336 by omega]; rfl
    · rw [if_neg c0, if_neg c0, if_pos trivial]
      rw [ti_le, t336, nI_toInt (by omega)] at c0
      rw [nI_clamp (by omega), hT q (by omega), nI_s]
      by_cases c1 : m q = 0
      · rw [if_pos c1, if_pos c1, Int32.add_zero]
        exact ih (q+1) (x+1) y (by omega) (by omega) (by rw [← nI_s, ← e, Int32.add_assoc, Int32.add_assoc, Int32.add_comm 1 y])
      · rw [if_neg c1, if_neg c1]
        exact ih (q+1) x (y+1) (by omega) (by omega) (by rw [← nI_s, ← e, Int32.add_assoc])
theorem cnt_L3 {a : Int32} (ha : ¬ a = 2) (hT : ET u m) : ∀ (n q : Nat) (x : Int32), q ≤ 336 → 336 < n + q → f7_count_L53 a m n (nI q) x = (f4_countOf_L4 u 10 n (nI q) x, m) := by
  intro n
  induction n with
  | zero => intro q x h1 h2; omega
  | succ n ih =>
    intro q x hq hn
    have t336 : ((336 : Int32)).toInt = 336 := rfl
    rw [f7_count_L53, f4_countOf_L4]
    unfold f7_count_b99 f4_countOf_b24
    simp only [bnd_e]
    by_cases c0 : 336 ≤ nI q
    · rw [if_pos c0, if_pos c0]
    · rw [if_neg c0, if_neg c0, if_neg ha]
      rw [ti_le, t336, nI_toInt (by omega)] at c0
      rw [nI_clamp (by omega), hT q (by omega), nI_s]
      by_cases c1 : m q = 10
      · rw [if_pos c1, if_pos c1]
        exact ih (q+1) (x+1) (by omega) (by omega)
      · rw [if_neg c1, if_neg c1, Int32.add_zero]
        exact ih (q+1) x (by omega) (by omega)
theorem t_count {a : Int32} (h : Top K σ m) : PM (cd1 xIA) K σ (f6_count σ a) (f7_count m a) := by
  obtain ⟨N, Q, hr⟩ := h.rb
  have h9 := hr.mx (t := 490) (x := 0) (by decide)
  unfold f6_count f7_count f4_countOf
  simp only [bnd_e, fails_k, wi_e]
  by_cases d1 : f7_isBetween a 0 3 = 0
  · rw [d1, rq0, bndx_r, if_pos rfl]; exact PM.fl h ⟨rfl, rfl⟩
  · rw [rq1 d1, bndx_l, if_neg d1]
    obtain ⟨q, hq, rfl⟩ := bt_nI (n := 3) rfl (by decide) d1
    rcases (show q = 0 ∨ q = 1 ∨ q = 2 ∨ q = 3 by omega) with rfl | rfl | rfl | rfl
    · rw [if_pos (show nI 0 = 0 by decide), if_neg (show ¬ 2 ≤ nI 0 by decide), if_pos (show nI 0 = 0 by decide)]
      exact PM.rd h h9.e4
    · rw [if_neg (show ¬ nI 1 = 0 by decide), if_pos (show nI 1 = 1 by decide), if_neg (show ¬ 2 ≤ nI 1 by decide), if_neg (show ¬ nI 1 = 0 by decide)]
      exact PM.rd h h9.e5
    · rw [if_neg (show ¬ nI 2 = 0 by decide), if_neg (show ¬ nI 2 = 1 by decide), if_pos (show nI 2 = 2 by decide), if_pos (show 2 ≤ nI 2 by decide)]
      obtain ⟨r, e1, e2⟩ := cnt_L2 h9.T BIG 0 0 0 (by decide) (by unfold BIG; omega) rfl
      have e1 : f7_count_L53 (nI 2) (va_up m 490 0) BIG 0 0 = (r, va_up m 490 0) := e1
      have e2 : f4_countOf_L4 (σ 0) 0 BIG 0 0 + r = 336 := e2
      rw [e1]
      refine PM.rd h ?_
      rw [← e2, Int32.add_comm, Int32.add_sub_cancel]
    · rw [if_neg (show ¬ nI 3 = 0 by decide), if_neg (show ¬ nI 3 = 1 by decide), if_neg (show ¬ nI 3 = 2 by decide), if_pos (show 2 ≤ nI 3 by decide)]
      have e1 : f7_count_L53 (nI 3) (va_up m 490 0) BIG 0 0 = (f4_countOf_L4 (σ 0) 10 BIG 0 0, va_up m 490 0) := cnt_L3 (by decide) h9.T BIG 0 0 (by decide) (by unfold BIG; omega)
      rw [e1]
      exact PM.rd h rfl
/-- the world row is exchanged, and the answer alike -/
theorem PM.up {cd : String → Int32 → Prop} {v v2 : Int32} (h : Top K σ m) (hK : K ≤ L) (hr : RB (σ 15) (va_up m 490 0) N Q c L u2 m2) (e : v = v2) : PM cd L σ (.inl v, va_up σ 0 u2) (v2, m2) := by
  refine ⟨⟨?_, e⟩, h.w0 hK hr.wd (fun t ht => (hr.rest t (by omega)).trans (va_up_ne _ _ (by omega))), (show va_up σ 0 u2 16 = σ 16 from va_up_ne _ _ (by decide))⟩
  show m2 490 = 0
  rw [hr.rest 490 (by omega), va_up_self]
theorem t_press {a b : Int32} (h : Top K σ m) : PM (cd2 xOB xIA) K σ (f6_press σ a b) (f7_press m a b) := by
  unfold f6_press f7_press
  simp only [bnd_e, fails_k]
  rcases rqB (a := a) h with ⟨e1, e2⟩ | ⟨N, Q, i, hr, hi, rfl, e1, e2⟩
  · rw [e1, bndx_r, e2, if_pos rfl]; exact PM.fl h (Or.inl ⟨rfl, rfl⟩)
  · have h4 := hr.i4 hi
    have h9 := hr.mx (t := 490) (x := 0) (by decide)
    rw [e1, bndx_l, e2, if_neg n10, wi_e]
    by_cases c1 : f7_isBetween b 0 15 = 0
    · rw [c1, rq0, bndx_r, if_pos rfl]; exact PM.fl h (Or.inr ⟨rfl, rfl⟩)
    · rw [rq1 c1, bndx_l, if_neg c1, nI_clamp (by omega), o_9 h4, s_9 h4]
      exact PM.up h (Int.le_refl K) (h9.sb (j := 9) hi (by decide) rfl trivial) (h9.B hi 9 (by decide))
theorem t_push {a b c1 : Int32} (h : Top K σ m) : PM (cd2 xOB xIA) K σ (f6_push σ a b c1) (f7_push m a b c1) := by
  have t16 : ((16 : Int32)).toInt = 16 := rfl
  have tm16 : ((-16 : Int32)).toInt = -16 := rfl
  have tm12 : ((-12 : Int32)).toInt = -12 := rfl
  unfold f6_push f6_push_b31 f6_push_b32 f7_push
  simp only [bnd_e, fails_k]
  rcases rqB (a := a) h with ⟨e1, e2⟩ | ⟨N, Q, i, hr, hi, rfl, e1, e2⟩
  · rw [e1, bndx_r, e2, if_pos rfl]; exact PM.fl h (Or.inl ⟨rfl, rfl⟩)
  · have h4 := hr.i4 hi
    have h9 := hr.mx (t := 490) (x := 0) (by decide)
    rw [e1, bndx_l, e2, if_neg n10, wi_e, wi_e]
    by_cases d1 : f7_isBetween b (-16) 16 = 0
    · rw [if_pos d1, if_pos d1, rq0, bndx_r]; exact PM.fl h (Or.inr ⟨rfl, rfl⟩)
    · rw [if_neg d1, if_neg d1]
      by_cases d2 : f7_isBetween c1 (-12) 16 = 0
      · rw [if_pos d2, if_pos d2, rq0, bndx_r]; exact PM.fl h (Or.inr ⟨rfl, rfl⟩)
      · have b1 := bt_in d1
        have b2 := bt_in d2
        rw [tm16, t16] at b1
        rw [tm12, t16] at b2
        rw [if_neg d2, if_neg d2, rq1 n10, bndx_l, nI_clamp (by omega)]
        simp only [o_2 h4, o_3 h4, s_2 h4, s_3 h4, s_11 h4, va_up_self, up_up]
        refine PM.up h (Int.le_refl K) (((h9.sb (j := 2) hi (by decide) rfl (bb2 b1.1 b1.2)).sb (j := 3) hi (by decide) rfl (bb3 b2.1 b2.2)).sb (j := 11) hi (by decide) rfl (Or.inl rfl)) ?_
        rw [h9.B hi 2 (by decide), h9.B hi 3 (by decide)]
theorem t_clock (h : Top K σ m) : f6_clock σ = (f7_clock m).1 ∧ Top K σ (f7_clock m).2 := by
  obtain ⟨N, Q, hr⟩ := h.rb
  unfold f6_clock f7_clock
  simp only [bnd_e]
  exact ⟨hr.e6.trans (va_up_ne _ _ (by decide)).symm, h.m490⟩
theorem t_fault (h : Top K σ m) : f6_faultPosition σ = (f7_faultPosition m).1 ∧ Top K σ (f7_faultPosition m).2 := by
  unfold f6_faultPosition f7_faultPosition
  simp only [bnd_e]
  exact ⟨h.fa.trans (va_up_ne _ _ (by decide)).symm, h.m490⟩
end
