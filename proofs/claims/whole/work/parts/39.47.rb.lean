/-! PURE, part C: a tick. RB: class's world row u and reference's row m are alike on what lives (N bodies, Q platforms, c carriers noted), within bounds k; M0: what stays of the reference's row; sz: the class's settings -/
def LV (N Q t : Nat) : Prop := t < 336 ∨ (∃ i k, i < N ∧ k < 22 ∧ t = 336+24*i+k) ∨ (∃ p k, p < Q ∧ k < 7 ∧ t = 432+8*p+k) ∨ (464 ≤ t ∧ t < 467)
def bdB (KK l k : Int) (j : Nat) (x : Int) : Prop := match j with
  | 0 => -(KK + k) ≤ x ∧ x ≤ KK + k
  | 1 => -(l + k) ≤ x ∧ x ≤ KK + k
  | 2 => -16 ≤ x ∧ x ≤ 16
  | 3 => -12 ≤ x ∧ x ≤ 16
  | 4 => 0 ≤ x ∧ x ≤ 10
  | 5 => 0 ≤ x ∧ x ≤ 10
  | 6 => 0 ≤ x ∧ x ≤ 8
  | 7 => 4 ≤ x ∧ x ≤ 16
  | 8 => 4 ≤ x ∧ x ≤ 28
  | 11 => x = 0 ∨ x = 1
  | 12 => 0 ≤ x ∧ x ≤ 383
  | 13 => 0 ≤ x ∧ x ≤ 383
  | _ => True
theorem bb0 {KK l k x : Int} (h1 : -(KK + k) ≤ x) (h2 : x ≤ KK + k) : bdB KK l k 0 x := ⟨h1, h2⟩
theorem bb1 {KK l k x : Int} (h1 : -(l + k) ≤ x) (h2 : x ≤ KK + k) : bdB KK l k 1 x := ⟨h1, h2⟩
theorem bb2 {KK l k x : Int} (h1 : -16 ≤ x) (h2 : x ≤ 16) : bdB KK l k 2 x := ⟨h1, h2⟩
theorem bb3 {KK l k x : Int} (h1 : -12 ≤ x) (h2 : x ≤ 16) : bdB KK l k 3 x := ⟨h1, h2⟩
theorem bb4 {KK l k x : Int} (h1 : 0 ≤ x) (h2 : x ≤ 10) : bdB KK l k 4 x := ⟨h1, h2⟩
theorem bb5 {KK l k x : Int} (h1 : 0 ≤ x) (h2 : x ≤ 10) : bdB KK l k 5 x := ⟨h1, h2⟩
theorem bb6 {KK l k x : Int} (h1 : 0 ≤ x) (h2 : x ≤ 8) : bdB KK l k 6 x := ⟨h1, h2⟩
def bdP (k : Int) (j : Nat) (x : Int) : Prop := match j with
  | 0 => -k ≤ x ∧ x ≤ k
  | 1 => -k ≤ x ∧ x ≤ k
  | 2 => 16 ≤ x ∧ x ≤ 64
  | 3 => -2 ≤ x ∧ x ≤ 2
  | 4 => -2 ≤ x ∧ x ≤ 2
  | _ => True
theorem bdB_mono {KK LL l r k q : Int} (h0 : KK + k ≤ LL + q) (h1 : l + k ≤ r + q) : ∀ (j : Nat) {x : Int}, bdB KK l k j x → bdB LL r q j x
  | 0, x, h => by
    have h2 : -(KK + k) ≤ x ∧ x ≤ KK + k := h
    exact (⟨by omega, by omega⟩ : -(LL + q) ≤ x ∧ x ≤ LL + q)
  | 1, x, h => by
    have h2 : -(l + k) ≤ x ∧ x ≤ KK + k := h
    exact (⟨by omega, by omega⟩ : -(r + q) ≤ x ∧ x ≤ LL + q)
  | 2, _, h => h
  | 3, _, h => h
  | 4, _, h => h
  | 5, _, h => h
  | 6, _, h => h
  | 7, _, h => h
  | 8, _, h => h
  | 9, _, h => h
  | 10, _, h => h
  | 11, _, h => h
  | 12, _, h => h
  | 13, _, h => h
  | _+14, _, h => h
theorem bdB_free {KK l r k x : Int} : ∀ {n : Nat}, bdB KK l k (n+2) x → bdB KK r k (n+2) x
  | 0, h => h
  | 1, h => h
  | 2, h => h
  | 3, h => h
  | 4, h => h
  | 5, h => h
  | 6, h => h
  | 7, h => h
  | 8, h => h
  | 9, h => h
  | 10, h => h
  | 11, h => h
  | _+12, h => h
theorem bdP_mono {k l : Int} (hkl : k ≤ l) : ∀ (j : Nat) {x : Int}, bdP k j x → bdP l j x
  | 0, x, h => by
    have h2 : -k ≤ x ∧ x ≤ k := h
    exact (⟨by omega, by omega⟩ : -l ≤ x ∧ x ≤ l)
  | 1, x, h => by
    have h2 : -k ≤ x ∧ x ≤ k := h
    exact (⟨by omega, by omega⟩ : -l ≤ x ∧ x ≤ l)
  | 2, _, h => h
  | 3, _, h => h
  | 4, _, h => h
  | _+5, _, h => h
def ES (sz M0 : Nat → Int32) : Prop := (∀ j, j < 4 → sz (10+j) = M0 (480+j)) ∧ (1 ≤ (M0 480).toInt ∧ (M0 480).toInt ≤ 10) ∧ (5 ≤ (M0 481).toInt ∧ (M0 481).toInt ≤ 16) ∧ (0 ≤ (M0 482).toInt ∧ (M0 482).toInt ≤ 10) ∧ (1 ≤ (M0 483).toInt ∧ (M0 483).toInt ≤ 10)
def RC (KK : Int) (lo : Nat → Int) (sz M0 : Nat → Int32) (N Q c : Nat) (k : Int) (u m : Nat → Int32) : Prop := (∀ t, LV N Q t → u t = m t) ∧ (∀ t, ((480 ≤ t ∧ t < 484) ∨ 488 ≤ t) → m t = M0 t) ∧ (∀ j, j < c → u (470+j) = m (484+j)) ∧ (N ≤ 4 ∧ Q ≤ 4 ∧ c ≤ 4) ∧ ((m 464).toInt = N ∧ (m 465).toInt = Q) ∧ (∀ i j, i < N → j < 22 → bdB KK (lo i) k j (m (336+24*i+j)).toInt) ∧ (∀ p j, p < Q → j < 7 → bdP (KK + k) j (m (432+8*p+j)).toInt) ∧ ES sz M0 ∧ (∀ i, lo i ≤ 1000)
section
variable {KK : Int} {lo : Nat → Int} {sz M0 : Nat → Int32} {N Q c : Nat} {k l : Int} {u m : Nat → Int32} {i j p : Nat}
theorem RC.eq (h : RC KK lo sz M0 N Q c k u m) : ∀ t, LV N Q t → u t = m t := h.1
theorem RC.rest (h : RC KK lo sz M0 N Q c k u m) : ∀ t, ((480 ≤ t ∧ t < 484) ∨ 488 ≤ t) → m t = M0 t := h.2.1
theorem RC.car (h : RC KK lo sz M0 N Q c k u m) : ∀ j, j < c → u (470+j) = m (484+j) := h.2.2.1
theorem RC.cnts (h : RC KK lo sz M0 N Q c k u m) : N ≤ 4 ∧ Q ≤ 4 ∧ c ≤ 4 := h.2.2.2.1
theorem RC.nbm (h : RC KK lo sz M0 N Q c k u m) : (m 464).toInt = N := h.2.2.2.2.1.1
theorem RC.npm (h : RC KK lo sz M0 N Q c k u m) : (m 465).toInt = Q := h.2.2.2.2.1.2
theorem RC.bd (h : RC KK lo sz M0 N Q c k u m) (hi : i < N) (hj : j < 22) : bdB KK (lo i) k j (m (336+24*i+j)).toInt := h.2.2.2.2.2.1 i j hi hj
theorem RC.pd (h : RC KK lo sz M0 N Q c k u m) (hp : p < Q) (hj : j < 7) : bdP (KK + k) j (m (432+8*p+j)).toInt := h.2.2.2.2.2.2.1 p j hp hj
theorem RC.es (h : RC KK lo sz M0 N Q c k u m) : ES sz M0 := h.2.2.2.2.2.2.2.1
theorem RC.lw (h : RC KK lo sz M0 N Q c k u m) : ∀ i, lo i ≤ 1000 := h.2.2.2.2.2.2.2.2
theorem RC.mono (h : RC KK lo sz M0 N Q c k u m) (hkl : k ≤ l) : RC KK lo sz M0 N Q c l u m := ⟨h.eq, h.rest, h.car, h.cnts, ⟨h.nbm, h.npm⟩, fun _ j hi hj => bdB_mono (by omega) (by omega) j (h.bd hi hj), fun _ j hp hj => bdP_mono (by omega) j (h.pd hp hj), h.es, h.lw⟩
theorem RC.i4 (h : RC KK lo sz M0 N Q c k u m) (hi : i < N) : i < 4 := Nat.lt_of_lt_of_le hi h.cnts.1
theorem RC.p4 (h : RC KK lo sz M0 N Q c k u m) (hp : p < Q) : p < 4 := Nat.lt_of_lt_of_le hp h.cnts.2.1
theorem RC.T (h : RC KK lo sz M0 N Q c k u m) : ET u m := fun t ht => h.eq t (Or.inl ht)
theorem RC.B (h : RC KK lo sz M0 N Q c k u m) (hi : i < N) : EI u m i := fun k hk => h.eq _ (Or.inr (Or.inl ⟨i, k, hi, hk, rfl⟩))
theorem RC.Pq (h : RC KK lo sz M0 N Q c k u m) (hp : p < Q) : ∀ j, j < 7 → u (432+8*p+j) = m (432+8*p+j) := fun k hk => h.eq _ (Or.inr (Or.inr (Or.inl ⟨p, k, hp, hk, rfl⟩)))
theorem RC.e4 (h : RC KK lo sz M0 N Q c k u m) : u 464 = m 464 := h.eq 464 (Or.inr (Or.inr (Or.inr ⟨by decide, by decide⟩)))
theorem RC.e5 (h : RC KK lo sz M0 N Q c k u m) : u 465 = m 465 := h.eq 465 (Or.inr (Or.inr (Or.inr ⟨by decide, by decide⟩)))
theorem RC.e6 (h : RC KK lo sz M0 N Q c k u m) : u 466 = m 466 := h.eq 466 (Or.inr (Or.inr (Or.inr ⟨by decide, by decide⟩)))
theorem RC.P (h : RC KK lo sz M0 N Q c k u m) : EP u m := ⟨h.e5, fun p _ hp k hk => h.Pq (by have := h.npm; omega) k hk⟩
theorem RC.ok (h : RC KK lo sz M0 N Q c k u m) : okW m := by
  have h1 := h.cnts
  have h3 := h.nbm
  have h4 := h.npm
  exact ⟨by omega, by omega, by omega, by omega⟩
theorem RC.sb {x y : Int32} (h : RC KK lo sz M0 N Q c k u m) (hi : i < N) (hj : j < 22) (hx : x = y) (hb : bdB KK (lo i) k j y.toInt) : RC KK lo sz M0 N Q c k (va_up u (336+24*i+j) x) (va_up m (336+24*i+j) y) := by
  subst hx
  have h4 := h.i4 hi
  have hc := h.cnts
  refine ⟨fun t ht => ?_, fun t ht => ?_, fun t ht => ?_, h.cnts, ⟨?_, ?_⟩, fun i' j' hi' hj' => ?_, fun p j' hp hj' => ?_, h.es, h.lw⟩
  · by_cases e : t = 336+24*i+j
    · subst e; rw [va_up_self, va_up_self]
    · rw [va_up_ne _ _ e, va_up_ne _ _ e]; exact h.eq t ht
  · rw [va_up_ne _ _ (by omega)]; exact h.rest t ht
  · rw [va_up_ne _ _ (by omega), va_up_ne _ _ (by omega)]; exact h.car t ht
  · rw [va_up_ne _ _ (by omega)]; exact h.nbm
  · rw [va_up_ne _ _ (by omega)]; exact h.npm
  · by_cases e : i' = i ∧ j' = j
    · obtain ⟨rfl, rfl⟩ := e
      rw [va_up_self]; exact hb
    · have h9 := h.i4 hi'
      rw [va_up_ne _ _ (by omega)]; exact h.bd hi' hj'
  · have h9 := h.p4 hp
    rw [va_up_ne _ _ (by omega)]; exact h.pd hp hj'
def lset (lo : Nat → Int) (i : Nat) (l : Int) : Nat → Int := fun t => if t = i then l else lo t
/-- the height is written, and how low it may be is anew -/
theorem RC.sy {x y : Int32} {l : Int} (h : RC KK lo sz M0 N Q c k u m) (hi : i < N) (hx : x = y) (hl : l ≤ 1000) (hb : -(l + k) ≤ y.toInt ∧ y.toInt ≤ KK + k) : RC KK (lset lo i l) sz M0 N Q c k (va_up u (336+24*i+1) x) (va_up m (336+24*i+1) y) := by
  subst hx
  have h4 := h.i4 hi
  have hc := h.cnts
  refine ⟨fun t ht => ?_, fun t ht => ?_, fun t ht => ?_, h.cnts, ⟨?_, ?_⟩, fun i' j' hi' hj' => ?_, fun p j' hp hj' => ?_, h.es, fun t => ?_⟩
  · by_cases e : t = 336+24*i+1
    · subst e; rw [va_up_self, va_up_self]
    · rw [va_up_ne _ _ e, va_up_ne _ _ e]; exact h.eq t ht
  · rw [va_up_ne _ _ (by omega)]; exact h.rest t ht
  · rw [va_up_ne _ _ (by omega), va_up_ne _ _ (by omega)]; exact h.car t ht
  · rw [va_up_ne _ _ (by omega)]; exact h.nbm
  · rw [va_up_ne _ _ (by omega)]; exact h.npm
  · have h9 := h.i4 hi'
    unfold lset
    by_cases e : i' = i
    · subst e
      rw [if_pos rfl]
      by_cases e1 : j' = 1
      · subst e1
        rw [va_up_self]; exact bb1 hb.1 hb.2
      · rw [va_up_ne _ _ (by omega)]
        have h8 := h.bd hi' hj'
        match j', e1, h8 with
        | 0, _, h8 => exact h8
        | n+2, _, h8 => exact bdB_free h8
    · rw [if_neg e, va_up_ne _ _ (by omega)]; exact h.bd hi' hj'
  · have h9 := h.p4 hp
    rw [va_up_ne _ _ (by omega)]; exact h.pd hp hj'
  · unfold lset
    split
    · exact hl
    · exact h.lw t
theorem RC.sl {l : Int} (h : RC KK lo sz M0 N Q c k u m) (hi : i < N) (hl : l ≤ 1000) (hb : -(l + k) ≤ (m (336+24*i+1)).toInt) : RC KK (lset lo i l) sz M0 N Q c k u m := by
  have hy : -(lo i + k) ≤ (m (336+24*i+1)).toInt ∧ (m (336+24*i+1)).toInt ≤ KK + k := h.bd hi (by decide : 1 < 22)
  have := h.sy (x := u (336+24*i+1)) (y := m (336+24*i+1)) hi (h.B hi 1 (by decide)) hl ⟨hb, hy.2⟩
  rw [up_eta, up_eta] at this
  exact this
theorem RC.sp {x y : Int32} (h : RC KK lo sz M0 N Q c k u m) (hp : p < Q) (hj : j < 7) (hx : x = y) (hb : bdP (KK + k) j y.toInt) : RC KK lo sz M0 N Q c k (va_up u (432+8*p+j) x) (va_up m (432+8*p+j) y) := by
  subst hx
  have h4 := h.p4 hp
  have hc := h.cnts
  refine ⟨fun t ht => ?_, fun t ht => ?_, fun t ht => ?_, h.cnts, ⟨?_, ?_⟩, fun i' j' hi' hj' => ?_, fun p' j' hp' hj' => ?_, h.es, h.lw⟩
  · by_cases e : t = 432+8*p+j
    · subst e; rw [va_up_self, va_up_self]
    · rw [va_up_ne _ _ e, va_up_ne _ _ e]; exact h.eq t ht
  · rw [va_up_ne _ _ (by omega)]; exact h.rest t ht
  · rw [va_up_ne _ _ (by omega), va_up_ne _ _ (by omega)]; exact h.car t ht
  · rw [va_up_ne _ _ (by omega)]; exact h.nbm
  · rw [va_up_ne _ _ (by omega)]; exact h.npm
  · have h9 := h.i4 hi'
    rw [va_up_ne _ _ (by omega)]; exact h.bd hi' hj'
  · by_cases e : p' = p ∧ j' = j
    · obtain ⟨rfl, rfl⟩ := e
      rw [va_up_self]; exact hb
    · have h9 := h.p4 hp'
      rw [va_up_ne _ _ (by omega)]; exact h.pd hp' hj'
/-- a tile, or the clock -/
theorem RC.st {t : Nat} {x y : Int32} (h : RC KK lo sz M0 N Q c k u m) (ht : t < 336 ∨ t = 466) (hx : x = y) : RC KK lo sz M0 N Q c k (va_up u t x) (va_up m t y) := by
  subst hx
  have hc := h.cnts
  refine ⟨fun q hq => ?_, fun q hq => ?_, fun q hq => ?_, h.cnts, ⟨?_, ?_⟩, fun i' j' hi' hj' => ?_, fun p' j' hp' hj' => ?_, h.es, h.lw⟩
  · by_cases e : q = t
    · subst e; rw [va_up_self, va_up_self]
    · rw [va_up_ne _ _ e, va_up_ne _ _ e]; exact h.eq q hq
  · rw [va_up_ne _ _ (by omega)]; exact h.rest q hq
  · rw [va_up_ne _ _ (by omega), va_up_ne _ _ (by omega)]; exact h.car q hq
  · rw [va_up_ne _ _ (by omega)]; exact h.nbm
  · rw [va_up_ne _ _ (by omega)]; exact h.npm
  · have h9 := h.i4 hi'
    rw [va_up_ne _ _ (by omega)]; exact h.bd hi' hj'
  · have h9 := h.p4 hp'
    rw [va_up_ne _ _ (by omega)]; exact h.pd hp' hj'
/-- a carrier -/
theorem RC.sc {x y : Int32} (h : RC KK lo sz M0 N Q c k u m) (h4 : c < 4) (hx : x = y) : RC KK lo sz M0 N Q (c+1) k (va_up u (470+c) x) (va_up m (484+c) y) := by
  subst hx
  have hc := h.cnts
  refine ⟨fun q hq => ?_, fun q hq => ?_, fun q hq => ?_, ⟨hc.1, hc.2.1, h4⟩, ⟨?_, ?_⟩, fun i' j' hi' hj' => ?_, fun p' j' hp' hj' => ?_, h.es, h.lw⟩
  · have h9 : q < 467 := by
      rcases hq with q1 | ⟨i, j, q1, q2, q3⟩ | ⟨i, j, q1, q2, q3⟩ | q1 <;> omega
    rw [va_up_ne _ _ (by omega), va_up_ne _ _ (by omega)]; exact h.eq q hq
  · rw [va_up_ne _ _ (by omega)]; exact h.rest q hq
  · by_cases e : q = c
    · subst e; rw [va_up_self, va_up_self]
    · rw [va_up_ne _ _ (by omega), va_up_ne _ _ (by omega)]; exact h.car q (by omega)
  · rw [va_up_ne _ _ (by omega)]; exact h.nbm
  · rw [va_up_ne _ _ (by omega)]; exact h.npm
  · have h9 := h.i4 hi'
    rw [va_up_ne _ _ (by omega)]; exact h.bd hi' hj'
  · have h9 := h.p4 hp'
    rw [va_up_ne _ _ (by omega)]; exact h.pd hp' hj'
def R2 (KK : Int) (lo : Nat → Int) (sz M0 : Nat → Int32) (N Q c : Nat) (k : Int) (a b : Int32 × (Nat → Int32)) : Prop := a.1 = b.1 ∧ RC KK lo sz M0 N Q c k a.2 b.2
theorem R2.rb {a b : Int32 × (Nat → Int32)} {f g : Int32 → (Nat → Int32) → (Nat → Int32)} (h : R2 KK lo sz M0 N Q c k a b) (hk : ∀ r u1 m1, a = (r, u1) → b = (r, m1) → RC KK lo sz M0 N Q c k u1 m1 → RC KK lo sz M0 N Q c l (f r u1) (g r m1)) : RC KK lo sz M0 N Q c l (bnd2 a f) (bnd2 b g) := by
  obtain ⟨a1, a2⟩ := a
  obtain ⟨b1, b2⟩ := b
  have h1 : a1 = b1 := h.1
  subst h1
  exact hk a1 a2 b2 rfl rfl h.2
theorem bnd_rb {x y : Nat → Int32} {f g : (Nat → Int32) → (Nat → Int32)} (h : RC KK lo sz M0 N Q c k x y) (hk : ∀ u1 m1, RC KK lo sz M0 N Q c k u1 m1 → RC KK lo sz M0 N Q c l (f u1) (g m1)) : RC KK lo sz M0 N Q c l (bnd x f) (bnd y g) := hk x y h
theorem bnd_L {α : Type} {x : α} {f : α → (Nat → Int32)} (h : RC KK lo sz M0 N Q c k (f x) m) : RC KK lo sz M0 N Q c k (bnd x f) m := h
theorem bnd_R {α : Type} {x : α} {f : α → (Nat → Int32)} (h : RC KK lo sz M0 N Q c k u (f x)) : RC KK lo sz M0 N Q c k u (bnd x f) := h
end
theorem ti_add {x y : Int32} (h1 : -2147483648 ≤ x.toInt + y.toInt) (h2 : x.toInt + y.toInt < 2147483648) : (x + y).toInt = x.toInt + y.toInt := by
  rw [Int32.toInt_add, Int.bmod_def]
  split <;> omega
theorem ti_sub {x y : Int32} (h1 : -2147483648 ≤ x.toInt - y.toInt) (h2 : x.toInt - y.toInt < 2147483648) : (x - y).toInt = x.toInt - y.toInt := by
  rw [Int32.toInt_sub, Int.bmod_def]
  split <;> omega
theorem ti_neg {x : Int32} (h1 : -2147483648 < x.toInt) : (-x).toInt = -x.toInt := by
  have h2 := x.toInt_lt
  rw [Int32.toInt_neg, Int.bmod_def]
  split <;> omega
theorem ti_p1 {x : Int32} (h2 : x.toInt < 2147483647) : (x + 1).toInt = x.toInt + 1 := ti_add (y := 1) (by have := x.le_toInt; show _ ≤ x.toInt + 1; omega) (by show x.toInt + 1 < _; omega)
theorem ti_s1 {x : Int32} (h2 : -2147483648 < x.toInt) : (x - 1).toInt = x.toInt - 1 := ti_sub (y := 1) (by show _ ≤ x.toInt - 1; omega) (by have := x.toInt_lt; show x.toInt - 1 < _; omega)
theorem ti_n1 {x : Int32} (h2 : -2147483648 < x.toInt) : (x + -1).toInt = x.toInt - 1 := ti_add (y := -1) (by show _ ≤ x.toInt + -1; omega) (by have := x.toInt_lt; show x.toInt + -1 < _; omega)
theorem ti_lt {x y : Int32} : x < y ↔ x.toInt < y.toInt := Int32.lt_iff_toInt_lt
theorem ti_le {x y : Int32} : x ≤ y ↔ x.toInt ≤ y.toInt := Int32.le_iff_toInt_le
theorem ti_inj {x y : Int32} (h : x.toInt = y.toInt) : x = y := Int32.toInt_inj.mp h
theorem t_0 : (0 : Int32).toInt = 0 := rfl
theorem t_1 : (1 : Int32).toInt = 1 := rfl
theorem t_2 : (2 : Int32).toInt = 2 := rfl
theorem t_m1 : (-1 : Int32).toInt = -1 := rfl
theorem t_m2 : (-2 : Int32).toInt = -2 := rfl
theorem ne_min {y : Int32} (h : -1000000 < y.toInt) : ¬ y = -1000000 := fun e => by
  rw [e, show ((-1000000 : Int32)).toInt = -1000000 from rfl] at h
  omega
theorem big_lt {q : Nat} (h : q ≤ 100000) : q < BIG := by unfold BIG; omega
theorem up_comm {u : Nat → Int32} {a b : Nat} {x y : Int32} (h : a ≠ b) : va_up (va_up u a x) b y = va_up (va_up u b y) a x := by
  funext t
  by_cases h1 : t = b
  · subst h1
    rw [va_up_self, va_up_ne _ _ (fun z => h z.symm), va_up_self]
  · rw [va_up_ne _ _ h1]
    by_cases h2 : t = a
    · subst h2
      rw [va_up_self, va_up_self]
    · rw [va_up_ne _ _ h2, va_up_ne _ _ h2, va_up_ne _ _ h1]
/-! the unit moves -/
section
variable {KK : Int} {lo : Nat → Int} {sz M0 : Nat → Int32} {N Q c : Nat} {k l : Int} {u m : Nat → Int32} {i j p : Nat}
theorem RC.y (h : RC KK lo sz M0 N Q c k u m) (hi : i < N) : -(lo i + k) ≤ (m (336+24*i+1)).toInt ∧ (m (336+24*i+1)).toInt ≤ KK + k ∧ lo i ≤ 1000 := by
  have hy : -(lo i + k) ≤ (m (336+24*i+1)).toInt ∧ (m (336+24*i+1)).toInt ≤ KK + k := h.bd hi (by decide : 1 < 22)
  exact ⟨hy.1, hy.2, h.lw i⟩
theorem RC.x (h : RC KK lo sz M0 N Q c k u m) (hi : i < N) : -(KK + k) ≤ (m (336+24*i+0)).toInt ∧ (m (336+24*i+0)).toInt ≤ KK + k := h.bd hi (by decide : 0 < 22)
theorem e_stepUp (h : RC KK lo sz M0 N Q c k u m) (hi : i < N) (hk : KK + k ≤ 1000000000 ∧ k ≤ 900000) : R2 KK lo sz M0 N Q c (k+1) (f5_stepUp u i) (f7_movesUp m (nI i)) := by
  have h4 := h.i4 hi
  have hB := h.B hi
  have hy := h.y hi
  unfold f5_stepUp f7_movesUp
  simp only [bnd_e]
  rw [o_0 h4, o_1 h4, a_1 h4, e_block h4 h.T hB.D, hB 0 (by decide), hB 1 (by decide)]
  by_cases hb : f7_blocks m (nI i) (m (336+24*i+0)) (m (336+24*i+1) + 1) = 0
  · rw [if_pos hb, if_pos hb]
    exact ⟨rfl, (h.mono (by omega)).sb (j := 1) hi (by decide) rfl (by
      have := ti_p1 (x := m (336+24*i+1)) (by omega)
      exact bb1 (by omega) (by omega))⟩
  · rw [if_neg hb, if_neg hb]
    exact ⟨rfl, h.mono (by omega)⟩
theorem e_supAt {x y d : Int32} (h : RC KK lo sz M0 N Q c k u m) (hi : i < N) (hy : -1000000 < y.toInt) : f5_supportAt u i x y d = f7_supportBut m (nI i) x y d := e_support (h.i4 hi) h.T (h.B hi).G h.ok h.P (ne_min hy)
theorem e_supOf {d : Int32} (h : RC KK lo sz M0 N Q c k u m) (hi : i < N) (hk : KK + k ≤ 1000000000 ∧ k ≤ 900000) : f5_supportAt u i (u (336+24*i+0)) (u (336+24*i+1)) d = f7_supportBut m (nI i) (f7_of m (nI i) 0) (f7_of m (nI i) 1) d := by
  have h4 := h.i4 hi
  have hB := h.B hi
  have hy := h.y hi
  rw [o_0 h4, o_1 h4, hB 0 (by decide), hB 1 (by decide)]
  exact e_supAt h hi (by omega)
theorem RC.dn (h : RC KK lo sz M0 N Q c k u m) (hi : i < N) (hk : KK + k ≤ 1000000000 ∧ k ≤ 900000) : RC KK lo sz M0 N Q c (k+1) (va_up u (336+24*i+1) (u (336+24*i+1) - 1)) (va_up m (336+24*i+1) (m (336+24*i+1) + -1)) := by
  have hy := h.y hi
  refine (h.mono (by omega)).sb (j := 1) hi (by decide) ?_ ?_
  · rw [h.B hi 1 (by decide), Int32.sub_eq_add_neg]
  · have := ti_n1 (x := m (336+24*i+1)) (by omega)
    exact bb1 (by omega) (by omega)
theorem e_stepDown (h : RC KK lo sz M0 N Q c k u m) (hi : i < N) (hk : KK + k ≤ 1000000000 ∧ k ≤ 900000) : R2 KK lo sz M0 N Q c (k+1) (f5_stepDown u i (-1)) (f7_movesDown m (nI i)) := by
  have h4 := h.i4 hi
  unfold f5_stepDown f7_movesDown f7_supportOf f7_supportAt
  simp only [bnd_e]
  rw [e_supOf h hi hk, a_1 h4]
  by_cases hb : f7_supportBut m (nI i) (f7_of m (nI i) 0) (f7_of m (nI i) 1) (-1) = 0
  · rw [if_pos hb, if_pos hb]
    exact ⟨rfl, h.dn hi hk⟩
  · rw [if_neg hb, if_neg hb]
    exact ⟨rfl, h.mono (by omega)⟩
theorem e_isStanding (h : RC KK lo sz M0 N Q c k u m) (hi : i < N) (hk : KK + k ≤ 1000000000 ∧ k ≤ 900000) : f5_isStanding u i = f7_doesStand m (nI i) := by
  have h4 := h.i4 hi
  have hB := h.B hi
  unfold f5_isStanding f7_doesStand f7_supportOf f7_supportAt
  simp only [bnd_e]
  rw [e_supOf h hi hk, o_3 h4, hB 3 (by decide)]
theorem e_firmOf (h : RC KK lo sz M0 N Q c k u m) (hi : i < N) : f4_firmKindsBelow u i (u (336+24*i+0)) (u (336+24*i+1)) = f7_firmBelow m (nI i) (f7_of m (nI i) 0) (f7_of m (nI i) 1) := by
  have h4 := h.i4 hi
  have hB := h.B hi
  rw [o_0 h4, o_1 h4, hB 0 (by decide), hB 1 (by decide)]
  exact e_firmBelow h4 h.T hB.D
theorem e_b119 {x w : Int32} (h : RC KK lo sz M0 N Q c k u m) (hi : i < N) (hx : -(KK + k) ≤ x.toInt ∧ x.toInt ≤ KK + k) (hw : -(lo i + k) ≤ w.toInt ∧ w.toInt ≤ KK + k) : R2 KK lo sz M0 N Q c k (f5_stepSideways_b119 u i x w) (f7_movesAcross_b142 m (nI i) x w) := by
  have h4 := h.i4 hi
  unfold f5_stepSideways_b119 f7_movesAcross_b142
  simp only [bnd_e]
  rw [s_0 h4, s_1 h4]
  exact ⟨rfl, (h.sb (j := 0) hi (by decide) rfl hx).sb (j := 1) hi (by decide) rfl hw⟩
theorem e_b57 {x w : Int32} (h : RC KK lo sz M0 N Q c k u m) (hi : i < N) (hk : KK + k ≤ 1000000000 ∧ k ≤ 900000) (hx : -(KK+(k+1)) ≤ x.toInt ∧ x.toInt ≤ KK+(k+1)) (hw : -(lo i + k) ≤ w.toInt ∧ w.toInt ≤ KK+(k+1)) : R2 KK lo sz M0 N Q c (k+1) (f5_stepSideways_b57 u i x w) (f7_movesAcross_b82 m (nI i) x w) := by
  have h4 := h.i4 hi
  have hB := h.B hi
  have hy := h.y hi
  have hn := ti_n1 (x := w) (by omega)
  have hs := ti_s1 (x := w) (by omega)
  have hb := e_b119 (x := x) (w := w) (h.mono (l := k+1) (by omega)) hi hx (by omega)
  have hb2 := e_b119 (x := x) (w := w + -1) (h.mono (l := k+1) (by omega)) hi hx (by omega)
  unfold f5_stepSideways_b57 f7_movesAcross_b82 f7_movesAcross_b108 f7_supportOf f7_supportAt
  simp only [bnd_e, ↓reduceIte]
  rw [e_block h4 h.T hB.D, e_supAt h hi (by omega), e_supAt (y := w - 1) h hi (by omega), e_supOf h hi hk]
  by_cases c1 : f7_blocks m (nI i) x w = 0
  · rw [if_pos c1, if_pos c1]
    by_cases c2 : f7_supportBut m (nI i) (f7_of m (nI i) 0) (f7_of m (nI i) 1) (-1) = 0
    · rw [if_pos c2, if_pos c2]
      split
      · exact hb
      · exact hb
    · rw [if_neg c2, if_neg c2]
      by_cases c3 : f7_supportBut m (nI i) x w (-1) = 0
      · rw [if_pos c3, if_pos c3]
        by_cases c4 : f7_supportBut m (nI i) x (w - 1) (-1) = 0
        · rw [if_pos c4, if_pos c4]; exact hb
        · rw [if_neg c4, if_neg c4]; exact hb2
      · rw [if_neg c3, if_neg c3]; exact hb
  · rw [if_neg c1, if_neg c1]
    exact ⟨rfl, h.mono (by omega)⟩
/-- stepSideways: movesAcross -/
theorem e_sideways {d : Int32} (h : RC KK lo sz M0 N Q c k u m) (hi : i < N) (hk : KK + k ≤ 1000000000 ∧ k ≤ 900000) (hd : d = 1 ∨ d = -1) : R2 KK lo sz M0 N Q c (k+1) (f5_stepSideways u i d) (f7_movesAcross m (nI i) d) := by
  have h4 := h.i4 hi
  have hB := h.B hi
  have hy := h.y hi
  have hx := h.x hi
  have p1 := ti_p1 (x := m (336+24*i+1)) (by omega)
  have hxd : -(KK+(k+1)) ≤ (m (336+24*i+0) + d).toInt ∧ (m (336+24*i+0) + d).toInt ≤ KK+(k+1) := by
    rcases hd with rfl | rfl
    · have := ti_p1 (x := m (336+24*i+0)) (by omega); omega
    · have := ti_n1 (x := m (336+24*i+0)) (by omega); omega
  have hb := fun z hw => e_b57 (x := m (336+24*i+0) + d) (w := z) h hi hk hxd hw
  have h0 : R2 KK lo sz M0 N Q c (k+1) ((0 : Int32), u) (0, m) := ⟨rfl, h.mono (by omega)⟩
  unfold f5_stepSideways f7_movesAcross f7_movesAcross_b80
  simp only [bnd_e]
  rw [o_0 h4, o_1 h4, hB 0 (by decide), hB 1 (by decide), e_foot h4 hB.D, e_surf h.T]
  by_cases c1 : f7_isSlope (f7_kindAt m (f0_footAt u i (m (336+24*i+0) + d)) (m (336+24*i+1))) = 0
  · rw [if_pos c1, if_pos c1, if_pos (by rw [ti_le, p1, show ((-1000000 : Int32)).toInt = -1000000 from rfl]; omega), if_neg (fun e => ne_min (y := m (336+24*i+1) + 1) (by omega) e.symm)]
    exact hb _ (by omega)
  · rw [if_neg c1, if_neg c1]
    by_cases c2 : f7_surfaceAt m (f0_footAt u i (m (336+24*i+0) + d)) (m (336+24*i+1)) ≤ m (336+24*i+1) + 1
    · rw [if_pos c2, if_pos c2]
      by_cases c3 : f7_surfaceAt m (f0_footAt u i (m (336+24*i+0) + d)) (m (336+24*i+1)) = m (336+24*i+1) + 1
      · rw [if_pos c3, if_pos c3, c3]
        exact hb _ (by omega)
      · rw [if_neg c3, if_neg c3]
        exact hb _ (by omega)
    · rw [if_neg c2, if_neg c2]
      exact h0
end
