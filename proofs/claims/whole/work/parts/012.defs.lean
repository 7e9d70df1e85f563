/-! the pure words: what each method does to its rows, and what is pure of what they rest on -/
def nb (x : Int32) : Int32 := x &&& 1
def tr (n o : Nat) (u : Nat → Int32) : Nat → Int32 := fun j => if j < n then u (o + j) else 0
/-- the cells that methods may write: from B0 on, but the two cells behind the pool, where the law's own rows lie -/
abbrev AA (B0 : Nat) : Nat → Prop := fun q => B0 ≤ q ∧ q ≠ B0 + 290 ∧ q ≠ B0 + 291
def adOK (B0 : Nat) (ad : Nat → Nat) : Prop := (∀ i j, i < 290 → j < 290 → ad i = ad j → i = j) ∧ ∀ i, i < 290 → AA B0 (ad i)
theorem up_eta {α : Type} (f : Nat → α) (k : Nat) : va_up f k (f k) = f := by
  funext j
  unfold va_up
  split
  · subst_vars; rfl
  · rfl
theorem up_up {α : Type} (f : Nat → α) (k : Nat) (v w : α) : va_up (va_up f k v) k w = va_up f k w := bx_uu f k v w
theorem upd_up (f : Nat → Int32) (k : Nat) (x : Int32) : upd f k x = va_up f k x := rfl
/-- which cell of a world a place of its row belongs to -/
def own (t : Nat) : Nat := if t < 336 then 2 else if t < 432 then (if 14 ≤ (t-336)%24 ∧ (t-336)%24 < 21 then 7+2*((t-336)/24) else 6+2*((t-336)/24)) else if t < 464 then 14+(t-432)/8 else if t < 467 then 0 else if 470 ≤ t ∧ t < 474 then 5 else 99
theorem own_b {i k : Nat} (hi : i < 4) (hk : k < 24) (h : k < 14 ∨ 21 ≤ k) : own (336+24*i+k) = 6+2*i := by
  unfold own
  rw [if_neg (by omega), if_pos (by omega), if_neg (by omega), show (336+24*i+k-336)/24 = i by omega]
theorem own_s {i k : Nat} (hi : i < 4) (hk : k < 7) : own (336+24*i+14+k) = 7+2*i := by
  unfold own
  rw [if_neg (by omega), if_pos (by omega), if_pos (by omega), show (336+24*i+14+k-336)/24 = i by omega]
theorem own_p {i k : Nat} (hi : i < 4) (hk : k < 8) : own (432+8*i+k) = 14+i := by
  unfold own
  rw [if_neg (by omega), if_neg (by omega), if_pos (by omega), show (432+8*i+k-432)/8 = i by omega]
theorem own_k {t : Nat} (h : t < 336) : own t = 2 := by unfold own; rw [if_pos h]
theorem own_a {k : Nat} (h : k < 4) : own (470+k) = 5 := by
  unfold own
  rw [if_neg (by omega), if_neg (by omega), if_neg (by omega), if_neg (by omega), if_pos (by omega)]
theorem tr_eq {n o : Nat} {u u' : Nat → Int32} (h : ∀ k, k < n → u (o+k) = u' (o+k)) : tr n o u = tr n o u' := by
  funext j
  unfold tr
  by_cases hj : j < n
  · rw [if_pos hj, if_pos hj, h j hj]
  · rw [if_neg hj, if_neg hj]
theorem tr_upd {n o j : Nat} {u : Nat → Int32} {x : Int32} (h : j < n) : upd (tr n o u) j x = tr n o (va_up u (o+j) x) := by
  funext k
  unfold upd tr va_up
  by_cases hk : k = j
  · subst hk; simp [h]
  · have h2 : ¬ o + k = o + j := by omega
    simp [hk, h2]
theorem tr_at {n o j : Nat} {u : Nat → Int32} (h : j < n) : tr n o u j = u (o+j) := by unfold tr; rw [if_pos h]
/-- which cell a place of the class's row belongs to -/
def own15 (t : Nat) : Nat := if t < 2 then 270 else if t < 4 then 273 else if t < 6 then 275 else if t < 10 then 0 else if t < 14 then 271 else if t < 18 then 272 else if t < 20 then 0 else if t < 60 then 276 else if t < 80 then 277 else if t < 100 then 278 else 0
def own16 (t : Nat) : Nat := if t < 480 then 280 else if t < 484 then 281 else if t < 488 then 282 else if t < 490 then 0 else if t < 497 then 279 else if t < 500 then 0 else if t < 540 then 287 else if t < 560 then 288 else if t < 580 then 289 else if t < 584 then 286 else if t < 600 then 0 else if t < 1080 then 284 else if t < 1100 then 0 else if t < 1580 then 285 else if t < 2000 then 0 else if t < 7760 then 283 else 0
def okW (u : Nat → Int32) : Prop := 0 ≤ (u 464).toInt ∧ (u 464).toInt ≤ 4 ∧ 0 ≤ (u 465).toInt ∧ (u 465).toInt ≤ 4
def bnd {α β : Type} (x : α) (k : α → β) : β := k x
def bnd2 {α γ β : Type} (x : α × γ) (k : α → γ → β) : β := k x.1 x.2
theorem bnd_s {α β : Type} {x p : α} {k : α → β} {F : β} (hp : p = x) (hF : bnd x k = F) : k p = F := by subst hp; exact hF
theorem bnd2_s {α γ β : Type} {x : α × γ} {r : α} {u : γ} {k : α → γ → β} {F : β} (hp : (r, u) = x) (hF : bnd2 x k = F) : k r u = F := by subst hp; exact hF
theorem ift {α : Type} {c : Prop} {i : Decidable c} {a b F : α} (h : c) (hF : @ite α c i a b = F) : a = F := (if_pos h).symm.trans hF
theorem iff_ {α : Type} {c : Prop} {i : Decidable c} {a b F : α} (h : ¬ c) (hF : @ite α c i a b = F) : b = F := (if_neg h).symm.trans hF
def BIG : Nat := 4294967296 + 8
def bl (x : Int32) : Prop := x = 0 ∨ x = 1
theorem bl0 : bl 0 := Or.inl rfl
theorem bl1 : bl 1 := Or.inr rfl
theorem bl_nar {x : Int32} (h : bl x) : narrow .boolean (.int x) = .int x := by rcases h with rfl | rfl <;> rfl
theorem bl_fit {x : Int32} (h : bl x) : fits .boolean (.int x) = true := by rcases h with rfl | rfl <;> rfl
theorem bl_nb {x : Int32} (h : bl x) : nb x = x := by rcases h with rfl | rfl <;> rfl
theorem nb_bl (x : Int32) : bl (nb x) := by
  have h : ∀ b : BitVec 32, b &&& 1#32 = 0#32 ∨ b &&& 1#32 = 1#32 := fun b => by
    by_cases hb : b.getLsbD 0 = true
    · right
      refine BitVec.eq_of_getLsbD_eq (fun i hi => ?_)
      rw [BitVec.getLsbD_and]
      by_cases h0 : i = 0
      · subst h0; simp [hb]
      · simp [h0]
    · left
      have hb2 : b.getLsbD 0 = false := by
        cases h9 : b.getLsbD 0
        · rfl
        · exact absurd h9 hb
      refine BitVec.eq_of_getLsbD_eq (fun i hi => ?_)
      rw [BitVec.getLsbD_and]
      by_cases h0 : i = 0
      · subst h0; rw [hb2]; rfl
      · simp [h0]
  rcases h x.toBitVec with h1 | h1
  · exact Or.inl (Int32.toBitVec_inj.mp h1)
  · exact Or.inr (Int32.toBitVec_inj.mp h1)
theorem okW_up {u u1 : Nat → Int32} {t : Nat} {x : Int32} (e : u1 = va_up u t x) (h : okW u) (h1 : t ≠ 464) (h2 : t ≠ 465) : okW u1 := by
  subst e
  unfold okW
  rw [va_up_ne _ _ (Ne.symm h1), va_up_ne _ _ (Ne.symm h2)]
  exact h
theorem in4 {i n : Int32} (h0 : 0 ≤ i) (h : i < n) (hn : n.toInt ≤ 4) : vp_in i 4 := vp_in_iff.mpr ⟨by rw [Int32.le_iff_toInt_le] at h0; exact h0, by rw [Int32.lt_iff_toInt_lt] at h; omega⟩
theorem in_lt {i : Int32} {n : Nat} (h : vp_in i n) : i.toNatClampNeg < n := by
  unfold vp_in at h
  omega
theorem in_nat {k n : Nat} {i : Int32} (h : vp_in i n) (hk : i.toNatClampNeg = k) : k < n := hk ▸ in_lt h

def okC (u : Nat → Int32) : Prop := (0 ≤ (u 2).toInt ∧ (u 2).toInt ≤ 12) ∧ (0 ≤ (u 3).toInt ∧ (u 3).toInt < 12) ∧ (0 ≤ (u 4).toInt ∧ (u 4).toInt ≤ 40) ∧ 0 ≤ (u 5).toInt ∧ (u 5).toInt ≤ 20
def okM (u : Nat → Int32) : Prop := okW u ∧ (0 ≤ (u 491).toInt ∧ (u 491).toInt ≤ 12) ∧ (0 ≤ (u 493).toInt ∧ (u 493).toInt ≤ 40) ∧ (0 ≤ (u 494).toInt ∧ (u 494).toInt ≤ 40) ∧ (0 ≤ (u 495).toInt ∧ (u 495).toInt ≤ 20) ∧ ∀ o, (o = 600 ∨ o = 1100 ∨ ∃ k, k < 12 ∧ o = 2000 + 480 * k) → okW (fun t => u (o + t))
def okS (σ : Nat → Nat → Int32) : Prop := (∀ w, w < 15 → okW (σ w)) ∧ okC (σ 15) ∧ okM (σ 16)
theorem okC_up {u u1 : Nat → Int32} {t : Nat} {x : Int32} (e : u1 = va_up u t x) (h : okC u) (h1 : t < 2 ∨ 5 < t) : okC u1 := by
  subst e
  unfold okC
  rw [va_up_ne _ _ (by omega : 2 ≠ t), va_up_ne _ _ (by omega : 3 ≠ t), va_up_ne _ _ (by omega : 4 ≠ t), va_up_ne _ _ (by omega : 5 ≠ t)]
  exact h
theorem okM_up {u u1 : Nat → Int32} {t : Nat} {x : Int32} (e : u1 = va_up u t x) (h : okM u) (h1 : t ≠ 464) (h2 : t ≠ 465) (h3 : t ≠ 491 ∧ t ≠ 493 ∧ t ≠ 494 ∧ t ≠ 495 ∧ t < 600) : okM u1 := by
  refine ⟨okW_up e h.1 h1 h2, ?_⟩
  subst e
  rw [va_up_ne _ _ (by omega : 491 ≠ t), va_up_ne _ _ (by omega : 493 ≠ t), va_up_ne _ _ (by omega : 494 ≠ t), va_up_ne _ _ (by omega : 495 ≠ t)]
  refine ⟨h.2.1, h.2.2.1, h.2.2.2.1, h.2.2.2.2.1, fun o ho => ?_⟩
  have ho2 : 600 ≤ o := by
    rcases ho with rfl | rfl | ⟨k, hk, rfl⟩ <;> omega
  have h9 := h.2.2.2.2.2 o ho
  unfold okW at h9 ⊢
  dsimp only at h9 ⊢
  rw [va_up_ne _ _ (by omega : o + 464 ≠ t), va_up_ne _ _ (by omega : o + 465 ≠ t)]
  exact h9
theorem okS_row {σ σ1 : Nat → Nat → Int32} {w : Nat} {u : Nat → Int32} (e : σ1 = va_up σ w u) (h : okS σ) (hw : w < 15) (hu : okW u) : okS σ1 := by
  subst e
  refine ⟨fun w2 h2 => ?_, ?_, ?_⟩
  · by_cases h9 : w2 = w
    · subst h9; rw [va_up_self]; exact hu
    · rw [va_up_ne _ _ h9]; exact h.1 w2 h2
  · rw [va_up_ne _ _ (by omega : 15 ≠ w)]; exact h.2.1
  · rw [va_up_ne _ _ (by omega : 16 ≠ w)]; exact h.2.2
theorem okS_15 {σ σ1 : Nat → Nat → Int32} {u : Nat → Int32} (e : σ1 = va_up σ 15 u) (h : okS σ) (hu : okC u) : okS σ1 := by
  subst e
  refine ⟨fun w2 h2 => ?_, ?_, ?_⟩
  · rw [va_up_ne _ _ (by omega : w2 ≠ 15)]; exact h.1 w2 h2
  · rw [va_up_self]; exact hu
  · rw [va_up_ne _ _ (by decide : 16 ≠ 15)]; exact h.2.2
theorem okS_up {σ σ1 : Nat → Nat → Int32} {w t : Nat} {x : Int32} (e : σ1 = va_up σ w (va_up (σ w) t x)) (h : okS σ) (hw : w < 15) (h1 : t ≠ 464) (h2 : t ≠ 465) : okS σ1 := okS_row e h hw (okW_up rfl (h.1 w hw) h1 h2)
theorem okS_up15 {σ σ1 : Nat → Nat → Int32} {t : Nat} {x : Int32} (e : σ1 = va_up σ 15 (va_up (σ 15) t x)) (h : okS σ) (h1 : t < 2 ∨ 5 < t) : okS σ1 := okS_15 e h (okC_up rfl h.2.1 h1)
theorem ms_s {a b n : Nat} (h : a < b) (h2 : b < n + 1) : a < n := by omega
theorem tab_out {x : Int32} (lo hi : Int) (h : ∀ k : Int, lo ≤ k → k ≤ hi → ¬ x.toInt = k) : x.toInt < lo ∨ hi < x.toInt := by
  by_cases h1 : x.toInt < lo
  · exact Or.inl h1
  · by_cases h2 : hi < x.toInt
    · exact Or.inr h2
    · exact absurd rfl (h x.toInt (by omega) (by omega))
/-- up by 1 below a bound -/
theorem t_inc {x B : Int32} (h : x < B) : (x + 1).toInt = x.toInt + 1 := by
  have h1 := Int32.lt_iff_toInt_lt.mp h
  have h2 := B.toInt_lt
  have h3 := x.le_toInt
  rw [Int32.toInt_add, show (1 : Int32).toInt = 1 from rfl, Int.bmod_def]
  split <;> omega
theorem t_dec {x : Int32} (h : 0 < x) : (x + (-1)).toInt = x.toInt - 1 := by
  have h1 := Int32.lt_iff_toInt_lt.mp h
  have h2 := x.toInt_lt
  rw [show (0 : Int32).toInt = 0 from rfl] at h1
  rw [Int32.toInt_add, show (-1 : Int32).toInt = -1 from rfl, Int.bmod_def]
  split <;> omega
theorem dec_up {x y B : Int32} (h : x < B) (e : y = x + 1) : (B.toInt - y.toInt).toNat < (B.toInt - x.toInt).toNat := by
  have h1 := Int32.lt_iff_toInt_lt.mp h
  rw [e, t_inc h]
  omega
theorem dec_upe {x y B : Int32} (h : ¬ B < x) (hB : B.toInt < 2147483647) (e : y = x + 1) : (B.toInt + 1 - y.toInt).toNat < (B.toInt + 1 - x.toInt).toNat := by
  have h1 : x.toInt ≤ B.toInt := by rw [Int32.lt_iff_toInt_lt] at h; omega
  have h3 := x.le_toInt
  have h4 : y.toInt = x.toInt + 1 := by
    rw [e, Int32.toInt_add, show (1 : Int32).toInt = 1 from rfl, Int.bmod_def]
    split <;> omega
  rw [h4]
  omega
theorem dec_dn {x y : Int32} (h : 0 < x) (e : y = x + (-1)) : y.toInt.toNat < x.toInt.toNat := by
  have h1 := Int32.lt_iff_toInt_lt.mp h
  rw [show (0 : Int32).toInt = 0 from rfl] at h1
  rw [e, t_dec h]
  omega
theorem nle_lt {x y : Int32} (h : ¬ y ≤ x) : x < y := by rw [Int32.le_iff_toInt_le] at h; rw [Int32.lt_iff_toInt_lt]; omega
theorem big_of {n : Nat} (h : n < 4294967300) : n < BIG := by unfold BIG; omega
theorem big_up (x B : Int32) : (B.toInt - x.toInt).toNat < BIG := by
  have h1 := B.toInt_lt; have h2 := x.le_toInt; have h3 := B.le_toInt; have h4 := x.toInt_lt
  unfold BIG; omega
theorem big_upe (x B : Int32) : (B.toInt + 1 - x.toInt).toNat < BIG := by
  have h1 := B.toInt_lt; have h2 := x.le_toInt; have h3 := B.le_toInt; have h4 := x.toInt_lt
  unfold BIG; omega
theorem big_dn (x : Int32) : x.toInt.toNat < BIG := by
  have h1 := x.toInt_lt; have h2 := x.le_toInt
  unfold BIG; omega
theorem inc_ge0 {x y B : Int32} (h : x < B) (h0 : 0 ≤ x) (e : y = x + 1) : 0 ≤ y := by
  rw [Int32.le_iff_toInt_le] at h0 ⊢
  rw [e, t_inc h]
  rw [show (0 : Int32).toInt = 0 from rfl] at h0 ⊢
  omega
theorem shr4_le (x : Int32) : (x >>> ((4 : Int32) &&& 31)).toInt < 2147483647 := by
  rw [pk_shr x ((4 : Int32) &&& 31) 4 (by decide), Int.shiftRight_eq_div_pow]
  have h1 := x.toInt_lt
  omega
theorem le0 : (0 : Int32) ≤ 0 := by decide

abbrev mMax (x y : Int32) : Int32 := if x < y then y else x
abbrev mMin (x y : Int32) : Int32 := if y < x then y else x
abbrev mAbs (x : Int32) : Int32 := if 0 ≤ x then x else 0 - x

theorem in_n {i n : Int32} {N : Nat} (h0 : 0 ≤ i) (h : i < n) (hn : n.toInt ≤ N) : vp_in i N := vp_in_iff.mpr ⟨by rw [Int32.le_iff_toInt_le] at h0; exact h0, by rw [Int32.lt_iff_toInt_lt] at h; omega⟩
theorem inc_in {x y : Int32} {N : Nat} (h : vp_in x N) (hN : N < 2147483648) (e : y = x + 1) : y.toInt = x.toInt + 1 := by
  have h1 := vp_in_iff.mp h
  rw [e, Int32.toInt_add, show (1 : Int32).toInt = 1 from rfl, Int.bmod_def]
  split <;> omega
theorem dec_i4 {x y : Int32} (h : vp_in x 4) (e : y = x + 1) : (4 - y.toInt).toNat < (4 - x.toInt).toNat := by
  have h1 := vp_in_iff.mp h
  rw [inc_in h (by decide) e]
  omega
theorem ge0_i4 {x y : Int32} (h : vp_in x 4) (e : y = x + 1) : 0 ≤ y := by
  have h1 := vp_in_iff.mp h
  rw [Int32.le_iff_toInt_le, inc_in h (by decide) e, show (0 : Int32).toInt = 0 from rfl]
  omega
theorem big_i4 (x : Int32) : (4 - x.toInt).toNat < BIG := by
  have h2 := x.le_toInt
  unfold BIG; omega
theorem in_kidx {a b : Int32} (h1 : ¬ a < 0) (h2 : a < 24) (h3 : ¬ b < 0) (h4 : b < 14) : vp_in (b * 24 + a) 336 := by
  rw [Int32.lt_iff_toInt_lt] at h1 h2 h3 h4
  rw [show (0 : Int32).toInt = 0 from rfl] at h1 h3
  rw [show (24 : Int32).toInt = 24 from rfl] at h2
  rw [show (14 : Int32).toInt = 14 from rfl] at h4
  rw [vp_in_iff, Int32.toInt_add, Int32.toInt_mul, show (24 : Int32).toInt = 24 from rfl]
  have e1 : (b.toInt * 24).bmod (2 ^ 32) = b.toInt * 24 := by rw [Int.bmod_def]; split <;> omega
  have e2 : (b.toInt * 24 + a.toInt).bmod (2 ^ 32) = b.toInt * 24 + a.toInt := by rw [Int.bmod_def]; split <;> omega
  rw [e1, e2]
  omega
theorem in_kidx2 {a b : Int32} (h1 : ¬ a < 0) (h2 : a < 24) (h3 : ¬ b < 0) (h4 : b < 14) : vp_in (24 * b + a) 480 := by
  rw [Int32.lt_iff_toInt_lt] at h1 h2 h3 h4
  rw [show (0 : Int32).toInt = 0 from rfl] at h1 h3
  rw [show (24 : Int32).toInt = 24 from rfl] at h2
  rw [show (14 : Int32).toInt = 14 from rfl] at h4
  rw [vp_in_iff, Int32.toInt_add, Int32.toInt_mul, show (24 : Int32).toInt = 24 from rfl]
  have e1 : (24 * b.toInt).bmod (2 ^ 32) = 24 * b.toInt := by rw [Int.bmod_def]; split <;> omega
  have e2 : (24 * b.toInt + a.toInt).bmod (2 ^ 32) = 24 * b.toInt + a.toInt := by rw [Int.bmod_def]; split <;> omega
  rw [e1, e2]
  omega

theorem dec_k {x y r : Int32} (h : ¬ r < x) (hr : r.toInt ≤ 134217727) (e : y = x + 1) : (134217728 - y.toInt).toNat < (134217728 - x.toInt).toNat := by
  have h1 : x.toInt ≤ r.toInt := by rw [Int32.lt_iff_toInt_lt] at h; omega
  have h3 := x.le_toInt
  have h4 : y.toInt = x.toInt + 1 := by
    rw [e, Int32.toInt_add, show (1 : Int32).toInt = 1 from rfl, Int.bmod_def]
    split <;> omega
  rw [h4]
  omega
theorem big_k (x : Int32) : (134217728 - x.toInt).toNat < BIG := by
  have h2 := x.le_toInt
  unfold BIG; omega
theorem of_ix {a b : Int32} (ha : vp_in a 4) (hb : vp_in b 24) : ((336 + (24 * a)) + b).toNatClampNeg = 336 + 24 * a.toNatClampNeg + b.toNatClampNeg := by
  obtain ⟨i, hi, rfl⟩ := vp_in_of ha (by decide)
  obtain ⟨j, hj, rfl⟩ := vp_in_of hb (by decide)
  rw [show (24 : Int32) = nI 24 from rfl, show (336 : Int32) = nI 336 from rfl, pk_mul, nI_add, nI_add, nI_clamp (by omega), nI_clamp (by omega), nI_clamp (by omega)]
theorem in_of {a b : Int32} (ha : vp_in a 4) (hb : vp_in b 24) : vp_in ((336 + (24 * a)) + b) 480 := by
  obtain ⟨i, hi, rfl⟩ := vp_in_of ha (by decide)
  obtain ⟨j, hj, rfl⟩ := vp_in_of hb (by decide)
  rw [show (24 : Int32) = nI 24 from rfl, show (336 : Int32) = nI 336 from rfl, pk_mul, nI_add, nI_add]
  exact vp_in_nI (by omega) (by decide)
theorem pl_ix {a b : Int32} (ha : vp_in a 4) (hb : vp_in b 8) : ((432 + (8 * a)) + b).toNatClampNeg = 432 + 8 * a.toNatClampNeg + b.toNatClampNeg := by
  obtain ⟨i, hi, rfl⟩ := vp_in_of ha (by decide)
  obtain ⟨j, hj, rfl⟩ := vp_in_of hb (by decide)
  rw [show (8 : Int32) = nI 8 from rfl, show (432 : Int32) = nI 432 from rfl, pk_mul, nI_add, nI_add, nI_clamp (by omega), nI_clamp (by omega), nI_clamp (by omega)]
theorem in_pl {a b : Int32} (ha : vp_in a 4) (hb : vp_in b 8) : vp_in ((432 + (8 * a)) + b) 480 := by
  obtain ⟨i, hi, rfl⟩ := vp_in_of ha (by decide)
  obtain ⟨j, hj, rfl⟩ := vp_in_of hb (by decide)
  rw [show (8 : Int32) = nI 8 from rfl, show (432 : Int32) = nI 432 from rfl, pk_mul, nI_add, nI_add]
  exact vp_in_nI (by omega) (by decide)
theorem in_le {i n : Int32} {N : Nat} (h0 : 0 ≤ i) (h : ¬ n < i) (hn : n.toInt < N) : vp_in i N := vp_in_iff.mpr ⟨by rw [Int32.le_iff_toInt_le] at h0; exact h0, by rw [Int32.lt_iff_toInt_lt] at h; omega⟩
theorem ge0_in {x y : Int32} {N : Nat} (h : vp_in x N) (hN : N < 2147483648) (e : y = x + 1) : 0 ≤ y := by
  have h1 := vp_in_iff.mp h
  rw [Int32.le_iff_toInt_le, inc_in h hN e, show (0 : Int32).toInt = 0 from rfl]
  omega

def f6_isWithin (a : Int32) (b : Int32) (c1 : Int32) : Int32 :=
  if a < b then (0) else (if c1 < a then (0) else (1))
def f6_isTile (a : Int32) (b : Int32) : Int32 :=
  bnd (f6_isWithin a 0 23) fun r4 => if r4 = 0 then (0) else (bnd (f6_isWithin b 0 13) fun r14 => if r14 = 0 then (0) else (1))
theorem isWithin_cases (x lo hi : Int32) : (f6_isWithin x lo hi = 0 ∧ (x < lo ∨ hi < x)) ∨ (f6_isWithin x lo hi = 1 ∧ ¬ x < lo ∧ ¬ hi < x) := by
  unfold f6_isWithin
  by_cases h1 : x < lo
  · exact Or.inl ⟨if_pos h1, Or.inl h1⟩
  · by_cases h2 : hi < x
    · exact Or.inl ⟨by rw [if_neg h1, if_pos h2], Or.inr h2⟩
    · exact Or.inr ⟨by rw [if_neg h1, if_neg h2], h1, h2⟩
theorem nlt_lt {x : Int32} {k k1 : Int32} (h : ¬ k < x) (hk : k1.toInt = k.toInt + 1) : x < k1 := by
  rw [Int32.lt_iff_toInt_lt] at h ⊢
  omega
theorem isTile_cases (a b : Int32) : (f6_isTile a b = 0 ∧ (a < 0 ∨ 23 < a ∨ b < 0 ∨ 13 < b)) ∨ (f6_isTile a b = 1 ∧ ¬ a < 0 ∧ ¬ 23 < a ∧ ¬ b < 0 ∧ ¬ 13 < b) := by
  unfold f6_isTile bnd
  rcases isWithin_cases a 0 23 with ⟨h1, h2⟩ | ⟨h1, h2, h3⟩
  · refine Or.inl ⟨by rw [h1]; rfl, ?_⟩
    rcases h2 with h | h
    · exact Or.inl h
    · exact Or.inr (Or.inl h)
  · rw [h1]
    rcases isWithin_cases b 0 13 with ⟨h4, h5⟩ | ⟨h4, h5, h6⟩
    · refine Or.inl ⟨by rw [h4]; rfl, ?_⟩
      rcases h5 with h | h
      · exact Or.inr (Or.inr (Or.inl h))
      · exact Or.inr (Or.inr (Or.inr h))
    · exact Or.inr ⟨by rw [h4]; rfl, h2, h3, h5, h6⟩
theorem in_tile {a b r : Int32} (e : r = f6_isTile a b) (h : ¬ r = 0) : vp_in (b * 24 + a) 336 := by
  rcases isTile_cases a b with ⟨h1, -⟩ | ⟨-, h2, h3, h4, h5⟩
  · exact absurd (e.trans h1) h
  · exact in_kidx h2 (nlt_lt h3 rfl) h4 (nlt_lt h5 rfl)
def f6_isFirm (a : Int32) : Int32 :=
  if a = 1 then (1) else (if a < 5 then (0) else (if 8 < a then (0) else (1)))
def f6_isSlope (a : Int32) : Int32 :=
  if a = 3 then (1) else (if a = 4 then (1) else (0))
def f4_isIgnored (a : Int32) (b : Int32) (c1 : Int32) : Int32 :=
  if b = c1 then (if a < 0 then (0) else (if 24 ≤ a then (0) else (1))) else (0)
def f0_footAt (u : (Nat → Int32)) (i : Nat) (a : Int32) : Int32 :=
  (a + ((u (336+24*i+7)) / 2))
def f0_number (u : (Nat → Int32)) (i : Nat) (a : Int32) : Int32 :=
  if a = 0 then (u (336+24*i+0)) else (if a = 1 then (u (336+24*i+1)) else (if a = 2 then (u (336+24*i+2)) else (if a = 3 then (u (336+24*i+3)) else (if a = 4 then (u (336+24*i+4)) else (if a = 5 then (u (336+24*i+5)) else (if a = 6 then (u (336+24*i+6)) else (if a = 7 then (u (336+24*i+7)) else (if a = 8 then (u (336+24*i+8)) else (u (336+24*i+9))))))))))
def f0_covers (u : (Nat → Int32)) (i : Nat) (a : Int32) (b : Int32) : Int32 :=
  bnd (f6_isWithin a (u (336+24*i+0)) (((u (336+24*i+0)) + (u (336+24*i+7))) - 1)) fun r16 => if r16 = 0 then (0) else (bnd (f6_isWithin b (u (336+24*i+1)) (((u (336+24*i+1)) + (u (336+24*i+8))) - 1)) fun r38 => if r38 = 0 then (0) else (1))
def f0_holds (u : (Nat → Int32)) (i : Nat) (a : Int32) : Int32 :=
  if ((u (336+24*i+9)) &&& a) = 0 then (0) else (1)
def f0_direction_b13 (u : (Nat → Int32)) (i : Nat) (t0_13 : Int32) : Int32 :=
  bnd (f0_holds u i 1) fun r15 => if r15 = 0 then ((t0_13 - 0)) else ((t0_13 - 1))
def f0_direction (u : (Nat → Int32)) (i : Nat) : Int32 :=
  bnd (f0_holds u i 2) fun r2 => if r2 = 0 then (f0_direction_b13 u i 0) else (f0_direction_b13 u i 1)
def f0_lastColumnAt (u : (Nat → Int32)) (i : Nat) (a : Int32) : Int32 :=
  (((a + (u (336+24*i+7))) - 1) >>> (4 &&& 31))
def f0_lastRowAt (u : (Nat → Int32)) (i : Nat) (a : Int32) : Int32 :=
  (((a + (u (336+24*i+8))) - 1) >>> (4 &&& 31))
def f0_calmDown (u : (Nat → Int32)) (i : Nat) : (Nat → Int32) :=
  bnd (va_up u (336+24*i+2) 0) fun u2 => bnd (va_up u2 (336+24*i+3) 0) fun u7 => bnd (va_up u7 (336+24*i+4) 0) fun u12 => bnd (va_up u12 (336+24*i+5) 0) fun u17 => bnd (va_up u17 (336+24*i+6) 0) fun u22 => bnd (va_up u22 (336+24*i+11) 0) fun u27 => u27
def f0_leap (u : (Nat → Int32)) (i : Nat) (a : Int32) : (Nat → Int32) :=
  bnd (va_up u (336+24*i+3) a) fun u2 => bnd (va_up u2 (336+24*i+5) 0) fun u7 => bnd (va_up u7 (336+24*i+11) 1) fun u12 => bnd (va_up u12 (336+24*i+16) ((u12 (336+24*i+16)) + 1)) fun u24 => u24
def f0_die (u : (Nat → Int32)) (i : Nat) : (Nat → Int32) :=
  bnd (va_up u (336+24*i+0) (u (336+24*i+12))) fun u5 => bnd (va_up u5 (336+24*i+1) (u5 (336+24*i+13))) fun u13 => bnd (f0_calmDown u13 i) fun u17 => bnd (va_up u17 (336+24*i+15) ((u17 (336+24*i+15)) + 1)) fun u29 => u29
def f0_endTick_b44 (i : Nat) (u_44 : (Nat → Int32)) : (Nat → Int32) :=
  bnd (va_up u_44 (336+24*i+21) ((u_44 (336+24*i+21)) + 1)) fun u51 => bnd (va_up u51 (336+24*i+10) (u51 (336+24*i+9))) fun u59 => u59
def f0_endTick_b33 (i : Nat) (u_12 : (Nat → Int32)) : (Nat → Int32) :=
  bnd (va_up u_12 (336+24*i+20) (u_12 (336+24*i+1))) fun u43 => f0_endTick_b44 i u43
def f0_endTick_b12 (i : Nat) (u_12 : (Nat → Int32)) : (Nat → Int32) :=
  if (u_12 (336+24*i+21)) = 0 then (f0_endTick_b33 i u_12) else (if (u_12 (336+24*i+1)) ≤ (u_12 (336+24*i+20)) then (f0_endTick_b44 i u_12) else (f0_endTick_b33 i u_12))
def f0_endTick (u : (Nat → Int32)) (i : Nat) : (Nat → Int32) :=
  if 0 < (u (336+24*i+3)) then (f0_endTick_b12 i u) else (bnd (va_up u (336+24*i+11) 0) fun u9 => f0_endTick_b12 i u9)
def f0_begin_L53 (i : Nat) (b : Int32) (n53 : Nat) (w5_53 : Int32) (u_53 : (Nat → Int32)) : (Nat → Int32) := match n53 with
  | 0 => fun _ => 0
  | n53 + 1 => if 7 ≤ w5_53 then (bnd (va_up u_53 (336+24*i+20) b) fun u81 => u81) else (bnd (va_up u_53 (336+24*i+14+w5_53.toNatClampNeg) 0) fun u67 => bnd (w5_53 + 1) fun v5_68 => (f0_begin_L53 i b n53) v5_68 u67)
def f0_begin (u : (Nat → Int32)) (i : Nat) (a : Int32) (b : Int32) (c1 : Int32) (d : Int32) : (Nat → Int32) :=
  bnd (va_up u (336+24*i+0) a) fun u2 => bnd (va_up u2 (336+24*i+1) b) fun u7 => bnd (va_up u7 (336+24*i+12) a) fun u12 => bnd (va_up u12 (336+24*i+13) b) fun u17 => bnd (va_up u17 (336+24*i+7) c1) fun u22 => bnd (va_up u22 (336+24*i+8) d) fun u28 => bnd (va_up u28 (336+24*i+9) 0) fun u33 => bnd (va_up u33 (336+24*i+10) 0) fun u38 => bnd (va_up u38 (336+24*i+21) 0) fun u43 => bnd (f0_calmDown u43 i) fun u47 => f0_begin_L53 i b BIG 0 u47
def f2_number (u : (Nat → Int32)) (i : Nat) (a : Int32) : Int32 :=
  if a = 0 then (u (432+8*i+0)) else (if a = 1 then (u (432+8*i+1)) else (if a = 2 then (u (432+8*i+2)) else (if a = 3 then (u (432+8*i+3)) else (if a = 4 then (u (432+8*i+4)) else (u (432+8*i+5))))))
def f2_isTopOf (u : (Nat → Int32)) (i : Nat) (a : Int32) (b : Int32) : Int32 :=
  if ((u (432+8*i+1)) - 1) = b then (bnd (f6_isWithin a (u (432+8*i+0)) (((u (432+8*i+0)) + (u (432+8*i+2))) - 1)) fun r26 => if r26 = 0 then (0) else (1)) else (0)
def f2_isUnder (u : (Nat → Int32)) (i : Nat) (j : Nat) (a : Int32) (b : Int32) : Int32 :=
  if (u (432+8*i+1)) = b then (if ((u (432+8*i+0)) + (u (432+8*i+2))) ≤ a then (0) else (if (a + (u (336+24*j+7))) ≤ (u (432+8*i+0)) then (0) else (1))) else (0)
def f2_begin (u : (Nat → Int32)) (i : Nat) (a : Int32) (b : Int32) (c1 : Int32) (d : Int32) (e1 : Int32) (f1 : Int32) : (Nat → Int32) :=
  bnd (va_up u (432+8*i+0) a) fun u2 => bnd (va_up u2 (432+8*i+1) b) fun u7 => bnd (va_up u7 (432+8*i+2) c1) fun u12 => bnd (va_up u12 (432+8*i+3) d) fun u18 => bnd (va_up u18 (432+8*i+4) e1) fun u24 => bnd (va_up u24 (432+8*i+6) f1) fun u30 => bnd (va_up u30 (432+8*i+5) f1) fun u36 => u36
def f2_move (u : (Nat → Int32)) (i : Nat) : (Nat → Int32) :=
  bnd (va_up u (432+8*i+0) ((u (432+8*i+0)) + (u (432+8*i+3)))) fun u10 => bnd (va_up u10 (432+8*i+1) ((u10 (432+8*i+1)) + (u10 (432+8*i+4)))) fun u23 => bnd (va_up u23 (432+8*i+5) ((u23 (432+8*i+5)) - 1)) fun u33 => if 0 < (u33 (432+8*i+5)) then (u33) else (bnd (va_up u33 (432+8*i+3) (-(u33 (432+8*i+3)))) fun u49 => bnd (va_up u49 (432+8*i+4) (-(u49 (432+8*i+4)))) fun u58 => bnd (va_up u58 (432+8*i+5) (u58 (432+8*i+6))) fun u66 => u66)
def f4_kindAt (u : (Nat → Int32)) (a : Int32) (b : Int32) : Int32 :=
  if a < 0 then (1) else (if a < 24 then (if b < 0 then (0) else (if b < 14 then (u (((b * 24) + a).toNatClampNeg)) else (0))) else (1))
def f4_surfaceAt (u : (Nat → Int32)) (a : Int32) (b : Int32) : Int32 :=
  bnd ((b >>> (4 &&& 31))) fun v3_3 => bnd (f4_kindAt u (a >>> (4 &&& 31)) v3_3) fun r9 => if r9 = 3 then ((((16 * v3_3) + (a - a / 16 * 16)) + 1)) else (if r9 = 4 then ((((16 * v3_3) + 16) - (a - a / 16 * 16))) else ((-1000000)))
def f4_isFree (u : (Nat → Int32)) (a : Int32) (b : Int32) : Int32 :=
  bnd (f4_kindAt u (a >>> (4 &&& 31)) (b >>> (4 &&& 31))) fun r7 => bnd (f6_isFirm r7) fun r10 => if r10 = 0 then (bnd (f4_surfaceAt u a b) fun r20 => if b < r20 then (0) else (1)) else (0)
def f4_block_b97 (k62 : Int32 → Int32) (w9_62 : Int32) : Int32 :=
  bnd (w9_62 + 1) fun v9_97 => k62 v9_97
def f4_block_L62 (k51 : Int32 → Int32) (u : (Nat → Int32)) (r9 : Int32) (t0_44 : Int32) (w8_51 : Int32) (n62 : Nat) (w9_62 : Int32) : Int32 := match n62 with
  | 0 => 0
  | n62 + 1 => if r9 < w9_62 then (bnd (w8_51 + 1) fun v8_103 => k51 v8_103) else (bnd (f4_kindAt u w8_51 w9_62) fun r74 => bnd (f6_isFirm r74) fun r77 => if r77 = 0 then (f4_block_b97 (f4_block_L62 k51 u r9 t0_44 w8_51 n62) w9_62) else (bnd (f4_isIgnored w8_51 w9_62 t0_44) fun r89 => if r89 = 0 then (1) else (f4_block_b97 (f4_block_L62 k51 u r9 t0_44 w8_51 n62) w9_62)))
def f4_block_L51 (u : (Nat → Int32)) (r2 : Int32) (r9 : Int32) (v6_17 : Int32) (t0_44 : Int32) (n51 : Nat) (w8_51 : Int32) : Int32 := match n51 with
  | 0 => 0
  | n51 + 1 => if r2 < w8_51 then (0) else (f4_block_L62 (f4_block_L51 u r2 r9 v6_17 t0_44 n51) u r9 t0_44 w8_51 BIG v6_17)
def f4_block_b44 (u : (Nat → Int32)) (a : Int32) (r2 : Int32) (r9 : Int32) (v6_17 : Int32) (t0_44 : Int32) : Int32 :=
  bnd ((a >>> (4 &&& 31))) fun v8_49 => f4_block_L51 u r2 r9 v6_17 t0_44 BIG v8_49
def f4_block (u : (Nat → Int32)) (i : Nat) (a : Int32) (b : Int32) : Int32 :=
  bnd (f0_lastColumnAt u i a) fun r2 => bnd (f0_lastRowAt u i b) fun r9 => bnd ((b >>> (4 &&& 31))) fun v6_17 => bnd (f0_footAt u i a) fun r22 => bnd (f4_kindAt u (r22 >>> (4 &&& 31)) v6_17) fun r29 => bnd (f6_isSlope r29) fun r32 => if r32 = 0 then (f4_block_b44 u a r2 r9 v6_17 (-1)) else (f4_block_b44 u a r2 r9 v6_17 v6_17)
def f4_firmKindsBelow_b100 (k54 : Int32 → Int32 → Int32) (w9_54 : Int32) (w8_100 : Int32) : Int32 :=
  bnd (w9_54 + 1) fun v9_100 => k54 v9_100 w8_100
def f4_firmKindsBelow_L54 (u : (Nat → Int32)) (r2 : Int32) (v5_12 : Int32) (t0_44 : Int32) (n54 : Nat) (w9_54 : Int32) (w8_54 : Int32) : Int32 := match n54 with
  | 0 => 0
  | n54 + 1 => if r2 < w9_54 then (w8_54) else (bnd (f4_kindAt u w9_54 v5_12) fun r66 => bnd (f6_isFirm r66) fun r73 => if r73 = 0 then (f4_firmKindsBelow_b100 (f4_firmKindsBelow_L54 u r2 v5_12 t0_44 n54) w9_54 w8_54) else (bnd (f4_isIgnored w9_54 v5_12 t0_44) fun r85 => if r85 = 0 then (bnd ((w8_54 ||| (1 <<< (r66 &&& 31)))) fun v8_98 => f4_firmKindsBelow_b100 (f4_firmKindsBelow_L54 u r2 v5_12 t0_44 n54) w9_54 v8_98) else (f4_firmKindsBelow_b100 (f4_firmKindsBelow_L54 u r2 v5_12 t0_44 n54) w9_54 w8_54)))
def f4_firmKindsBelow_b44 (u : (Nat → Int32)) (a : Int32) (r2 : Int32) (v5_12 : Int32) (t0_44 : Int32) : Int32 :=
  bnd ((a >>> (4 &&& 31))) fun v9_52 => f4_firmKindsBelow_L54 u r2 v5_12 t0_44 BIG v9_52 0
def f4_firmKindsBelow (u : (Nat → Int32)) (i : Nat) (a : Int32) (b : Int32) : Int32 :=
  bnd (f0_lastColumnAt u i a) fun r2 => bnd (((b - 1) >>> (4 &&& 31))) fun v5_12 => bnd ((b >>> (4 &&& 31))) fun v6_17 => bnd (f0_footAt u i a) fun r22 => bnd (f4_kindAt u (r22 >>> (4 &&& 31)) v6_17) fun r29 => bnd (f6_isSlope r29) fun r32 => if r32 = 0 then (f4_firmKindsBelow_b44 u a r2 v5_12 (-1)) else (f4_firmKindsBelow_b44 u a r2 v5_12 v6_17)
def f4_haveFloorBelow_L21 (u : (Nat → Int32)) (b : Int32) (r11 : Int32) (n21 : Nat) (w5_21 : Int32) : Int32 := match n21 with
  | 0 => 0
  | n21 + 1 => if r11 < w5_21 then (0) else (bnd (f4_kindAt u w5_21 ((b - 1) >>> (4 &&& 31))) fun r36 => if r36 = 2 then (1) else (bnd (w5_21 + 1) fun v5_45 => (f4_haveFloorBelow_L21 u b r11 n21) v5_45))
def f4_haveFloorBelow (u : (Nat → Int32)) (i : Nat) (a : Int32) (b : Int32) : Int32 :=
  if (b - b / 16 * 16) = 0 then (bnd (f0_lastColumnAt u i a) fun r11 => bnd ((a >>> (4 &&& 31))) fun v5_19 => f4_haveFloorBelow_L21 u b r11 BIG v5_19) else (0)
def f4_touch_L41 (k27 : Int32 → Int32) (u : (Nat → Int32)) (a : Int32) (r14 : Int32) (w5_27 : Int32) (n41 : Nat) (w6_41 : Int32) : Int32 := match n41 with
  | 0 => 0
  | n41 + 1 => if r14 < w6_41 then (bnd (w5_27 + 1) fun v5_68 => k27 v5_68) else (bnd (f4_kindAt u w5_27 w6_41) fun r53 => if r53 = a then (1) else (bnd (w6_41 + 1) fun v6_62 => (f4_touch_L41 k27 u a r14 w5_27 n41) v6_62))
def f4_touch_L27 (u : (Nat → Int32)) (i : Nat) (a : Int32) (r5 : Int32) (r14 : Int32) (n27 : Nat) (w5_27 : Int32) : Int32 := match n27 with
  | 0 => 0
  | n27 + 1 => if r5 < w5_27 then (0) else (bnd (((u (336+24*i+1)) >>> (4 &&& 31))) fun v6_39 => f4_touch_L41 (f4_touch_L27 u i a r5 r14 n27) u a r14 w5_27 BIG v6_39)
def f4_touch (u : (Nat → Int32)) (i : Nat) (a : Int32) : Int32 :=
  bnd (f0_lastColumnAt u i (u (336+24*i+0))) fun r5 => bnd (f0_lastRowAt u i (u (336+24*i+1))) fun r14 => bnd (((u (336+24*i+0)) >>> (4 &&& 31))) fun v5_25 => f4_touch_L27 u i a r5 r14 BIG v5_25
def f4_put (u : (Nat → Int32)) (a : Int32) (b : Int32) (c1 : Int32) : (Nat → Int32) :=
  bnd (f6_isTile a b) fun r2 => if r2 = 0 then (u) else (bnd (va_up u (((b * 24) + a).toNatClampNeg) c1) fun u19 => u19)
def f4_giveCoins_b75 (k43 : Int32 → Int32 → (Nat → Int32) → Int32 × (Nat → Int32)) (w6_43 : Int32) (w2_75 : Int32) (u_75 : (Nat → Int32)) : Int32 × (Nat → Int32) :=
  bnd (w6_43 + 1) fun v6_75 => k43 v6_75 w2_75 u_75
def f4_giveCoins_L43 (k29 : Int32 → Int32 → (Nat → Int32) → Int32 × (Nat → Int32)) (r16 : Int32) (w5_29 : Int32) (n43 : Nat) (w6_43 : Int32) (w2_43 : Int32) (u_43 : (Nat → Int32)) : Int32 × (Nat → Int32) := match n43 with
  | 0 => (0, fun _ => 0)
  | n43 + 1 => if r16 < w6_43 then (bnd (w5_29 + 1) fun v5_81 => k29 v5_81 w2_43 u_43) else (bnd (f4_kindAt u_43 w5_29 w6_43) fun r55 => if r55 = 10 then (bnd (f4_put u_43 w5_29 w6_43 0) fun u69 => bnd (w2_43 + 1) fun v2_72 => f4_giveCoins_b75 (f4_giveCoins_L43 k29 r16 w5_29 n43) w6_43 v2_72 u69) else (f4_giveCoins_b75 (f4_giveCoins_L43 k29 r16 w5_29 n43) w6_43 w2_43 u_43))
def f4_giveCoins_L29 (i : Nat) (r7 : Int32) (r16 : Int32) (n29 : Nat) (w5_29 : Int32) (w2_29 : Int32) (u_29 : (Nat → Int32)) : Int32 × (Nat → Int32) := match n29 with
  | 0 => (0, fun _ => 0)
  | n29 + 1 => if r7 < w5_29 then ((w2_29, u_29)) else (bnd (((u_29 (336+24*i+1)) >>> (4 &&& 31))) fun v6_41 => f4_giveCoins_L43 (f4_giveCoins_L29 i r7 r16 n29) r16 w5_29 BIG v6_41 w2_29 u_29)
def f4_giveCoins (u : (Nat → Int32)) (i : Nat) : Int32 × (Nat → Int32) :=
  bnd (f0_lastColumnAt u i (u (336+24*i+0))) fun r7 => bnd (f0_lastRowAt u i (u (336+24*i+1))) fun r16 => bnd (((u (336+24*i+0)) >>> (4 &&& 31))) fun v5_27 => f4_giveCoins_L29 i r7 r16 BIG v5_27 0 u
def f4_countOf_b24 (k4 : Int32 → Int32 → Int32) (w3_4 : Int32) (w2_24 : Int32) : Int32 :=
  bnd (w3_4 + 1) fun v3_24 => k4 v3_24 w2_24
def f4_countOf_L4 (u : (Nat → Int32)) (a : Int32) (n4 : Nat) (w3_4 : Int32) (w2_4 : Int32) : Int32 := match n4 with
  | 0 => 0
  | n4 + 1 => if 336 ≤ w3_4 then (w2_4) else (if (u w3_4.toNatClampNeg) = a then (bnd (w2_4 + 1) fun v2_21 => f4_countOf_b24 (f4_countOf_L4 u a n4) w3_4 v2_21) else (f4_countOf_b24 (f4_countOf_L4 u a n4) w3_4 w2_4))
def f4_countOf (u : (Nat → Int32)) (a : Int32) : Int32 :=
  f4_countOf_L4 u a BIG 0 0
def f5_nearerToZero (a : Int32) : Int32 :=
  if a ≤ 0 then (mMin 0 (a + 2)) else (mMax 0 (a - 2))
def f5_platformUnder_b38 (k3 : Int32 → Int32) (w5_3 : Int32) : Int32 :=
  bnd (w5_3 + 1) fun v5_38 => k3 v5_38
def f5_platformUnder_L3 (u : (Nat → Int32)) (i : Nat) (a : Int32) (b : Int32) (c1 : Int32) (n3 : Nat) (w5_3 : Int32) : Int32 := match n3 with
  | 0 => 0
  | n3 + 1 => if (u 465) ≤ w5_3 then ((-1)) else (if w5_3 = c1 then (f5_platformUnder_b38 (f5_platformUnder_L3 u i a b c1 n3) w5_3) else (bnd (f2_isUnder u w5_3.toNatClampNeg i a b) fun r29 => if r29 = 0 then (f5_platformUnder_b38 (f5_platformUnder_L3 u i a b c1 n3) w5_3) else (w5_3)))
def f5_platformUnder (u : (Nat → Int32)) (i : Nat) (a : Int32) (b : Int32) (c1 : Int32) : Int32 :=
  f5_platformUnder_L3 u i a b c1 BIG 0
def f5_supportAt_b76 (u : (Nat → Int32)) (i : Nat) (a : Int32) (b : Int32) (c1 : Int32) (w5_76 : Int32) : Int32 :=
  bnd (f5_platformUnder u i a b c1) fun r82 => if r82 = (-1) then (w5_76) else (bnd ((w5_76 ||| 8)) fun v5_94 => v5_94)
def f5_supportAt_b47 (u : (Nat → Int32)) (i : Nat) (a : Int32) (b : Int32) (c1 : Int32) (w5_47 : Int32) : Int32 :=
  if (u (336+24*i+6)) ≤ 0 then (bnd (f4_haveFloorBelow u i a b) fun r64 => if r64 = 0 then (f5_supportAt_b76 u i a b c1 w5_47) else (bnd ((w5_47 ||| 2)) fun v5_74 => f5_supportAt_b76 u i a b c1 v5_74)) else (w5_47)
def f5_supportAt_b22 (u : (Nat → Int32)) (i : Nat) (a : Int32) (b : Int32) (c1 : Int32) (w5_22 : Int32) : Int32 :=
  bnd (f0_footAt u i a) fun r28 => bnd (f4_surfaceAt u r28 (b - 1)) fun r34 => if r34 = b then (bnd ((w5_22 ||| 4)) fun v5_45 => f5_supportAt_b47 u i a b c1 v5_45) else (f5_supportAt_b47 u i a b c1 w5_22)
def f5_supportAt (u : (Nat → Int32)) (i : Nat) (a : Int32) (b : Int32) (c1 : Int32) : Int32 :=
  bnd (f4_firmKindsBelow u i a b) fun r10 => if r10 = 0 then (f5_supportAt_b22 u i a b c1 0) else (bnd ((0 ||| 1)) fun v5_20 => f5_supportAt_b22 u i a b c1 v5_20)
def f5_isStanding (u : (Nat → Int32)) (i : Nat) : Int32 :=
  if 0 < (u (336+24*i+3)) then (0) else (bnd (f5_supportAt u i (u (336+24*i+0)) (u (336+24*i+1)) (-1)) fun r18 => if r18 = 0 then (0) else (1))
def f5_hasBlockedBody_L2 (u : (Nat → Int32)) (n2 : Nat) (w1_2 : Int32) : Int32 := match n2 with
  | 0 => 0
  | n2 + 1 => if (u 464) ≤ w1_2 then (0) else (bnd (f4_block u w1_2.toNatClampNeg (u (336+24*w1_2.toNatClampNeg+0)) (u (336+24*w1_2.toNatClampNeg+1))) fun r38 => if r38 = 0 then (bnd (w1_2 + 1) fun v1_46 => (f5_hasBlockedBody_L2 u n2) v1_46) else (1))
def f5_hasBlockedBody (u : (Nat → Int32)) : Int32 :=
  f5_hasBlockedBody_L2 u BIG 0
def f5_stepSideways_b119 (u : (Nat → Int32)) (i : Nat) (v3_6 : Int32) (w4_119 : Int32) : Int32 × (Nat → Int32) :=
  bnd (va_up u (336+24*i+0) v3_6) fun u121 => bnd (va_up u121 (336+24*i+1) w4_119) fun u127 => (1, u127)
def f5_stepSideways_b57 (u : (Nat → Int32)) (i : Nat) (v3_6 : Int32) (w4_57 : Int32) : Int32 × (Nat → Int32) :=
  bnd (f4_block u i v3_6 w4_57) fun r65 => if r65 = 0 then (bnd (f5_supportAt u i v3_6 w4_57 (-1)) fun r79 => if r79 = 0 then (bnd (f5_supportAt u i (u (336+24*i+0)) (u (336+24*i+1)) (-1)) fun r96 => if r96 = 0 then (f5_stepSideways_b119 u i v3_6 w4_57) else (bnd (f5_supportAt u i v3_6 (w4_57 - 1) (-1)) fun r110 => if r110 = 0 then (f5_stepSideways_b119 u i v3_6 w4_57) else (bnd (w4_57 + (-1)) fun v4_116 => f5_stepSideways_b119 u i v3_6 v4_116))) else (f5_stepSideways_b119 u i v3_6 w4_57)) else ((0, u))
def f5_stepSideways (u : (Nat → Int32)) (i : Nat) (a : Int32) : Int32 × (Nat → Int32) :=
  bnd (((u (336+24*i+0)) + a)) fun v3_6 => bnd (u (336+24*i+1)) fun v4_11 => bnd (f0_footAt u i v3_6) fun r19 => bnd (f4_surfaceAt u r19 v4_11) fun r24 => if r24 ≤ ((u (336+24*i+1)) + 1) then (if r24 = ((u (336+24*i+1)) + 1) then (f5_stepSideways_b57 u i v3_6 r24) else (f5_stepSideways_b57 u i v3_6 v4_11)) else ((0, u))
def f5_stepUp (u : (Nat → Int32)) (i : Nat) : Int32 × (Nat → Int32) :=
  bnd (f4_block u i (u (336+24*i+0)) ((u (336+24*i+1)) + 1)) fun r15 => if r15 = 0 then (bnd (va_up u (336+24*i+1) ((u (336+24*i+1)) + 1)) fun u30 => (1, u30)) else ((0, u))
def f5_stepDown (u : (Nat → Int32)) (i : Nat) (a : Int32) : Int32 × (Nat → Int32) :=
  bnd (f5_supportAt u i (u (336+24*i+0)) (u (336+24*i+1)) a) fun r11 => if r11 = 0 then (bnd (va_up u (336+24*i+1) ((u (336+24*i+1)) - 1)) fun u26 => (1, u26)) else ((0, u))
def f5_noteCarriers_b64 (k2 : Int32 → (Nat → Int32) → (Nat → Int32)) (w1_2 : Int32) (u_2 : (Nat → Int32)) (t0_64 : Int32) : (Nat → Int32) :=
  bnd (va_up u_2 (470+w1_2.toNatClampNeg) t0_64) fun u64 => bnd (w1_2 + 1) fun v1_65 => k2 v1_65 u64
def f5_noteCarriers_b36 (k2 : Int32 → (Nat → Int32) → (Nat → Int32)) (w1_2 : Int32) (u_2 : (Nat → Int32)) (t0_36 : Int32) : (Nat → Int32) :=
  if t0_36 = 0 then (f5_noteCarriers_b64 k2 w1_2 u_2 (-1)) else (bnd (f5_platformUnder u_2 w1_2.toNatClampNeg (u_2 (336+24*w1_2.toNatClampNeg+0)) (u_2 (336+24*w1_2.toNatClampNeg+1)) (-1)) fun r57 => f5_noteCarriers_b64 k2 w1_2 u_2 r57)
def f5_noteCarriers_b35 (k2 : Int32 → (Nat → Int32) → (Nat → Int32)) (w1_2 : Int32) (u_2 : (Nat → Int32)) : (Nat → Int32) :=
  f5_noteCarriers_b36 k2 w1_2 u_2 0
def f5_noteCarriers_L2  (n2 : Nat) (w1_2 : Int32) (u_2 : (Nat → Int32)) : (Nat → Int32) := match n2 with
  | 0 => fun _ => 0
  | n2 + 1 => if (u_2 464) ≤ w1_2 then (u_2) else (if 0 < (u_2 (336+24*w1_2.toNatClampNeg+3)) then (f5_noteCarriers_b35 (f5_noteCarriers_L2 n2) w1_2 u_2) else (if (u_2 (336+24*w1_2.toNatClampNeg+6)) = 0 then (f5_noteCarriers_b36 (f5_noteCarriers_L2 n2) w1_2 u_2 1) else (f5_noteCarriers_b35 (f5_noteCarriers_L2 n2) w1_2 u_2)))
def f5_noteCarriers (u : (Nat → Int32)) : (Nat → Int32) :=
  f5_noteCarriers_L2 BIG 0 u
def f5_carry_L83 (i : Nat) (a : Int32) (n83 : Nat) (w7_83 : Int32) (u_83 : (Nat → Int32)) : (Nat → Int32) := match n83 with
  | 0 => fun _ => 0
  | n83 + 1 => if w7_83 ≤ 0 then (u_83) else (bnd2 (f5_stepDown u_83 i a) fun r91 u91 => if r91 = 0 then (u91) else (bnd (w7_83 + (-1)) fun v7_97 => (f5_carry_L83 i a n83) v7_97 u91))
def f5_carry_b76 (i : Nat) (a : Int32) (u_76 : (Nat → Int32)) : (Nat → Int32) :=
  bnd ((-(u_76 (432+8*a.toNatClampNeg+4)))) fun v7_81 => f5_carry_L83 i a BIG v7_81 u_76
def f5_carry_L57 (i : Nat) (a : Int32) (n57 : Nat) (w6_57 : Int32) (u_57 : (Nat → Int32)) : (Nat → Int32) := match n57 with
  | 0 => fun _ => 0
  | n57 + 1 => if w6_57 ≤ 0 then (f5_carry_b76 i a u_57) else (bnd2 (f5_stepUp u_57 i) fun r64 u64 => if r64 = 0 then (f5_carry_b76 i a u64) else (bnd (w6_57 + (-1)) fun v6_70 => (f5_carry_L57 i a n57) v6_70 u64))
def f5_carry_b51 (i : Nat) (a : Int32) (u_51 : (Nat → Int32)) : (Nat → Int32) :=
  bnd (u_51 (432+8*a.toNatClampNeg+4)) fun v6_55 => f5_carry_L57 i a BIG v6_55 u_51
def f5_carry_L30 (i : Nat) (a : Int32) (t0_19 : Int32) (n30 : Nat) (w5_30 : Int32) (u_30 : (Nat → Int32)) : (Nat → Int32) := match n30 with
  | 0 => fun _ => 0
  | n30 + 1 => if w5_30 ≤ 0 then (f5_carry_b51 i a u_30) else (bnd2 (f5_stepSideways u_30 i t0_19) fun r39 u39 => if r39 = 0 then (f5_carry_b51 i a u39) else (bnd (w5_30 + (-1)) fun v5_45 => (f5_carry_L30 i a t0_19 n30) v5_45 u39))
def f5_carry_b19 (u : (Nat → Int32)) (i : Nat) (a : Int32) (t0_19 : Int32) : (Nat → Int32) :=
  bnd (mAbs (u (432+8*a.toNatClampNeg+3))) fun v5_28 => f5_carry_L30 i a t0_19 BIG v5_28 u
def f5_carry (u : (Nat → Int32)) (i : Nat) (a : Int32) : (Nat → Int32) :=
  if 0 ≤ (u (432+8*a.toNatClampNeg+3)) then (f5_carry_b19 u i a 1) else (f5_carry_b19 u i a (-1))
def f5_movePlatforms_b41 (k12 : Int32 → (Nat → Int32) → (Nat → Int32)) (w2_12 : Int32) (u_41 : (Nat → Int32)) : (Nat → Int32) :=
  bnd (w2_12 + 1) fun v2_41 => k12 v2_41 u_41
def f5_movePlatforms_L12 (k2 : Int32 → (Nat → Int32) → (Nat → Int32)) (w1_2 : Int32) (n12 : Nat) (w2_12 : Int32) (u_12 : (Nat → Int32)) : (Nat → Int32) := match n12 with
  | 0 => fun _ => 0
  | n12 + 1 => if (u_12 464) ≤ w2_12 then (bnd (f2_move u_12 w1_2.toNatClampNeg) fun u53 => bnd (w1_2 + 1) fun v1_56 => k2 v1_56 u53) else (if (u_12 (470+w2_12.toNatClampNeg)) = w1_2 then (bnd (f5_carry u_12 w2_12.toNatClampNeg w1_2) fun u38 => f5_movePlatforms_b41 (f5_movePlatforms_L12 k2 w1_2 n12) w2_12 u38) else (f5_movePlatforms_b41 (f5_movePlatforms_L12 k2 w1_2 n12) w2_12 u_12))
def f5_movePlatforms_L2  (n2 : Nat) (w1_2 : Int32) (u_2 : (Nat → Int32)) : (Nat → Int32) := match n2 with
  | 0 => fun _ => 0
  | n2 + 1 => if (u_2 465) ≤ w1_2 then (u_2) else (f5_movePlatforms_L12 (f5_movePlatforms_L2 n2) w1_2 BIG 0 u_2)
def f5_movePlatforms (u : (Nat → Int32)) : (Nat → Int32) :=
  f5_movePlatforms_L2 BIG 0 u
def f5_senseStanding (u : (Nat → Int32)) (i : Nat) (a : Int32) : Int32 × (Nat → Int32) :=
  bnd (f5_isStanding u i) fun r2 => if r2 = 0 then (if (u (336+24*i+4)) ≤ 0 then ((0, u)) else (bnd (va_up u (336+24*i+4) ((u (336+24*i+4)) - 1)) fun u39 => (0, u39))) else (bnd (va_up u (336+24*i+4) a) fun u10 => bnd (va_up u10 (336+24*i+19) ((u10 (336+24*i+19)) + 1)) fun u22 => (1, u22))
def f5_senseJumpKey_b25 (u : (Nat → Int32)) (i : Nat) : (Nat → Int32) :=
  if (u (336+24*i+5)) ≤ 0 then (u) else (bnd (va_up u (336+24*i+5) ((u (336+24*i+5)) - 1)) fun u39 => u39)
def f5_senseJumpKey (u : (Nat → Int32)) (i : Nat) (a : Int32) : (Nat → Int32) :=
  bnd (f0_holds u i 4) fun r2 => if r2 = 0 then (f5_senseJumpKey_b25 u i) else (if ((u (336+24*i+10)) &&& 4) = 0 then (bnd (va_up u (336+24*i+5) a) fun u19 => u19) else (f5_senseJumpKey_b25 u i))
def f5_beginsToDrop_b17 (i : Nat) (a : Int32) (u_17 : (Nat → Int32)) : Int32 × (Nat → Int32) :=
  if a = 0 then ((0, u_17)) else (bnd (f0_holds u_17 i 8) fun r24 => if r24 = 0 then ((0, u_17)) else (if (u_17 (336+24*i+5)) = 0 then ((0, u_17)) else (bnd (f5_supportAt u_17 i (u_17 (336+24*i+0)) (u_17 (336+24*i+1)) (-1)) fun r50 => if (r50 &&& 5) = 0 then (bnd (va_up u_17 (336+24*i+6) 8) fun u63 => bnd (va_up u63 (336+24*i+5) 0) fun u68 => bnd (va_up u68 (336+24*i+4) 0) fun u73 => (1, u73)) else ((0, u_17)))))
def f5_beginsToDrop (u : (Nat → Int32)) (i : Nat) (a : Int32) : Int32 × (Nat → Int32) :=
  if (u (336+24*i+6)) ≤ 0 then (f5_beginsToDrop_b17 i a u) else (bnd (va_up u (336+24*i+6) ((u (336+24*i+6)) - 1)) fun u14 => f5_beginsToDrop_b17 i a u14)
def f5_steer_b85 (u : (Nat → Int32)) (i : Nat) (b : Int32) (c1 : Int32) (v6_60 : Int32) (t0_85 : Int32) : (Nat → Int32) :=
  bnd (va_up u (336+24*i+2) (b * (mMin c1 (v6_60 + t0_85)))) fun u90 => u90
def f5_steer_b30 (u : (Nat → Int32)) (i : Nat) (b : Int32) (c1 : Int32) (t0_30 : Int32) : (Nat → Int32) :=
  if b = 0 then (if t0_30 = 0 then (u) else (bnd (f5_nearerToZero (u (336+24*i+2))) fun r47 => bnd (va_up u (336+24*i+2) r47) fun u50 => u50)) else (bnd (((u (336+24*i+2)) * b)) fun v6_60 => if c1 ≤ v6_60 then (u) else (if t0_30 = 0 then (f5_steer_b85 u i b c1 v6_60 1) else (f5_steer_b85 u i b c1 v6_60 2)))
def f5_steer_b29 (u : (Nat → Int32)) (i : Nat) (b : Int32) (c1 : Int32) : (Nat → Int32) :=
  f5_steer_b30 u i b c1 0
def f5_steer (u : (Nat → Int32)) (i : Nat) (a : Int32) (b : Int32) (c1 : Int32) : (Nat → Int32) :=
  if a = 0 then (f5_steer_b29 u i b c1) else (bnd (f4_firmKindsBelow u i (u (336+24*i+0)) (u (336+24*i+1))) fun r17 => if r17 = 32 then (f5_steer_b29 u i b c1) else (f5_steer_b30 u i b c1 1))
def f5_jumps_b101 (sz : (Nat → Int32)) (i : Nat) (u_101 : (Nat → Int32)) : Int32 × (Nat → Int32) :=
  bnd (f0_leap u_101 i (sz 11)) fun u105 => (1, u105)
def f5_jumps (u : (Nat → Int32)) (sz : (Nat → Int32)) (i : Nat) (a : Int32) : Int32 × (Nat → Int32) :=
  if (u (336+24*i+5)) = 0 then ((0, u)) else (if (u (336+24*i+4)) ≤ 0 then (if a = 0 then (bnd (f4_block u i ((u (336+24*i+0)) + 1) (u (336+24*i+1))) fun r51 => if r51 = 0 then (bnd (f4_block u i ((u (336+24*i+0)) - 1) (u (336+24*i+1))) fun r83 => if r83 = 0 then ((0, u)) else (bnd (va_up u (336+24*i+2) (sz 10)) fun u93 => f5_jumps_b101 sz i u93)) else (bnd (va_up u (336+24*i+2) (-(sz 10))) fun u62 => f5_jumps_b101 sz i u62)) else ((0, u))) else (bnd (va_up u (336+24*i+4) 0) fun u18 => bnd (f0_leap u18 i (sz 11)) fun u25 => (1, u25)))
def f5_cutJump (u : (Nat → Int32)) (i : Nat) : (Nat → Int32) :=
  if (nb (u (336+24*i+11))) = 0 then (u) else (if (u (336+24*i+3)) ≤ 4 then (u) else (bnd (f0_holds u i 4) fun r17 => if r17 = 0 then (bnd (va_up u (336+24*i+3) 4) fun u25 => u25) else (u)))
def f5_accelerateDown (u : (Nat → Int32)) (i : Nat) (a : Int32) : (Nat → Int32) :=
  bnd (va_up u (336+24*i+3) (mMax (-12) ((u (336+24*i+3)) - 1))) fun u12 => if a = 0 then (u12) else (if (-3) ≤ (u12 (336+24*i+3)) then (u12) else (bnd (f4_block u12 i ((u12 (336+24*i+0)) + a) (u12 (336+24*i+1))) fun r43 => if r43 = 0 then (u12) else (bnd (va_up u12 (336+24*i+3) (-3)) fun u52 => u52)))
def f5_rideBelts_b43 (i : Nat) (r13 : Int32) (u_43 : (Nat → Int32)) : (Nat → Int32) :=
  if (r13 &&& 128) = 0 then (u_43) else (bnd2 (f5_stepSideways u_43 i (-1)) fun r54 u54 => if r54 = 0 then (u54) else (bnd (va_up u54 (336+24*i+18) ((u54 (336+24*i+18)) + 1)) fun u69 => u69))
def f5_rideBelts (u : (Nat → Int32)) (i : Nat) : (Nat → Int32) :=
  bnd (f4_firmKindsBelow u i (u (336+24*i+0)) (u (336+24*i+1))) fun r13 => if (r13 &&& 64) = 0 then (f5_rideBelts_b43 i r13 u) else (bnd2 (f5_stepSideways u i 1) fun r27 u27 => if r27 = 0 then (f5_rideBelts_b43 i r13 u27) else (bnd (va_up u27 (336+24*i+18) ((u27 (336+24*i+18)) + 1)) fun u42 => f5_rideBelts_b43 i r13 u42))
def f5_run_L21 (i : Nat) (t0_12 : Int32) (n21 : Nat) (w3_21 : Int32) (u_21 : (Nat → Int32)) : (Nat → Int32) := match n21 with
  | 0 => fun _ => 0
  | n21 + 1 => if w3_21 ≤ 0 then (u_21) else (bnd2 (f5_stepSideways u_21 i t0_12) fun r28 u28 => if r28 = 0 then (bnd (va_up u28 (336+24*i+2) 0) fun u36 => u36) else (bnd (va_up u28 (336+24*i+18) ((u28 (336+24*i+18)) + 1)) fun u49 => bnd (w3_21 + (-1)) fun v3_50 => (f5_run_L21 i t0_12 n21) v3_50 u49))
def f5_run_b12 (u : (Nat → Int32)) (i : Nat) (t0_12 : Int32) : (Nat → Int32) :=
  bnd (mAbs (u (336+24*i+2))) fun v3_20 => f5_run_L21 i t0_12 BIG v3_20 u
def f5_run (u : (Nat → Int32)) (i : Nat) : (Nat → Int32) :=
  if 0 ≤ (u (336+24*i+2)) then (f5_run_b12 u i 1) else (f5_run_b12 u i (-1))
def f5_land_b40 (u : (Nat → Int32)) (i : Nat) (t0_40 : Int32) : (Nat → Int32) :=
  bnd (va_up u (336+24*i+3) t0_40) fun u40 => bnd (va_up u40 (336+24*i+17) ((u40 (336+24*i+17)) + 1)) fun u52 => u52
def f5_land_b28 (u : (Nat → Int32)) (i : Nat) (t0_28 : Int32) : (Nat → Int32) :=
  if t0_28 = 0 then (f5_land_b40 u i 0) else (f5_land_b40 u i 16)
def f5_land (u : (Nat → Int32)) (i : Nat) : (Nat → Int32) :=
  bnd (f4_firmKindsBelow u i (u (336+24*i+0)) (u (336+24*i+1))) fun r13 => if (r13 &&& 256) = 0 then (f5_land_b28 u i 0) else (f5_land_b28 u i 1)
def f5_riseOrFall_L45 (i : Nat) (n45 : Nat) (w2_45 : Int32) (u_45 : (Nat → Int32)) : (Nat → Int32) := match n45 with
  | 0 => fun _ => 0
  | n45 + 1 => if w2_45 ≤ 0 then (u_45) else (bnd2 (f5_stepDown u_45 i (-1)) fun r52 u52 => if r52 = 0 then (bnd (f5_land u52 i) fun u60 => u60) else (bnd (va_up u52 (336+24*i+18) ((u52 (336+24*i+18)) + 1)) fun u73 => bnd (w2_45 + (-1)) fun v2_74 => (f5_riseOrFall_L45 i n45) v2_74 u73))
def f5_riseOrFall_L5 (i : Nat) (n5 : Nat) (w2_5 : Int32) (u_5 : (Nat → Int32)) : (Nat → Int32) := match n5 with
  | 0 => fun _ => 0
  | n5 + 1 => if w2_5 ≤ 0 then (bnd ((-(u_5 (336+24*i+3)))) fun v2_44 => f5_riseOrFall_L45 i BIG v2_44 u_5) else (bnd2 (f5_stepUp u_5 i) fun r11 u11 => if r11 = 0 then (bnd (va_up u11 (336+24*i+3) 0) fun u19 => u19) else (bnd (va_up u11 (336+24*i+18) ((u11 (336+24*i+18)) + 1)) fun u32 => bnd (w2_5 + (-1)) fun v2_33 => (f5_riseOrFall_L5 i n5) v2_33 u32))
def f5_riseOrFall (u : (Nat → Int32)) (i : Nat) : (Nat → Int32) :=
  bnd (u (336+24*i+3)) fun v2_4 => f5_riseOrFall_L5 i BIG v2_4 u
def f5_meetCoinsAndSpikes (u : (Nat → Int32)) (i : Nat) : (Nat → Int32) :=
  bnd2 (f4_giveCoins u i) fun r12 u12 => bnd (va_up u12 (336+24*i+14) ((u (336+24*i+14)) + r12)) fun u16 => if (u16 (336+24*i+1)) < (-40) then (bnd (f0_die u16 i) fun u40 => u40) else (bnd (f4_touch u16 i 9) fun r33 => if r33 = 0 then (u16) else (bnd (f0_die u16 i) fun u40 => u40))
def f5_update_b81 (i : Nat) (u_81 : (Nat → Int32)) : (Nat → Int32) :=
  bnd (f5_run u_81 i) fun u83 => bnd (f5_riseOrFall u83 i) fun u88 => bnd (f5_meetCoinsAndSpikes u88 i) fun u93 => bnd (f0_endTick u93 i) fun u97 => u97
def f5_update_b57 (i : Nat) (r29 : Int32) (u49 : (Nat → Int32)) (w3_57 : Int32) : (Nat → Int32) :=
  bnd (f5_cutJump u49 i) fun u59 => if w3_57 = 0 then (bnd (f5_accelerateDown u59 i r29) fun u78 => f5_update_b81 i u78) else (bnd (f5_rideBelts u59 i) fun u68 => f5_update_b81 i u68)
def f5_update_b28 (sz : (Nat → Int32)) (i : Nat) (u20 : (Nat → Int32)) (w3_28 : Int32) : (Nat → Int32) :=
  bnd (f0_direction u20 i) fun r29 => bnd (f5_steer u20 i w3_28 r29 (sz 10)) fun u42 => bnd2 (f5_jumps u42 (sz) i w3_28) fun r49 u49 => if r49 = 0 then (f5_update_b57 i r29 u49 w3_28) else (f5_update_b57 i r29 u49 0)
def f5_update (u : (Nat → Int32)) (sz : (Nat → Int32)) (i : Nat) : (Nat → Int32) :=
  bnd2 (f5_senseStanding u i (sz 12)) fun r5 u5 => bnd (f5_senseJumpKey u5 i (sz 13)) fun u14 => bnd2 (f5_beginsToDrop u14 i r5) fun r20 u20 => if r20 = 0 then (f5_update_b28 sz i u20 r5) else (f5_update_b28 sz i u20 0)
def f5_advance_L20 (sz : (Nat → Int32)) (n20 : Nat) (w2_20 : Int32) (u_20 : (Nat → Int32)) : (Nat → Int32) := match n20 with
  | 0 => fun _ => 0
  | n20 + 1 => if (u_20 464) ≤ w2_20 then (u_20) else (bnd (f5_update u_20 (sz) w2_20.toNatClampNeg) fun u36 => bnd (w2_20 + 1) fun v2_39 => (f5_advance_L20 sz n20) v2_39 u36)
def f5_advance (u : (Nat → Int32)) (sz : (Nat → Int32)) : (Nat → Int32) :=
  bnd (f5_noteCarriers u) fun u1 => bnd (va_up u1 (466) ((u1 466) + 1)) fun u11 => bnd (f5_movePlatforms u11) fun u15 => f5_advance_L20 sz BIG 0 u15
def fJ9_floorDiv (a : Int32) (b : Int32) : Int32 :=
  bnd ((a / b)) fun v2_3 => if 0 ≤ (a ^^^ b) then (v2_3) else (if (v2_3 * b) = a then (v2_3) else ((v2_3 - 1)))
theorem xor16 (x : Int32) : 0 ≤ x ^^^ 16 ↔ 0 ≤ x := by
  rw [Int32.le_iff_toInt_le, Int32.le_iff_toInt_le, show (0 : Int32).toInt = 0 from rfl]
  have h1 : (x.toBitVec ^^^ 16#32).msb = x.toBitVec.msb := by
    rw [BitVec.msb_xor, show (16#32).msb = false from rfl]
    cases x.toBitVec.msb <;> rfl
  rw [BitVec.msb_eq_toInt, BitVec.msb_eq_toInt] at h1
  have h2 := decide_eq_decide.mp h1
  show 0 ≤ (x.toBitVec ^^^ 16#32).toInt ↔ 0 ≤ x.toBitVec.toInt
  omega
theorem fd16 (x : Int32) : fJ9_floorDiv x 16 = x >>> ((4 : Int32) &&& 31) := by
  apply Int32.toInt_inj.mp
  rw [pk_shr x ((4 : Int32) &&& 31) 4 (by decide), Int.shiftRight_eq_div_pow]
  have hd : (x / 16).toInt = x.toInt.tdiv 16 := Int32.toInt_div_of_ne_right x 16 (by decide)
  have h3 := x.le_toInt
  have h4 := x.toInt_lt
  have hq : x.toInt.tdiv 16 = if 0 ≤ x.toInt then x.toInt / 16 else -((-x.toInt) / 16) := by
    split
    · rename_i h; exact Int.tdiv_eq_ediv_of_nonneg h
    · rename_i h
      rw [← Int.neg_neg x.toInt, Int.neg_tdiv, Int.neg_neg, Int.tdiv_eq_ediv_of_nonneg (by omega)]
  show (if 0 ≤ x ^^^ 16 then x / 16 else if x / 16 * 16 = x then x / 16 else x / 16 - 1).toInt = _
  have hm : (x / 16 * 16).toInt = x.toInt.tdiv 16 * 16 := by
    rw [Int32.toInt_mul, hd, show (16 : Int32).toInt = 16 from rfl, hq, Int.bmod_def]
    split <;> split <;> omega
  by_cases h0 : 0 ≤ x
  · rw [if_pos ((xor16 x).mpr h0), hd, hq]
    rw [Int32.le_iff_toInt_le, show (0 : Int32).toInt = 0 from rfl] at h0
    rw [if_pos h0]
    rfl
  · rw [if_neg (fun h => h0 ((xor16 x).mp h))]
    rw [Int32.le_iff_toInt_le, show (0 : Int32).toInt = 0 from rfl] at h0
    rw [if_neg h0] at hq
    by_cases hx : x / 16 * 16 = x
    · rw [if_pos hx, hd, hq]
      have h5 : x.toInt.tdiv 16 * 16 = x.toInt := by rw [← hm, hx]
      rw [hq] at h5
      show -(-x.toInt / 16) = x.toInt / 2 ^ 4
      omega
    · rw [if_neg hx, Int32.toInt_sub, hd, hq, show (1 : Int32).toInt = 1 from rfl]
      have h5 : ¬ x.toInt.tdiv 16 * 16 = x.toInt := fun h => hx (Int32.toInt_inj.mp (by rw [hm, h]))
      rw [hq] at h5
      show (-(-x.toInt / 16) - 1).bmod (2 ^ 32) = x.toInt / 2 ^ 4
      rw [Int.bmod_def]
      split <;> omega
theorem fd16_le (x : Int32) : (fJ9_floorDiv x 16).toInt ≤ 134217727 := by
  rw [fd16, pk_shr x ((4 : Int32) &&& 31) 4 (by decide), Int.shiftRight_eq_div_pow]
  have h1 := x.toInt_lt
  omega
def fJ9_floorMod (a : Int32) (b : Int32) : Int32 :=
  bnd ((a - a / b * b)) fun v2_3 => if 0 ≤ (a ^^^ b) then (v2_3) else (if v2_3 = 0 then (v2_3) else ((v2_3 + b)))
def f7_isBetween (a : Int32) (b : Int32) (c1 : Int32) : Int32 :=
  if a < b then (0) else (if c1 < a then (0) else (1))
def f7_isTile (a : Int32) (b : Int32) : Int32 :=
  if a < 0 then (0) else (if 24 ≤ a then (0) else (if b < 0 then (0) else (if 14 ≤ b then (0) else (1))))
def f7_isFirm (a : Int32) : Int32 :=
  if a = 1 then (1) else (bnd (f7_isBetween a 5 8) fun r9 => if r9 = 0 then (0) else (1))
def f7_isSlope (a : Int32) : Int32 :=
  if a = 3 then (1) else (if a = 4 then (1) else (0))
def f7_isBeside (a : Int32) : Int32 :=
  if a < 0 then (1) else (if a < 24 then (0) else (1))
def f7_rowOf (a : Int32) : Int32 :=
  bnd (fJ9_floorDiv a 16) fun r3 => r3
def f7_of (u : (Nat → Int32)) (a : Int32) (b : Int32) : Int32 :=
  u (((336 + (24 * a)) + b).toNatClampNeg)
def f7_plate (u : (Nat → Int32)) (a : Int32) (b : Int32) : Int32 :=
  u (((432 + (8 * a)) + b).toNatClampNeg)
def f7_sets (u : (Nat → Int32)) (a : Int32) (b : Int32) (c1 : Int32) : (Nat → Int32) :=
  bnd (va_up u (((336 + (24 * a)) + b).toNatClampNeg) c1) fun u15 => u15
def f7_adds (u : (Nat → Int32)) (a : Int32) (b : Int32) (c1 : Int32) : (Nat → Int32) :=
  bnd (va_up u (((336 + (24 * a)) + b).toNatClampNeg) ((u (((336 + (24 * a)) + b).toNatClampNeg)) + c1)) fun u18 => u18
def f7_setsPlate (u : (Nat → Int32)) (a : Int32) (b : Int32) (c1 : Int32) : (Nat → Int32) :=
  bnd (va_up u (((432 + (8 * a)) + b).toNatClampNeg) c1) fun u15 => u15
def f7_thrown (u : (Nat → Int32)) : Int32 :=
  u 490
def f7_fails (u : (Nat → Int32)) (a : Int32) : Int32 × (Nat → Int32) :=
  bnd (va_up u (490) a) fun u2 => (0, u2)
def f7_refuses (u : (Nat → Int32)) (a : Int32) : Int32 × (Nat → Int32) :=
  bnd (va_up u (490) a) fun u2 => (0, u2)
def f7_isBody (u : (Nat → Int32)) (a : Int32) : Int32 :=
  if a < 0 then (0) else (if (u 464) ≤ a then (0) else (1))
def f7_isPlatform (u : (Nat → Int32)) (a : Int32) : Int32 :=
  if a < 0 then (0) else (if (u 465) ≤ a then (0) else (1))
def f7_kindIn (u : (Nat → Int32)) (a : Int32) (b : Int32) : Int32 :=
  if a < 0 then (1) else (if a < 24 then (if b < 0 then (0) else (if b < 14 then (u (((24 * b) + a).toNatClampNeg)) else (0))) else (1))
theorem lt_k {a : Int32} {k : Int32} {n : Int} (h : a < k) (hk : k.toInt = n) : a.toInt < n := by
  rw [Int32.lt_iff_toInt_lt] at h
  omega
theorem kindIn_in {u : Nat → Int32} {a b : Int32} (h1 : ¬ a < 0) (h2 : a < 24) (h3 : ¬ b < 0) (h4 : b < 14) : ((24 * b) + a).toNatClampNeg < 336 := by
  have h5 := vp_in_iff.mp (in_kidx2 h1 h2 h3 h4)
  rw [Int32.lt_iff_toInt_lt] at h1 h2 h3 h4
  rw [show (0 : Int32).toInt = 0 from rfl] at h1 h3
  rw [show (24 : Int32).toInt = 24 from rfl] at h2
  rw [show (14 : Int32).toInt = 14 from rfl] at h4
  have e1 : (24 * b.toInt).bmod (2 ^ 32) = 24 * b.toInt := by rw [Int.bmod_def]; split <;> omega
  have e2 : (24 * b.toInt + a.toInt).bmod (2 ^ 32) = 24 * b.toInt + a.toInt := by rw [Int.bmod_def]; split <;> omega
  have e3 : ((24 * b) + a).toInt = 24 * b.toInt + a.toInt := by
    rw [Int32.toInt_add, Int32.toInt_mul, show (24 : Int32).toInt = 24 from rfl, e1, e2]
  show ((24 * b) + a).toInt.toNat < 336
  omega
theorem coin_in {u : Nat → Int32} {a b r : Int32} (e : r = f7_kindIn u a b) (h : r = 10) : vp_in ((24 * b) + a) 480 ∧ ((24 * b) + a).toNatClampNeg < 336 := by
  unfold f7_kindIn at e
  by_cases h1 : a < 0
  · rw [if_pos h1] at e; exact absurd (e.symm.trans h) (by decide)
  · rw [if_neg h1] at e
    by_cases h2 : a < 24
    · rw [if_pos h2] at e
      by_cases h3 : b < 0
      · rw [if_pos h3] at e; exact absurd (e.symm.trans h) (by decide)
      · rw [if_neg h3] at e
        by_cases h4 : b < 14
        · exact ⟨in_kidx2 h1 h2 h3 h4, kindIn_in (u := u) h1 h2 h3 h4⟩
        · rw [if_neg h4] at e; exact absurd (e.symm.trans h) (by decide)
    · rw [if_neg h2] at e; exact absurd (e.symm.trans h) (by decide)
def f7_kindAt (u : (Nat → Int32)) (a : Int32) (b : Int32) : Int32 :=
  bnd (fJ9_floorDiv a 16) fun r4 => bnd (f7_rowOf b) fun r8 => bnd (f7_kindIn u r4 r8) fun r11 => r11
def f7_surfaceAt (u : (Nat → Int32)) (a : Int32) (b : Int32) : Int32 :=
  bnd (f7_rowOf b) fun r3 => bnd (f7_kindAt u a b) fun r10 => if r10 = 3 then (((16 * r3) + ((a - a / 16 * 16) + 1))) else (((16 * r3) + (16 - (a - a / 16 * 16))))
def f7_foot (u : (Nat → Int32)) (a : Int32) (b : Int32) : Int32 :=
  bnd (f7_of u a 7) fun r5 => (b + (r5 / 2))
def f7_rowLeftOut (u : (Nat → Int32)) (a : Int32) (b : Int32) (c1 : Int32) : Int32 :=
  bnd (f7_foot u a b) fun r4 => bnd (f7_kindAt u r4 c1) fun r8 => bnd (f7_isSlope r8) fun r11 => if r11 = 0 then ((-1000)) else (bnd (f7_rowOf c1) fun r18 => r18)
def f7_blocks_b94 (k44 : Int32 → Int32) (w6_44 : Int32) : Int32 :=
  bnd (w6_44 + 1) fun v6_94 => k44 v6_94
def f7_blocks_L44 (k17 : Int32 → Int32) (u : (Nat → Int32)) (a : Int32) (c1 : Int32) (r4 : Int32) (w5_17 : Int32) (n44 : Nat) (w6_44 : Int32) : Int32 := match n44 with
  | 0 => 0
  | n44 + 1 => bnd (f7_of u a 8) fun r51 => bnd (f7_rowOf ((c1 + r51) - 1)) fun r57 => if r57 < w6_44 then (bnd (w5_17 + 1) fun v5_100 => k17 v5_100) else (bnd (f7_kindIn u w5_17 w6_44) fun r68 => bnd (f7_isFirm r68) fun r71 => if r71 = 0 then (f7_blocks_b94 (f7_blocks_L44 k17 u a c1 r4 w5_17 n44) w6_44) else (if w6_44 = r4 then (bnd (f7_isBeside w5_17) fun r86 => if r86 = 0 then (f7_blocks_b94 (f7_blocks_L44 k17 u a c1 r4 w5_17 n44) w6_44) else (1)) else (1)))
def f7_blocks_L17 (u : (Nat → Int32)) (a : Int32) (b : Int32) (c1 : Int32) (r4 : Int32) (n17 : Nat) (w5_17 : Int32) : Int32 := match n17 with
  | 0 => 0
  | n17 + 1 => bnd (f7_of u a 7) fun r24 => bnd (fJ9_floorDiv ((b + r24) - 1) 16) fun r32 => if r32 < w5_17 then (0) else (bnd (f7_rowOf c1) fun r39 => f7_blocks_L44 (f7_blocks_L17 u a b c1 r4 n17) u a c1 r4 w5_17 BIG r39)
def f7_blocks (u : (Nat → Int32)) (a : Int32) (b : Int32) (c1 : Int32) : Int32 :=
  bnd (f7_rowLeftOut u a b c1) fun r4 => bnd (fJ9_floorDiv b 16) fun r12 => f7_blocks_L17 u a b c1 r4 BIG r12
def f7_firmBelow_b91 (k28 : Int32 → Int32 → Int32) (w7_28 : Int32) (w6_91 : Int32) : Int32 :=
  bnd (w7_28 + 1) fun v7_91 => k28 v7_91 w6_91
def f7_firmBelow_b82 (k28 : Int32 → Int32 → Int32) (w7_28 : Int32) (w6_28 : Int32) (r54 : Int32) : Int32 :=
  bnd ((w6_28 ||| (1 <<< (r54 &&& 31)))) fun v6_89 => f7_firmBelow_b91 k28 w7_28 v6_89
def f7_firmBelow_L28 (u : (Nat → Int32)) (a : Int32) (b : Int32) (r4 : Int32) (r12 : Int32) (n28 : Nat) (w7_28 : Int32) (w6_28 : Int32) : Int32 := match n28 with
  | 0 => 0
  | n28 + 1 => bnd (f7_of u a 7) fun r35 => bnd (fJ9_floorDiv ((b + r35) - 1) 16) fun r43 => if r43 < w7_28 then (w6_28) else (bnd (f7_kindIn u w7_28 r12) fun r54 => bnd (f7_isFirm r54) fun r61 => if r61 = 0 then (f7_firmBelow_b91 (f7_firmBelow_L28 u a b r4 r12 n28) w7_28 w6_28) else (if r12 = r4 then (bnd (f7_isBeside w7_28) fun r76 => if r76 = 0 then (f7_firmBelow_b91 (f7_firmBelow_L28 u a b r4 r12 n28) w7_28 w6_28) else (f7_firmBelow_b82 (f7_firmBelow_L28 u a b r4 r12 n28) w7_28 w6_28 r54)) else (f7_firmBelow_b82 (f7_firmBelow_L28 u a b r4 r12 n28) w7_28 w6_28 r54)))
def f7_firmBelow (u : (Nat → Int32)) (a : Int32) (b : Int32) (c1 : Int32) : Int32 :=
  bnd (f7_rowLeftOut u a b c1) fun r4 => bnd (f7_rowOf (c1 - 1)) fun r12 => bnd (fJ9_floorDiv b 16) fun r23 => f7_firmBelow_L28 u a b r4 r12 BIG r23 0
def f7_hasOneWay_L19 (u : (Nat → Int32)) (a : Int32) (b : Int32) (c1 : Int32) (n19 : Nat) (w4_19 : Int32) : Int32 := match n19 with
  | 0 => 0
  | n19 + 1 => bnd (f7_of u a 7) fun r26 => bnd (fJ9_floorDiv ((b + r26) - 1) 16) fun r34 => if r34 < w4_19 then (0) else (bnd (f7_rowOf (c1 - 1)) fun r46 => bnd (f7_kindIn u w4_19 r46) fun r49 => if r49 = 2 then (1) else (bnd (w4_19 + 1) fun v4_58 => (f7_hasOneWay_L19 u a b c1 n19) v4_58))
def f7_hasOneWay (u : (Nat → Int32)) (a : Int32) (b : Int32) (c1 : Int32) : Int32 :=
  bnd (fJ9_floorMod c1 16) fun r3 => if r3 = 0 then (bnd (fJ9_floorDiv b 16) fun r14 => f7_hasOneWay_L19 u a b c1 BIG r14) else (0)
def f7_isOnSlope (u : (Nat → Int32)) (a : Int32) (b : Int32) (c1 : Int32) : Int32 :=
  bnd (f7_foot u a b) fun r4 => bnd (f7_kindAt u r4 (c1 - 1)) fun r10 => bnd (f7_isSlope r10) fun r13 => if r13 = 0 then (0) else (bnd (f7_foot u a b) fun r23 => bnd (f7_surfaceAt u r23 (c1 - 1)) fun r29 => if r29 = c1 then (1) else (0))
def f7_isOn (u : (Nat → Int32)) (a : Int32) (b : Int32) (c1 : Int32) (d : Int32) : Int32 :=
  bnd (f7_plate u b 1) fun r3 => if r3 = d then (bnd (f7_plate u b 0) fun r15 => bnd (f7_plate u b 2) fun r21 => if (r15 + r21) ≤ c1 then (0) else (bnd (f7_plate u b 0) fun r31 => bnd (f7_of u a 7) fun r39 => if (c1 + r39) ≤ r31 then (0) else (1))) else (0)
def f7_platformBelow_b38 (k3 : Int32 → Int32) (w5_3 : Int32) : Int32 :=
  bnd (w5_3 + 1) fun v5_38 => k3 v5_38
def f7_platformBelow_L3 (u : (Nat → Int32)) (a : Int32) (b : Int32) (c1 : Int32) (d : Int32) (n3 : Nat) (w5_3 : Int32) : Int32 := match n3 with
  | 0 => 0
  | n3 + 1 => if (u 465) ≤ w5_3 then ((-1)) else (if w5_3 = d then (f7_platformBelow_b38 (f7_platformBelow_L3 u a b c1 d n3) w5_3) else (bnd (f7_isOn u a w5_3 b c1) fun r29 => if r29 = 0 then (f7_platformBelow_b38 (f7_platformBelow_L3 u a b c1 d n3) w5_3) else (w5_3)))
def f7_platformBelow (u : (Nat → Int32)) (a : Int32) (b : Int32) (c1 : Int32) (d : Int32) : Int32 :=
  f7_platformBelow_L3 u a b c1 d BIG 0
def f7_supportBut_b63 (u : (Nat → Int32)) (a : Int32) (b : Int32) (c1 : Int32) (d : Int32) (v5_31 : Int32) (t0_63 : Int32) : Int32 :=
  bnd (f7_platformBelow u a b c1 d) fun r70 => if r70 < 0 then (((v5_31 + t0_63) + 0)) else (((v5_31 + t0_63) + 8))
def f7_supportBut_b30 (u : (Nat → Int32)) (a : Int32) (b : Int32) (c1 : Int32) (d : Int32) (t0_15 : Int32) (t0_30 : Int32) : Int32 :=
  bnd ((t0_15 + t0_30)) fun v5_31 => bnd (f7_of u a 6) fun r37 => if r37 ≤ 0 then (bnd (f7_hasOneWay u a b c1) fun r52 => if r52 = 0 then (f7_supportBut_b63 u a b c1 d v5_31 0) else (f7_supportBut_b63 u a b c1 d v5_31 2)) else (v5_31)
def f7_supportBut_b15 (u : (Nat → Int32)) (a : Int32) (b : Int32) (c1 : Int32) (d : Int32) (t0_15 : Int32) : Int32 :=
  bnd (f7_isOnSlope u a b c1) fun r19 => if r19 = 0 then (f7_supportBut_b30 u a b c1 d t0_15 0) else (f7_supportBut_b30 u a b c1 d t0_15 4)
def f7_supportBut (u : (Nat → Int32)) (a : Int32) (b : Int32) (c1 : Int32) (d : Int32) : Int32 :=
  bnd (f7_firmBelow u a b c1) fun r4 => if r4 = 0 then (f7_supportBut_b15 u a b c1 d 0) else (f7_supportBut_b15 u a b c1 d 1)
def f7_supportAt (u : (Nat → Int32)) (a : Int32) (b : Int32) (c1 : Int32) : Int32 :=
  bnd (f7_supportBut u a b c1 (-1)) fun r5 => r5
def f7_supportOf (u : (Nat → Int32)) (a : Int32) : Int32 :=
  bnd (f7_of u a 0) fun r5 => bnd (f7_of u a 1) fun r11 => bnd (f7_supportAt u a r5 r11) fun r14 => r14
def f7_doesStand (u : (Nat → Int32)) (a : Int32) : Int32 :=
  bnd (f7_of u a 3) fun r3 => if 0 < r3 then (0) else (bnd (f7_supportOf u a) fun r11 => if r11 = 0 then (0) else (1))
def f7_isOnIce (u : (Nat → Int32)) (a : Int32) : Int32 :=
  bnd (f7_of u a 0) fun r5 => bnd (f7_of u a 1) fun r11 => bnd (f7_firmBelow u a r5 r11) fun r14 => if r14 = 32 then (1) else (0)
def f7_isPressed (u : (Nat → Int32)) (a : Int32) (b : Int32) : Int32 :=
  bnd (f7_of u a 9) fun r4 => if (r4 &&& b) = 0 then (0) else (1)
def f7_wayOf (u : (Nat → Int32)) (a : Int32) : Int32 :=
  bnd (f7_isPressed u a 1) fun r3 => bnd (f7_isPressed u a 2) fun r10 => if r3 = r10 then (0) else (if r3 = 0 then (1) else ((-1)))
def f7_movesAcross_b142 (u : (Nat → Int32)) (a : Int32) (v3_8 : Int32) (w6_142 : Int32) : Int32 × (Nat → Int32) :=
  bnd (f7_sets u a 0 v3_8) fun u146 => bnd (f7_sets u146 a 1 w6_142) fun u154 => (1, u154)
def f7_movesAcross_b108 (u : (Nat → Int32)) (a : Int32) (v3_8 : Int32) (w6_82 : Int32) (t0_108 : Int32) : Int32 × (Nat → Int32) :=
  if t0_108 = 0 then (f7_movesAcross_b142 u a v3_8 w6_82) else (bnd (f7_supportAt u a v3_8 w6_82) fun r120 => if r120 = 0 then (bnd (f7_supportAt u a v3_8 (w6_82 - 1)) fun r133 => if r133 = 0 then (f7_movesAcross_b142 u a v3_8 w6_82) else (bnd (w6_82 + (-1)) fun v6_139 => f7_movesAcross_b142 u a v3_8 v6_139)) else (f7_movesAcross_b142 u a v3_8 w6_82))
def f7_movesAcross_b82 (u : (Nat → Int32)) (a : Int32) (v3_8 : Int32) (w6_82 : Int32) : Int32 × (Nat → Int32) :=
  bnd (f7_blocks u a v3_8 w6_82) fun r87 => if r87 = 0 then (bnd (f7_supportOf u a) fun r97 => if r97 = 0 then (f7_movesAcross_b108 u a v3_8 w6_82 0) else (f7_movesAcross_b108 u a v3_8 w6_82 1)) else ((0, u))
def f7_movesAcross_b80 (u : (Nat → Int32)) (a : Int32) (v3_8 : Int32) (t0_80 : Int32) : Int32 × (Nat → Int32) :=
  f7_movesAcross_b82 u a v3_8 t0_80
def f7_movesAcross (u : (Nat → Int32)) (a : Int32) (b : Int32) : Int32 × (Nat → Int32) :=
  bnd (f7_of u a 0) fun r3 => bnd ((r3 + b)) fun v3_8 => bnd (f7_of u a 1) fun r12 => bnd (f7_foot u a v3_8) fun r20 => bnd (f7_kindAt u r20 r12) fun r34 => bnd (f7_isSlope r34) fun r37 => if r37 = 0 then (f7_movesAcross_b82 u a v3_8 r12) else (bnd (f7_surfaceAt u r20 r12) fun r48 => if r48 ≤ (r12 + 1) then (if r48 = (r12 + 1) then (f7_movesAcross_b80 u a v3_8 r48) else (f7_movesAcross_b80 u a v3_8 r12)) else ((0, u)))
def f7_movesUp (u : (Nat → Int32)) (a : Int32) : Int32 × (Nat → Int32) :=
  bnd (f7_of u a 0) fun r5 => bnd (f7_of u a 1) fun r11 => bnd (f7_blocks u a r5 (r11 + 1)) fun r16 => if r16 = 0 then (bnd (f7_adds u a 1 1) fun u28 => (1, u28)) else ((0, u))
def f7_movesDown (u : (Nat → Int32)) (a : Int32) : Int32 × (Nat → Int32) :=
  bnd (f7_supportOf u a) fun r2 => if r2 = 0 then (bnd (f7_adds u a 1 (-1)) fun u14 => (1, u14)) else ((0, u))
def f7_carries_L81 (a : Int32) (b : Int32) (n81 : Nat) (w4_81 : Int32) (u_81 : (Nat → Int32)) : (Nat → Int32) := match n81 with
  | 0 => fun _ => 0
  | n81 + 1 => if w4_81 ≤ 0 then (u_81) else (bnd (f7_of u_81 a 0) fun r91 => bnd (f7_of u_81 a 1) fun r97 => bnd (f7_supportBut u_81 a r91 r97 b) fun r101 => if r101 = 0 then (bnd (f7_adds u_81 a 1 (-1)) fun u111 => bnd (w4_81 + (-1)) fun v4_114 => (f7_carries_L81 a b n81) v4_114 u111) else (u_81))
def f7_carries_b72 (a : Int32) (b : Int32) (u_72 : (Nat → Int32)) : (Nat → Int32) :=
  bnd (f7_plate u_72 b 4) fun r75 => f7_carries_L81 a b BIG (-r75) u_72
def f7_carries_L53 (a : Int32) (b : Int32) (n53 : Nat) (w4_53 : Int32) (u_53 : (Nat → Int32)) : (Nat → Int32) := match n53 with
  | 0 => fun _ => 0
  | n53 + 1 => if w4_53 ≤ 0 then (f7_carries_b72 a b u_53) else (bnd2 (f7_movesUp u_53 a) fun r60 u60 => if r60 = 0 then (f7_carries_b72 a b u60) else (bnd (w4_53 + (-1)) fun v4_66 => (f7_carries_L53 a b n53) v4_66 u60))
def f7_carries_b45 (a : Int32) (b : Int32) (u_45 : (Nat → Int32)) : (Nat → Int32) :=
  bnd (f7_plate u_45 b 4) fun r48 => f7_carries_L53 a b BIG r48 u_45
def f7_carries_L25 (a : Int32) (b : Int32) (t0_14 : Int32) (n25 : Nat) (w4_25 : Int32) (u_25 : (Nat → Int32)) : (Nat → Int32) := match n25 with
  | 0 => fun _ => 0
  | n25 + 1 => if w4_25 ≤ 0 then (f7_carries_b45 a b u_25) else (bnd2 (f7_movesAcross u_25 a t0_14) fun r33 u33 => if r33 = 0 then (f7_carries_b45 a b u33) else (bnd (w4_25 + (-1)) fun v4_39 => (f7_carries_L25 a b t0_14 n25) v4_39 u33))
def f7_carries_b14 (u : (Nat → Int32)) (a : Int32) (b : Int32) (t0_14 : Int32) : (Nat → Int32) :=
  bnd (f7_plate u b 3) fun r18 => bnd ((r18 * t0_14)) fun v4_23 => f7_carries_L25 a b t0_14 BIG v4_23 u
def f7_carries (u : (Nat → Int32)) (a : Int32) (b : Int32) : (Nat → Int32) :=
  bnd (f7_plate u b 3) fun r3 => if 0 ≤ r3 then (f7_carries_b14 u a b 1) else (f7_carries_b14 u a b (-1))
def f7_goesPlatform_b30 (k2 : Int32 → (Nat → Int32) → (Nat → Int32)) (w2_2 : Int32) (u_30 : (Nat → Int32)) : (Nat → Int32) :=
  bnd (w2_2 + 1) fun v2_30 => k2 v2_30 u_30
def f7_goesPlatform_L2 (a : Int32) (n2 : Nat) (w2_2 : Int32) (u_2 : (Nat → Int32)) : (Nat → Int32) := match n2 with
  | 0 => fun _ => 0
  | n2 + 1 => if (u_2 464) ≤ w2_2 then (bnd (f7_plate u_2 a 0) fun r42 => bnd (f7_plate u_2 a 3) fun r48 => bnd (f7_setsPlate u_2 a 0 (r42 + r48)) fun u52 => bnd (f7_plate u52 a 1) fun r61 => bnd (f7_plate u52 a 4) fun r67 => bnd (f7_setsPlate u52 a 1 (r61 + r67)) fun u71 => bnd (f7_plate u71 a 5) fun r80 => bnd (f7_setsPlate u71 a 5 (r80 - 1)) fun u85 => bnd (f7_plate u85 a 5) fun r91 => if r91 ≤ 0 then (bnd (f7_plate u85 a 6) fun r105 => bnd (f7_setsPlate u85 a 5 r105) fun u108 => bnd (f7_plate u108 a 3) fun r117 => bnd (f7_setsPlate u108 a 3 (-r117)) fun u121 => bnd (f7_plate u121 a 4) fun r130 => bnd (f7_setsPlate u121 a 4 (-r130)) fun u134 => u134) else (u85)) else (if (u_2 (484+w2_2.toNatClampNeg)) = a then (bnd (f7_carries u_2 w2_2 a) fun u27 => f7_goesPlatform_b30 (f7_goesPlatform_L2 a n2) w2_2 u27) else (f7_goesPlatform_b30 (f7_goesPlatform_L2 a n2) w2_2 u_2))
def f7_goesPlatform (u : (Nat → Int32)) (a : Int32) : (Nat → Int32) :=
  f7_goesPlatform_L2 a BIG 0 u
def f7_counts (u : (Nat → Int32)) (a : Int32) (b : Int32) (c1 : Int32) (d : Int32) : (Nat → Int32) :=
  if d = 0 then (bnd (f7_of u a b) fun r15 => if r15 ≤ 0 then (bnd (f7_sets u a b 0) fun u33 => u33) else (bnd (f7_of u a b) fun r24 => bnd (f7_sets u a b (r24 - 1)) fun u33 => u33)) else (bnd (f7_sets u a b c1) fun u33 => u33)
def f7_speedsUp_b45 (u : (Nat → Int32)) (a : Int32) (b : Int32) (v4_8 : Int32) (v5_16 : Int32) (t0_45 : Int32) : (Nat → Int32) :=
  bnd ((v4_8 + t0_45)) fun v4_46 => if v4_46 ≤ v5_16 then (bnd (f7_sets u a 2 (b * v4_46)) fun u67 => u67) else (bnd (f7_sets u a 2 (b * v5_16)) fun u67 => u67)
def f7_speedsUp_b44 (u : (Nat → Int32)) (a : Int32) (b : Int32) (v4_8 : Int32) (v5_16 : Int32) : (Nat → Int32) :=
  f7_speedsUp_b45 u a b v4_8 v5_16 1
def f7_speedsUp (u : (Nat → Int32)) (a : Int32) (b : Int32) (c1 : Int32) : (Nat → Int32) :=
  bnd (f7_of u a 2) fun r3 => bnd ((r3 * b)) fun v4_8 => bnd (u 480) fun v5_16 => if v4_8 ≤ v5_16 then (if c1 = 0 then (f7_speedsUp_b44 u a b v4_8 v5_16) else (bnd (f7_isOnIce u a) fun r34 => if r34 = 0 then (f7_speedsUp_b45 u a b v4_8 v5_16 2) else (f7_speedsUp_b44 u a b v4_8 v5_16))) else (u)
def f7_slowsDown (u : (Nat → Int32)) (a : Int32) : (Nat → Int32) :=
  bnd (f7_of u a 2) fun r3 => if r3 ≤ 2 then (if (-2) ≤ r3 then (bnd (f7_sets u a 2 0) fun u34 => u34) else (bnd (f7_sets u a 2 (r3 + 2)) fun u34 => u34)) else (bnd (f7_sets u a 2 (r3 - 2)) fun u34 => u34)
def f7_jumps_b176 (a : Int32) (u_176 : (Nat → Int32)) : Int32 × (Nat → Int32) :=
  bnd (f7_sets u_176 a 11 1) fun u181 => bnd (f7_adds u181 a 16 1) fun u189 => (1, u189)
def f7_jumps_b173 (a : Int32) (u132 : (Nat → Int32)) (t0_173 : Int32) : Int32 × (Nat → Int32) :=
  bnd (f7_sets u132 a 2 t0_173) fun u173 => f7_jumps_b176 a u173
def f7_jumps_b116 (u : (Nat → Int32)) (a : Int32) (t0_25 : Int32) (t0_61 : Int32) : Int32 × (Nat → Int32) :=
  bnd (f7_sets u a 3 (u 481)) fun u125 => bnd (f7_sets u125 a 5 0) fun u132 => if t0_25 = 0 then (if t0_61 = 0 then (f7_jumps_b173 a u132 (u132 480)) else (f7_jumps_b173 a u132 (-(u132 480)))) else (bnd (f7_sets u132 a 4 0) fun u143 => f7_jumps_b176 a u143)
def f7_jumps_b98 (u : (Nat → Int32)) (a : Int32) (t0_25 : Int32) (t0_61 : Int32) (t0_98 : Int32) : Int32 × (Nat → Int32) :=
  if t0_25 = 0 then (if t0_61 = 0 then (if t0_98 = 0 then ((0, u)) else (f7_jumps_b116 u a t0_25 t0_61)) else (f7_jumps_b116 u a t0_25 t0_61)) else (f7_jumps_b116 u a t0_25 t0_61)
def f7_jumps_b97 (u : (Nat → Int32)) (a : Int32) (t0_25 : Int32) (t0_61 : Int32) : Int32 × (Nat → Int32) :=
  f7_jumps_b98 u a t0_25 t0_61 0
def f7_jumps_b61 (u : (Nat → Int32)) (a : Int32) (b : Int32) (t0_25 : Int32) (t0_61 : Int32) : Int32 × (Nat → Int32) :=
  if t0_25 = 0 then (if b = 0 then (bnd (f7_of u a 0) fun r76 => bnd (f7_of u a 1) fun r84 => bnd (f7_blocks u a (r76 - 1) r84) fun r87 => if r87 = 0 then (f7_jumps_b97 u a t0_25 t0_61) else (f7_jumps_b98 u a t0_25 t0_61 1)) else (f7_jumps_b97 u a t0_25 t0_61)) else (f7_jumps_b97 u a t0_25 t0_61)
def f7_jumps_b60 (u : (Nat → Int32)) (a : Int32) (b : Int32) (t0_25 : Int32) : Int32 × (Nat → Int32) :=
  f7_jumps_b61 u a b t0_25 0
def f7_jumps_b25 (u : (Nat → Int32)) (a : Int32) (b : Int32) (t0_25 : Int32) : Int32 × (Nat → Int32) :=
  if t0_25 = 0 then (if b = 0 then (bnd (f7_of u a 0) fun r39 => bnd (f7_of u a 1) fun r47 => bnd (f7_blocks u a (r39 + 1) r47) fun r50 => if r50 = 0 then (f7_jumps_b60 u a b t0_25) else (f7_jumps_b61 u a b t0_25 1)) else (f7_jumps_b60 u a b t0_25)) else (f7_jumps_b60 u a b t0_25)
def f7_jumps (u : (Nat → Int32)) (a : Int32) (b : Int32) : Int32 × (Nat → Int32) :=
  bnd (f7_of u a 5) fun r3 => if r3 = 0 then ((0, u)) else (bnd (f7_of u a 4) fun r14 => if r14 ≤ 0 then (f7_jumps_b25 u a b 0) else (f7_jumps_b25 u a b 1))
def f7_falls_b57 (u : (Nat → Int32)) (a : Int32) (w3_57 : Int32) : (Nat → Int32) :=
  bnd (f7_sets u a 3 w3_57) fun u61 => u61
def f7_falls_b21 (u : (Nat → Int32)) (a : Int32) (b : Int32) (t0_21 : Int32) : (Nat → Int32) :=
  if b = 0 then (f7_falls_b57 u a t0_21) else (if (-3) ≤ t0_21 then (f7_falls_b57 u a t0_21) else (bnd (f7_of u a 0) fun r37 => bnd (f7_of u a 1) fun r45 => bnd (f7_blocks u a (r37 + b) r45) fun r48 => if r48 = 0 then (f7_falls_b57 u a t0_21) else (f7_falls_b57 u a (-3))))
def f7_falls (u : (Nat → Int32)) (a : Int32) (b : Int32) : (Nat → Int32) :=
  bnd (f7_of u a 3) fun r3 => bnd ((r3 - 1)) fun v3_8 => if (-12) ≤ v3_8 then (f7_falls_b21 u a b v3_8) else (f7_falls_b21 u a b (-12))
def f7_stepsAcross (u : (Nat → Int32)) (a : Int32) (b : Int32) : Int32 × (Nat → Int32) :=
  bnd2 (f7_movesAcross u a b) fun r3 u3 => if r3 = 0 then (bnd (f7_adds u3 a 18 0) fun u20 => (r3, u20)) else (bnd (f7_adds u3 a 18 1) fun u20 => (r3, u20))
def f7_goesAcross_L24 (a : Int32) (t0_14 : Int32) (n24 : Nat) (w3_24 : Int32) (u_24 : (Nat → Int32)) : (Nat → Int32) := match n24 with
  | 0 => fun _ => 0
  | n24 + 1 => if w3_24 ≤ 0 then (u_24) else (bnd2 (f7_stepsAcross u_24 a t0_14) fun r31 u31 => if r31 = 0 then (bnd (f7_sets u31 a 2 0) fun u44 => u44) else (bnd (w3_24 + (-1)) fun v3_48 => (f7_goesAcross_L24 a t0_14 n24) v3_48 u31))
def f7_goesAcross_b14 (u : (Nat → Int32)) (a : Int32) (t0_14 : Int32) : (Nat → Int32) :=
  bnd (f7_of u a 2) fun r18 => bnd ((r18 * t0_14)) fun v3_23 => f7_goesAcross_L24 a t0_14 BIG v3_23 u
def f7_goesAcross (u : (Nat → Int32)) (a : Int32) : (Nat → Int32) :=
  bnd (f7_of u a 2) fun r3 => if 0 ≤ r3 then (f7_goesAcross_b14 u a 1) else (f7_goesAcross_b14 u a (-1))
def f7_goesUp_L7 (a : Int32) (n7 : Nat) (w2_7 : Int32) (u_7 : (Nat → Int32)) : (Nat → Int32) := match n7 with
  | 0 => fun _ => 0
  | n7 + 1 => if w2_7 ≤ 0 then (u_7) else (bnd2 (f7_movesUp u_7 a) fun r13 u13 => if r13 = 0 then (bnd (f7_sets u13 a 3 0) fun u23 => u23) else (bnd (f7_adds u13 a 18 1) fun u32 => bnd (w2_7 + (-1)) fun v2_35 => (f7_goesUp_L7 a n7) v2_35 u32))
def f7_goesUp (u : (Nat → Int32)) (a : Int32) : (Nat → Int32) :=
  bnd (f7_of u a 3) fun r3 => f7_goesUp_L7 a BIG r3 u
def f7_goesDown_b65 (a : Int32) (u14 : (Nat → Int32)) (t0_65 : Int32) : (Nat → Int32) :=
  bnd (f7_sets u14 a 3 t0_65) fun u65 => bnd (f7_adds u65 a 17 1) fun u73 => u73
def f7_goesDown_b51 (a : Int32) (u14 : (Nat → Int32)) (t0_51 : Int32) : (Nat → Int32) :=
  if t0_51 = 0 then (f7_goesDown_b65 a u14 0) else (f7_goesDown_b65 a u14 16)
def f7_goesDown_L8 (a : Int32) (n8 : Nat) (w2_8 : Int32) (u_8 : (Nat → Int32)) : (Nat → Int32) := match n8 with
  | 0 => fun _ => 0
  | n8 + 1 => if w2_8 ≤ 0 then (u_8) else (bnd2 (f7_movesDown u_8 a) fun r14 u14 => if r14 = 0 then (bnd (f7_of u14 a 0) fun r25 => bnd (f7_of u14 a 1) fun r31 => bnd (f7_firmBelow u14 a r25 r31) fun r34 => if ((r34 >>> (8 &&& 31)) &&& 1) = 1 then (f7_goesDown_b51 a u14 1) else (f7_goesDown_b51 a u14 0)) else (bnd (f7_adds u14 a 18 1) fun u82 => bnd (w2_8 + (-1)) fun v2_85 => (f7_goesDown_L8 a n8) v2_85 u82))
def f7_goesDown (u : (Nat → Int32)) (a : Int32) : (Nat → Int32) :=
  bnd (f7_of u a 3) fun r3 => f7_goesDown_L8 a BIG (-r3) u
def f7_touches_b131 (k50 : Int32 → Int32 → (Nat → Int32) → Int32 × (Nat → Int32)) (w4_50 : Int32) (t0_99 : Int32) (u_131 : (Nat → Int32)) : Int32 × (Nat → Int32) :=
  bnd (w4_50 + 1) fun v4_131 => k50 v4_131 t0_99 u_131
def f7_touches_b99 (k50 : Int32 → Int32 → (Nat → Int32) → Int32 × (Nat → Int32)) (a : Int32) (w3_14 : Int32) (w4_50 : Int32) (u_50 : (Nat → Int32)) (r78 : Int32) (t0_99 : Int32) : Int32 × (Nat → Int32) :=
  if r78 = 10 then (bnd (va_up u_50 (((24 * w4_50) + w3_14).toNatClampNeg) 0) fun u122 => bnd (f7_adds u122 a 14 1) fun u128 => f7_touches_b131 k50 w4_50 t0_99 u128) else (f7_touches_b131 k50 w4_50 t0_99 u_50)
def f7_touches_b94 (k50 : Int32 → Int32 → (Nat → Int32) → Int32 × (Nat → Int32)) (a : Int32) (w3_14 : Int32) (w4_50 : Int32) (u_50 : (Nat → Int32)) (r78 : Int32) : Int32 × (Nat → Int32) :=
  f7_touches_b99 k50 a w3_14 w4_50 u_50 r78 1
def f7_touches_L50 (k14 : Int32 → Int32 → (Nat → Int32) → Int32 × (Nat → Int32)) (a : Int32) (w3_14 : Int32) (n50 : Nat) (w4_50 : Int32) (w2_50 : Int32) (u_50 : (Nat → Int32)) : Int32 × (Nat → Int32) := match n50 with
  | 0 => (0, fun _ => 0)
  | n50 + 1 => bnd (f7_of u_50 a 1) fun r55 => bnd (f7_of u_50 a 8) fun r62 => bnd (f7_rowOf ((r55 + r62) - 1)) fun r68 => if r68 < w4_50 then (bnd (w3_14 + 1) fun v3_137 => k14 v3_137 w2_50 u_50) else (bnd (f7_kindIn u_50 w3_14 w4_50) fun r78 => if w2_50 = 0 then (if r78 = 9 then (f7_touches_b94 (f7_touches_L50 k14 a w3_14 n50) a w3_14 w4_50 u_50 r78) else (f7_touches_b99 (f7_touches_L50 k14 a w3_14 n50) a w3_14 w4_50 u_50 r78 0)) else (f7_touches_b94 (f7_touches_L50 k14 a w3_14 n50) a w3_14 w4_50 u_50 r78))
def f7_touches_L14 (a : Int32) (n14 : Nat) (w3_14 : Int32) (w2_14 : Int32) (u_14 : (Nat → Int32)) : Int32 × (Nat → Int32) := match n14 with
  | 0 => (0, fun _ => 0)
  | n14 + 1 => bnd (f7_of u_14 a 0) fun r18 => bnd (f7_of u_14 a 7) fun r25 => bnd (fJ9_floorDiv ((r18 + r25) - 1) 16) fun r33 => if r33 < w3_14 then ((w2_14, u_14)) else (bnd (f7_of u_14 a 1) fun r42 => bnd (f7_rowOf r42) fun r45 => f7_touches_L50 (f7_touches_L14 a n14) a w3_14 BIG r45 w2_14 u_14)
def f7_touches (u : (Nat → Int32)) (a : Int32) : Int32 × (Nat → Int32) :=
  bnd (f7_of u a 0) fun r5 => bnd (fJ9_floorDiv r5 16) fun r10 => f7_touches_L14 a BIG r10 0 u
def f7_dies_L28 (a : Int32) (n28 : Nat) (w2_28 : Int32) (u_28 : (Nat → Int32)) : (Nat → Int32) := match n28 with
  | 0 => fun _ => 0
  | n28 + 1 => if 6 < w2_28 then (bnd (f7_sets u_28 a 11 0) fun u52 => bnd (f7_adds u52 a 15 1) fun u60 => u60) else (bnd (f7_sets u_28 a w2_28 0) fun u38 => bnd (w2_28 + 1) fun v2_41 => (f7_dies_L28 a n28) v2_41 u38)
def f7_dies (u : (Nat → Int32)) (a : Int32) : (Nat → Int32) :=
  bnd (f7_of u a 12) fun r7 => bnd (f7_sets u a 0 r7) fun u10 => bnd (f7_of u10 a 13) fun r20 => bnd (f7_sets u10 a 1 r20) fun u23 => f7_dies_L28 a BIG 2 u23
def f7_decides_b268 (a : Int32) (r182 : Int32) (w2_231 : Int32) (u_268 : (Nat → Int32)) : Int32 × (Nat → Int32) :=
  if w2_231 = 0 then (bnd (f7_falls u_268 a r182) fun u276 => (w2_231, u276)) else ((w2_231, u_268))
def f7_decides_b231 (a : Int32) (r182 : Int32) (u223 : (Nat → Int32)) (w2_231 : Int32) : Int32 × (Nat → Int32) :=
  bnd (f7_of u223 a 11) fun r235 => if r235 = 1 then (bnd (f7_of u223 a 3) fun r245 => if r245 ≤ 4 then (f7_decides_b268 a r182 w2_231 u223) else (bnd (f7_isPressed u223 a 4) fun r255 => if r255 = 0 then (bnd (f7_sets u223 a 3 4) fun u265 => f7_decides_b268 a r182 w2_231 u265) else (f7_decides_b268 a r182 w2_231 u223))) else (f7_decides_b268 a r182 w2_231 u223)
def f7_decides_b220 (a : Int32) (w2_180 : Int32) (r182 : Int32) (u_220 : (Nat → Int32)) : Int32 × (Nat → Int32) :=
  bnd2 (f7_jumps u_220 a w2_180) fun r223 u223 => if r223 = 0 then (f7_decides_b231 a r182 u223 w2_180) else (f7_decides_b231 a r182 u223 0)
def f7_decides_b180 (a : Int32) (w2_180 : Int32) (u_180 : (Nat → Int32)) : Int32 × (Nat → Int32) :=
  bnd (f7_wayOf u_180 a) fun r182 => if r182 = 0 then (if w2_180 = 0 then (f7_decides_b220 a w2_180 r182 u_180) else (bnd (f7_isOnIce u_180 a) fun r209 => if r209 = 0 then (bnd (f7_slowsDown u_180 a) fun u217 => f7_decides_b220 a w2_180 r182 u217) else (f7_decides_b220 a w2_180 r182 u_180))) else (bnd (f7_speedsUp u_180 a r182 w2_180) fun u197 => f7_decides_b220 a w2_180 r182 u197)
def f7_decides_b127 (a : Int32) (r2 : Int32) (u79 : (Nat → Int32)) (t0_127 : Int32) : Int32 × (Nat → Int32) :=
  if r2 = 0 then (f7_decides_b180 a r2 u79) else (if t0_127 = 0 then (bnd (f7_isPressed u79 a 8) fun r140 => if r140 = 0 then (f7_decides_b180 a r2 u79) else (bnd (f7_of u79 a 5) fun r149 => if r149 ≤ 0 then (f7_decides_b180 a r2 u79) else (bnd (f7_sets u79 a 6 8) fun u161 => bnd (f7_sets u161 a 5 0) fun u168 => bnd (f7_sets u168 a 4 0) fun u175 => f7_decides_b180 a 0 u175))) else (f7_decides_b180 a r2 u79))
def f7_decides_b122 (a : Int32) (r2 : Int32) (u79 : (Nat → Int32)) : Int32 × (Nat → Int32) :=
  f7_decides_b127 a r2 u79 1
def f7_decides_b70 (a : Int32) (r2 : Int32) (u32 : (Nat → Int32)) (t0_70 : Int32) : Int32 × (Nat → Int32) :=
  bnd (f7_counts u32 a 5 (u32 483) t0_70) fun u70 => bnd (f7_counts u70 a 6 0 0) fun u79 => bnd (f7_of u79 a 0) fun r87 => bnd (f7_of u79 a 1) fun r93 => bnd (f7_firmBelow u79 a r87 r93) fun r96 => if r96 = 0 then (bnd (f7_of u79 a 0) fun r107 => bnd (f7_of u79 a 1) fun r113 => bnd (f7_isOnSlope u79 a r107 r113) fun r116 => if r116 = 0 then (f7_decides_b127 a r2 u79 0) else (f7_decides_b122 a r2 u79)) else (f7_decides_b122 a r2 u79)
def f7_decides_b69 (a : Int32) (r2 : Int32) (u32 : (Nat → Int32)) : Int32 × (Nat → Int32) :=
  f7_decides_b70 a r2 u32 0
def f7_decides_b19 (u : (Nat → Int32)) (a : Int32) (r2 : Int32) (t0_19 : Int32) : Int32 × (Nat → Int32) :=
  bnd (f7_adds u a 19 t0_19) fun u19 => bnd (f7_counts u19 a 4 (u19 482) r2) fun u32 => bnd (f7_isPressed u32 a 4) fun r47 => if r47 = 0 then (f7_decides_b69 a r2 u32) else (bnd (f7_of u32 a 10) fun r57 => if (r57 &&& 4) = 0 then (f7_decides_b70 a r2 u32 1) else (f7_decides_b69 a r2 u32))
def f7_decides (u : (Nat → Int32)) (a : Int32) : Int32 × (Nat → Int32) :=
  bnd (f7_doesStand u a) fun r2 => if r2 = 0 then (f7_decides_b19 u a r2 0) else (f7_decides_b19 u a r2 1)
def f7_updates_b177 (a : Int32) (u147 : (Nat → Int32)) : (Nat → Int32) :=
  bnd (f7_of u147 a 1) fun r184 => bnd (f7_sets u147 a 20 r184) fun u187 => u187
def f7_updates_b128 (a : Int32) (u_128 : (Nat → Int32)) : (Nat → Int32) :=
  bnd (f7_of u_128 a 9) fun r136 => bnd (f7_sets u_128 a 10 r136) fun u139 => bnd (f7_adds u139 a 21 1) fun u147 => bnd (f7_of u147 a 21) fun r154 => if r154 = 1 then (f7_updates_b177 a u147) else (bnd (f7_of u147 a 1) fun r164 => bnd (f7_of u147 a 20) fun r171 => if r164 ≤ r171 then (u147) else (f7_updates_b177 a u147))
def f7_updates_b111 (a : Int32) (u_111 : (Nat → Int32)) : (Nat → Int32) :=
  bnd (f7_of u_111 a 3) fun r114 => if 0 < r114 then (f7_updates_b128 a u_111) else (bnd (f7_sets u_111 a 11 0) fun u125 => f7_updates_b128 a u125)
def f7_updates_b106 (a : Int32) (u89 : (Nat → Int32)) : (Nat → Int32) :=
  bnd (f7_dies u89 a) fun u108 => f7_updates_b111 a u108
def f7_updates_b87 (a : Int32) (u_87 : (Nat → Int32)) : (Nat → Int32) :=
  bnd2 (f7_touches u_87 a) fun r89 u89 => if r89 = 0 then (bnd (f7_of u89 a 1) fun r98 => if (-40) ≤ r98 then (f7_updates_b111 a u89) else (f7_updates_b106 a u89)) else (f7_updates_b106 a u89)
def f7_updates_b60 (a : Int32) (u_60 : (Nat → Int32)) : (Nat → Int32) :=
  bnd (f7_goesAcross u_60 a) fun u62 => bnd (f7_of u62 a 3) fun r68 => if r68 ≤ 0 then (bnd (f7_goesDown u62 a) fun u84 => f7_updates_b87 a u84) else (bnd (f7_goesUp u62 a) fun u76 => f7_updates_b87 a u76)
def f7_updates_b43 (a : Int32) (r22 : Int32) (u_43 : (Nat → Int32)) : (Nat → Int32) :=
  if ((r22 >>> (7 &&& 31)) &&& 1) = 1 then (bnd2 (f7_stepsAcross u_43 a (-1)) fun r56 u56 => f7_updates_b60 a u56) else (f7_updates_b60 a u_43)
def f7_updates (u : (Nat → Int32)) (a : Int32) : (Nat → Int32) :=
  bnd2 (f7_decides u a) fun r2 u2 => if r2 = 0 then (f7_updates_b60 a u2) else (bnd (f7_of u2 a 0) fun r13 => bnd (f7_of u2 a 1) fun r19 => bnd (f7_firmBelow u2 a r13 r19) fun r22 => if ((r22 >>> (6 &&& 31)) &&& 1) = 1 then (bnd2 (f7_stepsAcross u2 a 1) fun r39 u39 => f7_updates_b43 a r22 u39) else (f7_updates_b43 a r22 u2))
def f7_goesTick_L106  (n106 : Nat) (w1_106 : Int32) (u_106 : (Nat → Int32)) : (Nat → Int32) := match n106 with
  | 0 => fun _ => 0
  | n106 + 1 => if (u_106 464) ≤ w1_106 then (u_106) else (bnd (f7_updates u_106 w1_106) fun u120 => bnd (w1_106 + 1) fun v1_123 => (f7_goesTick_L106 n106) v1_123 u120)
def f7_goesTick_L81  (n81 : Nat) (w1_81 : Int32) (u_81 : (Nat → Int32)) : (Nat → Int32) := match n81 with
  | 0 => fun _ => 0
  | n81 + 1 => if (u_81 465) ≤ w1_81 then (f7_goesTick_L106 BIG 0 u_81) else (bnd (f7_goesPlatform u_81 w1_81) fun u95 => bnd (w1_81 + 1) fun v1_98 => (f7_goesTick_L81 n81) v1_98 u95)
def f7_goesTick_b72 (k14 : Int32 → (Nat → Int32) → (Nat → Int32)) (w1_14 : Int32) (u_14 : (Nat → Int32)) (t0_72 : Int32) : (Nat → Int32) :=
  bnd (va_up u_14 (484+w1_14.toNatClampNeg) t0_72) fun u72 => bnd (w1_14 + 1) fun v1_73 => k14 v1_73 u72
def f7_goesTick_b71 (k14 : Int32 → (Nat → Int32) → (Nat → Int32)) (w1_14 : Int32) (u_14 : (Nat → Int32)) : (Nat → Int32) :=
  f7_goesTick_b72 k14 w1_14 u_14 (-1)
def f7_goesTick_L14  (n14 : Nat) (w1_14 : Int32) (u_14 : (Nat → Int32)) : (Nat → Int32) := match n14 with
  | 0 => fun _ => 0
  | n14 + 1 => if (u_14 464) ≤ w1_14 then (f7_goesTick_L81 BIG 0 u_14) else (bnd (f7_of u_14 w1_14 3) fun r34 => if 0 < r34 then (f7_goesTick_b71 (f7_goesTick_L14 n14) w1_14 u_14) else (bnd (f7_of u_14 w1_14 6) fun r44 => if r44 = 0 then (bnd (f7_of u_14 w1_14 0) fun r55 => bnd (f7_of u_14 w1_14 1) fun r61 => bnd (f7_platformBelow u_14 w1_14 r55 r61 (-1)) fun r65 => f7_goesTick_b72 (f7_goesTick_L14 n14) w1_14 u_14 r65) else (f7_goesTick_b71 (f7_goesTick_L14 n14) w1_14 u_14)))
def f7_goesTick (u : (Nat → Int32)) : (Nat → Int32) :=
  bnd (va_up u (466) ((u 466) + 1)) fun u11 => f7_goesTick_L14 BIG 0 u11
theorem btw {x lo hi r : Int32} (e : r = f7_isBetween x lo hi) (c : ¬ r = 0) : ¬ x < lo ∧ ¬ hi < x := by
  unfold f7_isBetween at e
  by_cases h1 : x < lo
  · rw [if_pos h1] at e; exact absurd e c
  · rw [if_neg h1] at e
    by_cases h2 : hi < x
    · rw [if_pos h2] at e; exact absurd e c
    · exact ⟨h1, h2⟩
theorem ge0_of {x : Int32} (h : ¬ x < 0) : 0 ≤ x := by
  rw [Int32.lt_iff_toInt_lt] at h
  rw [Int32.le_iff_toInt_le]
  omega
theorem btw_in {x hi r : Int32} {N : Nat} (e : r = f7_isBetween x 0 hi) (c : ¬ r = 0) (h : hi.toInt < N) : vp_in x N := in_le (ge0_of (btw e c).1) (btw e c).2 h
theorem body_in {u : Nat → Int32} {a r : Int32} (h : okW u) (e : r = f7_isBody u a) (c : ¬ r = 0) : vp_in a 4 := by
  unfold f7_isBody at e
  by_cases h1 : a < 0
  · rw [if_pos h1] at e; exact absurd e c
  · rw [if_neg h1] at e
    by_cases h2 : u 464 ≤ a
    · rw [if_pos h2] at e; exact absurd e c
    · exact in_n (ge0_of h1) (nle_lt h2) h.2.1
theorem body_lt {u : Nat → Int32} {a r : Int32} (e : r = f7_isBody u a) (c : ¬ r = 0) : 0 ≤ a.toInt ∧ a.toInt < (u 464).toInt := by
  unfold f7_isBody at e
  by_cases h1 : a < 0
  · rw [if_pos h1] at e; exact absurd e c
  · rw [if_neg h1] at e
    by_cases h2 : u 464 ≤ a
    · rw [if_pos h2] at e; exact absurd e c
    · rw [Int32.lt_iff_toInt_lt, show (0 : Int32).toInt = 0 from rfl] at h1
      rw [Int32.le_iff_toInt_le] at h2
      omega
theorem plat_in {u : Nat → Int32} {a r : Int32} (h : okW u) (e : r = f7_isPlatform u a) (c : ¬ r = 0) : vp_in a 4 := by
  unfold f7_isPlatform at e
  by_cases h1 : a < 0
  · rw [if_pos h1] at e; exact absurd e c
  · rw [if_neg h1] at e
    by_cases h2 : u 465 ≤ a
    · rw [if_pos h2] at e; exact absurd e c
    · exact in_n (ge0_of h1) (nle_lt h2) h.2.2.2
theorem plat_lt {u : Nat → Int32} {a r : Int32} (e : r = f7_isPlatform u a) (c : ¬ r = 0) : 0 ≤ a.toInt ∧ a.toInt < (u 465).toInt := by
  unfold f7_isPlatform at e
  by_cases h1 : a < 0
  · rw [if_pos h1] at e; exact absurd e c
  · rw [if_neg h1] at e
    by_cases h2 : u 465 ≤ a
    · rw [if_pos h2] at e; exact absurd e c
    · rw [Int32.lt_iff_toInt_lt, show (0 : Int32).toInt = 0 from rfl] at h1
      rw [Int32.le_iff_toInt_le] at h2
      omega
theorem tile_in {a b r : Int32} (e : r = f7_isTile a b) (c : ¬ r = 0) : ¬ a < 0 ∧ a < 24 ∧ ¬ b < 0 ∧ b < 14 := by
  unfold f7_isTile at e
  by_cases h1 : a < 0
  · rw [if_pos h1] at e; exact absurd e c
  · rw [if_neg h1] at e
    by_cases h2 : 24 ≤ a
    · rw [if_pos h2] at e; exact absurd e c
    · rw [if_neg h2] at e
      by_cases h3 : b < 0
      · rw [if_pos h3] at e; exact absurd e c
      · rw [if_neg h3] at e
        by_cases h4 : 14 ≤ b
        · rw [if_pos h4] at e; exact absurd e c
        · exact ⟨h1, nle_lt h2, h3, nle_lt h4⟩
theorem tile_vp {a b : Int32} (h : ¬ a < 0 ∧ a < 24 ∧ ¬ b < 0 ∧ b < 14) : vp_in ((24 * b) + a) 480 := in_kidx2 h.1 h.2.1 h.2.2.1 h.2.2.2
theorem tile_lt {a b : Int32} (h : ¬ a < 0 ∧ a < 24 ∧ ¬ b < 0 ∧ b < 14) : ((24 * b) + a).toNatClampNeg < 336 := kindIn_in (u := fun _ => 0) h.1 h.2.1 h.2.2.1 h.2.2.2
theorem okM_far {u u1 : Nat → Int32} (h : okM u) (hw : okW u1) (he : ∀ t, 600 ≤ t → u1 t = u t) : ∀ o, (o = 600 ∨ o = 1100 ∨ ∃ k, k < 12 ∧ o = 2000 + 480 * k) → okW (fun t => u1 (o + t)) := by
  intro o ho
  have ho2 : 600 ≤ o := by
    rcases ho with rfl | rfl | ⟨k, hk, rfl⟩ <;> omega
  have h9 := h.2.2.2.2.2 o ho
  unfold okW at h9 ⊢
  dsimp only at h9 ⊢
  rw [he _ (by omega), he _ (by omega)]
  exact h9
theorem okM_at {u u1 : Nat → Int32} {t : Nat} {x : Int32} (e : u1 = va_up u t x) (h : okM u) (ht : t < 600) (h1 : t = 464 → 0 ≤ x.toInt ∧ x.toInt ≤ 4) (h2 : t = 465 → 0 ≤ x.toInt ∧ x.toInt ≤ 4) (h3 : t = 491 → 0 ≤ x.toInt ∧ x.toInt ≤ 12) (h4 : t = 493 → 0 ≤ x.toInt ∧ x.toInt ≤ 40) (h5 : t = 494 → 0 ≤ x.toInt ∧ x.toInt ≤ 40) (h6 : t = 495 → 0 ≤ x.toInt ∧ x.toInt ≤ 20) : okM u1 := by
  have at_ : ∀ (k : Nat) (lo hi : Int), (t = k → lo ≤ x.toInt ∧ x.toInt ≤ hi) → (lo ≤ (u k).toInt ∧ (u k).toInt ≤ hi) → lo ≤ (u1 k).toInt ∧ (u1 k).toInt ≤ hi := by
    intro k lo hi a b
    by_cases hk : k = t
    · subst hk; rw [e, va_up_self]; exact a rfl
    · rw [e, va_up_ne _ _ hk]; exact b
  have w4 := at_ 464 0 4 h1 ⟨h.1.1, h.1.2.1⟩
  have w5 := at_ 465 0 4 h2 h.1.2.2
  have hw : okW u1 := ⟨w4.1, w4.2, w5.1, w5.2⟩
  exact ⟨hw, at_ 491 0 12 h3 h.2.1, at_ 493 0 40 h4 h.2.2.1, at_ 494 0 40 h5 h.2.2.2.1, at_ 495 0 20 h6 h.2.2.2.2.1, okM_far h hw (fun k hk => by rw [e, va_up_ne _ _ (by omega)])⟩
theorem okM_464 {u u1 : Nat → Int32} {x : Int32} (e : u1 = va_up u 464 x) (h : okM u) (hx : 0 ≤ x.toInt ∧ x.toInt ≤ 4) : okM u1 := okM_at e h (by decide) (fun _ => hx) (fun q => absurd q (by decide)) (fun q => absurd q (by decide)) (fun q => absurd q (by decide)) (fun q => absurd q (by decide)) (fun q => absurd q (by decide))
theorem okM_465 {u u1 : Nat → Int32} {x : Int32} (e : u1 = va_up u 465 x) (h : okM u) (hx : 0 ≤ x.toInt ∧ x.toInt ≤ 4) : okM u1 := okM_at e h (by decide) (fun q => absurd q (by decide)) (fun _ => hx) (fun q => absurd q (by decide)) (fun q => absurd q (by decide)) (fun q => absurd q (by decide)) (fun q => absurd q (by decide))
theorem okM_491 {u u1 : Nat → Int32} {x : Int32} (e : u1 = va_up u 491 x) (h : okM u) (hx : 0 ≤ x.toInt ∧ x.toInt ≤ 12) : okM u1 := okM_at e h (by decide) (fun q => absurd q (by decide)) (fun q => absurd q (by decide)) (fun _ => hx) (fun q => absurd q (by decide)) (fun q => absurd q (by decide)) (fun q => absurd q (by decide))
theorem okM_493 {u u1 : Nat → Int32} {x : Int32} (e : u1 = va_up u 493 x) (h : okM u) (hx : 0 ≤ x.toInt ∧ x.toInt ≤ 40) : okM u1 := okM_at e h (by decide) (fun q => absurd q (by decide)) (fun q => absurd q (by decide)) (fun q => absurd q (by decide)) (fun _ => hx) (fun q => absurd q (by decide)) (fun q => absurd q (by decide))
theorem okM_494 {u u1 : Nat → Int32} {x : Int32} (e : u1 = va_up u 494 x) (h : okM u) (hx : 0 ≤ x.toInt ∧ x.toInt ≤ 40) : okM u1 := okM_at e h (by decide) (fun q => absurd q (by decide)) (fun q => absurd q (by decide)) (fun q => absurd q (by decide)) (fun q => absurd q (by decide)) (fun _ => hx) (fun q => absurd q (by decide))
theorem okM_495 {u u1 : Nat → Int32} {x : Int32} (e : u1 = va_up u 495 x) (h : okM u) (hx : 0 ≤ x.toInt ∧ x.toInt ≤ 20) : okM u1 := okM_at e h (by decide) (fun q => absurd q (by decide)) (fun q => absurd q (by decide)) (fun q => absurd q (by decide)) (fun q => absurd q (by decide)) (fun q => absurd q (by decide)) (fun _ => hx)
theorem sets_ne {u : Nat → Int32} {a b c : Int32} {k : Nat} (ha : vp_in a 4) (hb : vp_in b 24) (hk : k < 336 ∨ 432 ≤ k) : f7_sets u a b c k = u k := by
  unfold f7_sets bnd
  show va_up u (((336 + (24 * a)) + b).toNatClampNeg) c k = u k
  rw [of_ix ha hb, va_up_ne]
  have h1 := in_lt ha
  have h2 := in_lt hb
  omega
theorem setsP_ne {u : Nat → Int32} {a b c : Int32} {k : Nat} (ha : vp_in a 4) (hb : vp_in b 8) (hk : k < 432 ∨ 464 ≤ k) : f7_setsPlate u a b c k = u k := by
  unfold f7_setsPlate bnd
  show va_up u (((432 + (8 * a)) + b).toNatClampNeg) c k = u k
  rw [pl_ix ha hb, va_up_ne]
  have h1 := in_lt ha
  have h2 := in_lt hb
  omega
theorem okM_cpy {u : Nat → Int32} {sp dp : Nat} (h : okM u) (hs : okW (fun t => u (sp + t))) (hd : dp = 0 ∨ dp = 600 ∨ dp = 1100 ∨ ∃ k, k < 12 ∧ dp = 2000 + 480 * k) : okM (va_cpy u u sp dp 480) := by
  have hin : ∀ k, dp ≤ k → k < dp + 480 → va_cpy u u sp dp 480 k = u (sp + (k - dp)) := fun k h1 h2 => pk_cpy_in h1 h2
  have hout : ∀ k, (k < dp ∨ dp + 480 ≤ k) → va_cpy u u sp dp 480 k = u k := fun k h1 => pk_cpy_out h1
  have row : ∀ o, (o = 0 ∨ o = 600 ∨ o = 1100 ∨ ∃ k, k < 12 ∧ o = 2000 + 480 * k) → okW (fun t => u (o + t)) → okW (fun t => va_cpy u u sp dp 480 (o + t)) := by
    intro o ho hq
    by_cases e : o = dp
    · subst e
      unfold okW at hs ⊢
      dsimp only at hs ⊢
      rw [hin _ (by omega) (by omega), hin _ (by omega) (by omega), show o + 464 - o = 464 by omega, show o + 465 - o = 465 by omega]
      exact hs
    · have hf : ∀ t, t < 480 → (o + t < dp ∨ dp + 480 ≤ o + t) := by
        intro t ht
        rcases ho with rfl | rfl | rfl | ⟨k, hk, rfl⟩ <;> rcases hd with rfl | rfl | rfl | ⟨k2, hk2, rfl⟩ <;> omega
      unfold okW at hq ⊢
      dsimp only at hq ⊢
      rw [hout _ (hf 464 (by decide)), hout _ (hf 465 (by decide))]
      exact hq
  have h0 : okW (va_cpy u u sp dp 480) := by
    have h9 := row 0 (Or.inl rfl) (by simpa using h.1)
    simpa using h9
  have mid : ∀ k, 480 ≤ k → k < 600 → va_cpy u u sp dp 480 k = u k := fun k h1 h2 => hout k (by
    rcases hd with rfl | rfl | rfl | ⟨k2, hk2, rfl⟩ <;> omega)
  refine ⟨h0, ?_, ?_, ?_, ?_, fun o ho => row o (Or.inr ho) (h.2.2.2.2.2 o ho)⟩
  · rw [mid 491 (by decide) (by decide)]; exact h.2.1
  · rw [mid 493 (by decide) (by decide)]; exact h.2.2.1
  · rw [mid 494 (by decide) (by decide)]; exact h.2.2.2.1
  · rw [mid 495 (by decide) (by decide)]; exact h.2.2.2.2.1
theorem okM_w0 {u : Nat → Int32} (h : okM u) : okW (fun t => u (0 + t)) := by simpa using h.1
/-- one step of the shift of the kept worlds -/
theorem okM_shift {u u1 : Nat → Int32} {i : Nat} (h : okM u) (hi : i < 5280) (e : u1 = va_up u (2000 + i) (u (2000 + (i + 480)))) : okM u1 := by
  have hl : ∀ k, k < 2000 → u1 k = u k := fun k hk => by rw [e, va_up_ne _ _ (by omega)]
  refine ⟨?_, ?_, ?_, ?_, ?_, fun o ho => ?_⟩
  · have h9 := h.1
    unfold okW at h9 ⊢
    rw [hl 464 (by decide), hl 465 (by decide)]; exact h9
  · rw [hl 491 (by decide)]; exact h.2.1
  · rw [hl 493 (by decide)]; exact h.2.2.1
  · rw [hl 494 (by decide)]; exact h.2.2.2.1
  · rw [hl 495 (by decide)]; exact h.2.2.2.2.1
  · rcases ho with rfl | rfl | ⟨k, hk, rfl⟩
    · have h9 := h.2.2.2.2.2 600 (Or.inl rfl)
      unfold okW at h9 ⊢; dsimp only at h9 ⊢
      rw [hl _ (by decide), hl _ (by decide)]; exact h9
    · have h9 := h.2.2.2.2.2 1100 (Or.inr (Or.inl rfl))
      unfold okW at h9 ⊢; dsimp only at h9 ⊢
      rw [hl _ (by decide), hl _ (by decide)]; exact h9
    · have h9 := h.2.2.2.2.2 (2000 + 480 * k) (Or.inr (Or.inr ⟨k, hk, rfl⟩))
      have at_ : ∀ j, j < 480 → (0 ≤ (u (2000 + 480 * k + j)).toInt ∧ (u (2000 + 480 * k + j)).toInt ≤ 4) → (k + 1 < 12 → 0 ≤ (u (2000 + 480 * (k + 1) + j)).toInt ∧ (u (2000 + 480 * (k + 1) + j)).toInt ≤ 4) → 0 ≤ (u1 (2000 + 480 * k + j)).toInt ∧ (u1 (2000 + 480 * k + j)).toInt ≤ 4 := by
        intro j hj a b
        by_cases q : 2000 + 480 * k + j = 2000 + i
        · rw [q, e, va_up_self, show 2000 + (i + 480) = 2000 + 480 * (k + 1) + j by omega]
          exact b (by omega)
        · rw [e, va_up_ne _ _ q]; exact a
      have nx : ∀ (hk1 : k + 1 < 12), okW (fun t => u (2000 + 480 * (k + 1) + t)) := fun hk1 => h.2.2.2.2.2 _ (Or.inr (Or.inr ⟨k + 1, hk1, rfl⟩))
      have a4 := at_ 464 (by decide) ⟨h9.1, h9.2.1⟩ (fun hk1 => ⟨(nx hk1).1, (nx hk1).2.1⟩)
      have a5 := at_ 465 (by decide) h9.2.2 (fun hk1 => (nx hk1).2.2)
      exact ⟨a4.1, a4.2, a5.1, a5.2⟩
theorem in_add {a v : Int32} {n : Nat} (h0 : 0 ≤ a.toInt) (h1 : a.toInt + 480 ≤ n) (hn : n < 2147483648) (hv : vp_in v 480) : vp_in (a + v) n := by
  have h2 := vp_in_iff.mp hv
  rw [vp_in_iff, Int32.toInt_add, Int.bmod_def]
  split <;> omega
theorem nI_ti {x : Int32} (h : 0 ≤ x.toInt) : x = nI x.toInt.toNat := by
  apply Int32.toInt_inj.mp
  rw [nI_toInt (by have := x.toInt_lt; omega)]
  omega
theorem in_mono {x : Int32} {n N : Nat} (h : vp_in x n) (hn : n ≤ N) : vp_in x N := by
  have h1 := vp_in_iff.mp h
  exact vp_in_iff.mpr ⟨h1.1, by omega⟩
theorem in_480c {x : Int32} (h : vp_in x 5280) : (x + 480).toNatClampNeg = x.toNatClampNeg + 480 := by
  obtain ⟨j, hj, rfl⟩ := vp_in_of h (by decide)
  rw [show (480 : Int32) = nI 480 from rfl, nI_add, nI_clamp (by omega), nI_clamp (by omega)]
theorem in_480 {x : Int32} (h : vp_in x 5280) : vp_in (x + 480) 5760 := by
  obtain ⟨j, hj, rfl⟩ := vp_in_of h (by decide)
  rw [show (480 : Int32) = nI 480 from rfl, nI_add]
  exact vp_in_nI (by omega) (by decide)
theorem ti_sub1 {y : Int32} (h : 0 ≤ y.toInt) : (y - 1).toInt = y.toInt - 1 := by
  have h2 := y.toInt_lt
  rw [Int32.toInt_sub, show (1 : Int32).toInt = 1 from rfl, Int.bmod_def]
  split <;> omega
theorem ti_add1 {y : Int32} (h : y.toInt < 2147483647) : (y + 1).toInt = y.toInt + 1 := by
  have h2 := y.le_toInt
  rw [Int32.toInt_add, show (1 : Int32).toInt = 1 from rfl, Int.bmod_def]
  split <;> omega
theorem kept_11 {u : Nat → Int32} (h : okM u) (c : ¬ u 491 = 12) : (u 491).toInt ≤ 11 := by
  have h1 := h.2.1.2
  have h2 : (u 491).toInt ≠ 12 := fun q => c (Int32.toInt_inj.mp q)
  omega
theorem kept_pos {u : Nat → Int32} (h : okM u) (c : ¬ u 491 = 0) : 1 ≤ (u 491).toInt := by
  have h1 := h.2.1.1
  have h2 : (u 491).toInt ≠ 0 := fun q => c (Int32.toInt_inj.mp q)
  omega
theorem kept_dec {y : Int32} (h : 1 ≤ y.toInt) (h2 : y.toInt ≤ 12) : 0 ≤ (y - 1).toInt ∧ (y - 1).toInt ≤ 11 := by
  rw [ti_sub1 (by omega)]; omega
theorem kept_inc {y : Int32} (h : 0 ≤ y.toInt) (h2 : y.toInt ≤ 11) : 0 ≤ (y + 1).toInt ∧ (y + 1).toInt ≤ 12 := by
  rw [ti_add1 (by omega)]; omega
theorem k480t {x : Int32} (h0 : 0 ≤ x.toInt) (h1 : x.toInt ≤ 11) : (480 * x).toInt = 480 * x.toInt := by
  rw [Int32.toInt_mul, show (480 : Int32).toInt = 480 from rfl, Int.bmod_def]
  split <;> omega
theorem k480 {x : Int32} (h0 : 0 ≤ x.toInt) (h1 : x.toInt ≤ 11) : 0 ≤ (480 * x).toInt ∧ (480 * x).toInt + 480 ≤ ((5760 : Nat) : Int) ∧ 5760 < 2147483648 := by
  rw [k480t h0 h1]
  refine ⟨by omega, by omega, by decide⟩
theorem c480 : 0 ≤ (0 : Int32).toInt ∧ (0 : Int32).toInt + 480 ≤ ((480 : Nat) : Int) ∧ 480 < 2147483648 := ⟨by decide, by decide, by decide⟩
theorem cnt_in {x y : Int32} (h0 : 0 ≤ y.toInt) (h4 : y.toInt ≤ 4) (e : x = y) (c : ¬ x = 4) : vp_in x 4 := by
  subst e
  have h2 : x.toInt ≠ 4 := fun q => c (Int32.toInt_inj.mp q)
  exact vp_in_iff.mpr ⟨h0, by omega⟩
theorem cnt_inc {x : Int32} (h : vp_in x 4) : 0 ≤ (x + 1).toInt ∧ (x + 1).toInt ≤ 4 := by
  have h1 := vp_in_iff.mp h
  rw [ti_add1 (by omega)]; omega
theorem cnt_dec {a y : Int32} (h : 0 ≤ a.toInt ∧ a.toInt < y.toInt) (h4 : y.toInt ≤ 4) : 0 ≤ (y - 1).toInt ∧ (y - 1).toInt ≤ 3 := by
  rw [ti_sub1 (by omega)]; omega
theorem le34 {x : Int32} (h : 0 ≤ x.toInt ∧ x.toInt ≤ 3) : 0 ≤ x.toInt ∧ x.toInt ≤ 4 := ⟨h.1, by omega⟩
theorem in_ge0 {x : Int32} {n : Nat} (h : vp_in x n) : 0 ≤ x := by
  have h1 := vp_in_iff.mp h
  rw [Int32.le_iff_toInt_le]; exact h1.1
theorem in_succ {x n : Int32} (h0 : 0 ≤ x) (h : x < n) (hn : n.toInt ≤ 3) : vp_in (x + 1) 4 := by
  rw [Int32.le_iff_toInt_le, show (0 : Int32).toInt = 0 from rfl] at h0
  have h1 := t_inc h
  rw [Int32.lt_iff_toInt_lt] at h
  rw [vp_in_iff, h1]
  omega
theorem stat_in {b r : Int32} (e : r = f7_isBetween b 0 6) (c : ¬ r = 0) : vp_in (14 + b) 24 := by
  have h1 : vp_in b 7 := btw_in e c (by decide)
  obtain ⟨j, hj, rfl⟩ := vp_in_of h1 (by decide)
  rw [show (14 : Int32) = nI 14 from rfl, nI_add]
  exact vp_in_nI (by omega) (by decide)
theorem at_in {u : Nat → Int32} {a : Int32} (h : okM u) (c : u 494 < a) (hn : 0 ≤ a.toInt ∧ a.toInt ≤ 40) : vp_in (u 494) 40 := by
  rw [Int32.lt_iff_toInt_lt] at c
  have h1 := h.2.2.2.1.1
  exact vp_in_iff.mpr ⟨h1, by omega⟩
theorem at_inc {x : Int32} (h : vp_in x 40) : 0 ≤ (x + 1).toInt ∧ (x + 1).toInt ≤ 40 := by
  have h1 := vp_in_iff.mp h
  rw [ti_add1 (by omega)]; omega
theorem len_in {u : Nat → Int32} (h : okM u) (c : ¬ u 493 = 40) : vp_in (u 493) 40 := by
  have h1 := h.2.2.1
  have h2 : (u 493).toInt ≠ 40 := fun q => c (Int32.toInt_inj.mp q)
  exact vp_in_iff.mpr ⟨h1.1, by omega⟩
theorem cmd_in {x : Int32} {u : Nat → Int32} (h0 : 0 ≤ x) (c : x < u 495) (h : okM u) : vp_in x 20 := in_n h0 c h.2.2.2.2.1.2
theorem rt_ti {a b v w : Int32} (ht : ¬ a < 0 ∧ a < 24 ∧ ¬ b < 0 ∧ b < 14) (c : v ≤ 24 - a) (hw : 0 ≤ w) (hv : w < v) : 0 ≤ (((24 * b) + a) + w).toInt ∧ (((24 * b) + a) + w).toInt < 336 ∧ (((24 * b) + a) + w).toInt = 24 * b.toInt + a.toInt + w.toInt ∧ 0 ≤ a.toInt + w.toInt ∧ a.toInt + w.toInt < 24 := by
  obtain ⟨h1, h2, h3, h4⟩ := ht
  rw [Int32.lt_iff_toInt_lt] at h1 h2 h3 h4 hv
  rw [Int32.le_iff_toInt_le] at c hw
  rw [show (0 : Int32).toInt = 0 from rfl] at h1 h3 hw
  rw [show (24 : Int32).toInt = 24 from rfl] at h2
  rw [show (14 : Int32).toInt = 14 from rfl] at h4
  have e0 : (24 - a).toInt = 24 - a.toInt := by
    rw [Int32.toInt_sub, show (24 : Int32).toInt = 24 from rfl, Int.bmod_def]; split <;> omega
  rw [e0] at c
  have e1 : (24 * b.toInt).bmod (2 ^ 32) = 24 * b.toInt := by rw [Int.bmod_def]; split <;> omega
  have e2 : (24 * b.toInt + a.toInt).bmod (2 ^ 32) = 24 * b.toInt + a.toInt := by rw [Int.bmod_def]; split <;> omega
  have e3 : (24 * b.toInt + a.toInt + w.toInt).bmod (2 ^ 32) = 24 * b.toInt + a.toInt + w.toInt := by rw [Int.bmod_def]; split <;> omega
  rw [Int32.toInt_add, Int32.toInt_add, Int32.toInt_mul, show (24 : Int32).toInt = 24 from rfl, e1, e2, e3]
  omega
theorem rt_in {a b v w : Int32} (ht : ¬ a < 0 ∧ a < 24 ∧ ¬ b < 0 ∧ b < 14) (c : v ≤ 24 - a) (hw : 0 ≤ w) (hv : w < v) : vp_in (((24 * b) + a) + w) 480 := by
  have h := rt_ti ht c hw hv
  exact vp_in_iff.mpr ⟨h.1, by omega⟩
theorem rt_lt {a b v w : Int32} (ht : ¬ a < 0 ∧ a < 24 ∧ ¬ b < 0 ∧ b < 14) (c : v ≤ 24 - a) (hw : 0 ≤ w) (hv : w < v) : (((24 * b) + a) + w).toNatClampNeg < 336 := by
  have h := rt_ti ht c hw hv
  show (((24 * b) + a) + w).toInt.toNat < 336
  omega
theorem of_nI {u : Nat → Int32} {i k : Nat} (hi : i < 4) (hk : k < 24) : f7_of u (nI i) (nI k) = u (336 + 24 * i + k) := by
  show u (((336 + (24 * nI i)) + nI k).toNatClampNeg) = _
  rw [of_ix (vp_in_nI hi (by decide)) (vp_in_nI hk (by decide)), nI_clamp (by omega), nI_clamp (by omega)]
theorem of_c {u : Nat → Int32} {a : Int32} {k : Nat} (ha : vp_in a 4) (hk : k < 24) : f7_of u a (nI k) = u (336 + 24 * a.toNatClampNeg + k) := by
  show u (((336 + (24 * a)) + nI k).toNatClampNeg) = _
  rw [of_ix ha (vp_in_nI hk (by decide)), nI_clamp (by omega)]
theorem adds_c {u : Nat → Int32} {a c : Int32} {k : Nat} (ha : vp_in a 4) (hk : k < 24) : f7_adds u a (nI k) c = va_up u (336 + 24 * a.toNatClampNeg + k) (u (336 + 24 * a.toNatClampNeg + k) + c) := by
  show va_up u (((336 + (24 * a)) + nI k).toNatClampNeg) (u (((336 + (24 * a)) + nI k).toNatClampNeg) + c) = _
  rw [of_ix ha (vp_in_nI hk (by decide)), nI_clamp (by omega)]
theorem sets_c {u : Nat → Int32} {a c : Int32} {k : Nat} (ha : vp_in a 4) (hk : k < 24) : f7_sets u a (nI k) c = va_up u (336 + 24 * a.toNatClampNeg + k) c := by
  show va_up u (((336 + (24 * a)) + nI k).toNatClampNeg) c = _
  rw [of_ix ha (vp_in_nI hk (by decide)), nI_clamp (by omega)]
theorem down_y {u z : Nat → Int32} {a r : Int32} (ha : vp_in a 4) (e : (r, z) = f7_movesDown u a) (c : ¬ r = 0) : f7_of z a 1 = f7_of u a 1 + (-1) := by
  unfold f7_movesDown at e
  simp only [bnd] at e
  by_cases h : f7_supportOf u a = 0
  · rw [if_pos h] at e
    have e2 : z = f7_adds u a 1 (-1) := congrArg Prod.snd e
    rw [e2, show (1 : Int32) = nI 1 from rfl, adds_c ha (by decide), of_c ha (by decide), of_c ha (by decide), va_up_self]
  · rw [if_neg h] at e
    exact absurd (congrArg Prod.fst e) c
theorem drop_dec {u z : Nat → Int32} {a r q : Int32} (ha : vp_in a 4) (e1 : q = f7_of u a 1) (c1 : ¬ q < (-40)) (e : (r, z) = f7_movesDown u a) (c : ¬ r = 0) : ((f7_of z a 1).toInt + 41).toNat < ((f7_of u a 1).toInt + 41).toNat := by
  rw [Int32.lt_iff_toInt_lt, show (-40 : Int32).toInt = -40 from rfl] at c1
  rw [down_y ha e c, ← e1, Int32.toInt_add, show (-1 : Int32).toInt = -1 from rfl, Int.bmod_def]
  have h2 := q.toInt_lt
  split <;> omega
theorem big_41 (x : Int32) : (x.toInt + 41).toNat < BIG := by
  have h1 := x.toInt_lt
  unfold BIG; omega
theorem at_ne {u : Nat → Int32} {a : Int32} (h : okM u) (h94 : (u 494).toInt ≤ a.toInt) (c : ¬ u 494 = a) (hn : 0 ≤ a.toInt ∧ a.toInt ≤ 40) : vp_in (u 494) 40 ∧ (u 494).toInt < a.toInt := by
  have h1 := h.2.2.2.1.1
  have h2 : (u 494).toInt ≠ a.toInt := fun q => c (Int32.toInt_inj.mp q)
  exact ⟨vp_in_iff.mpr ⟨h1, by omega⟩, by omega⟩
theorem cm_ne {x y : Int32} (hx : vp_in x 40) (h : 2 * y.toInt ≤ x.toInt) (h0 : 0 ≤ y.toInt) : vp_in y 20 := by
  have h1 := vp_in_iff.mp hx
  exact vp_in_iff.mpr ⟨h0, by omega⟩
theorem cm_inc {x : Int32} (h : vp_in x 20) : 0 ≤ (x + 1).toInt ∧ (x + 1).toInt ≤ 20 := by
  have h1 := vp_in_iff.mp h
  rw [ti_add1 (by omega)]; omega
theorem ti_inc {x : Int32} {n : Nat} (h : vp_in x n) (hn : n ≤ 1000000) : (x + 1).toInt = x.toInt + 1 := by
  have h1 := vp_in_iff.mp h
  exact ti_add1 (by omega)
theorem ti_inc_lt {x a : Int32} (h : x < a) : (x + 1).toInt = x.toInt + 1 ∧ x.toInt + 1 ≤ a.toInt := by
  refine ⟨t_inc h, ?_⟩
  rw [Int32.lt_iff_toInt_lt] at h
  omega
theorem dec_20 {x y : Int32} (h : vp_in x 20) (e : y = x + 1) : (20 - y.toInt).toNat < (20 - x.toInt).toNat := by
  have h1 := vp_in_iff.mp h
  rw [inc_in h (by decide) e]
  omega
theorem big_20 (x : Int32) : (20 - x.toInt).toNat < BIG := by
  have h2 := x.le_toInt
  unfold BIG; omega
def f7_copies_L3 (oq1 : Nat) (a : Int32) (oq2 : Nat) (b : Int32) (n3 : Nat) (w4_3 : Int32) (u_3 : (Nat → Int32)) : (Nat → Int32) := match n3 with
  | 0 => fun _ => 0
  | n3 + 1 => if 480 ≤ w4_3 then (u_3) else (bnd (va_up u_3 (oq2+(b + w4_3).toNatClampNeg) (u_3 (oq1+(a + w4_3).toNatClampNeg))) fun u22 => bnd (w4_3 + 1) fun v4_23 => (f7_copies_L3 oq1 a oq2 b n3) v4_23 u22)
def f7_copies (u : (Nat → Int32)) (oq1 : Nat) (a : Int32) (oq2 : Nat) (b : Int32) : (Nat → Int32) :=
  f7_copies_L3 oq1 a oq2 b BIG 0 u
theorem copies_L {u0 : Nat → Int32} {o1 o2 A B : Nat} (hA : A + 480 < 2147483648) (hB : B + 480 < 2147483648) (hd : o1 + A + 480 ≤ o2 + B ∨ o2 + B + 480 ≤ o1 + A) :
    ∀ (n k : Nat), k ≤ 480 → 480 - k < n → ∀ u : Nat → Int32, u = va_cpy u0 u0 (o1 + A) (o2 + B) k → f7_copies_L3 o1 (nI A) o2 (nI B) n (nI k) u = va_cpy u0 u0 (o1 + A) (o2 + B) 480 := by
  intro n
  induction n with
  | zero => intro k hk hn; omega
  | succ n ih =>
    intro k hk hn u hu
    rw [f7_copies_L3]
    by_cases hc : k = 480
    · subst hc
      rw [if_pos (show (480 : Int32) ≤ nI 480 from by decide)]
      exact hu
    · have hlt : k < 480 := by omega
      rw [if_neg (show ¬ (480 : Int32) ≤ nI k from fun q => by
        rw [Int32.le_iff_toInt_le, nI_toInt (by omega)] at q
        have h9 : (480 : Int32).toInt = 480 := rfl
        omega)]
      have hc1 : (nI B + nI k).toNatClampNeg = B + k := by rw [nI_add, nI_clamp (by omega)]
      have hc2 : (nI A + nI k).toNatClampNeg = A + k := by rw [nI_add, nI_clamp (by omega)]
      show f7_copies_L3 o1 (nI A) o2 (nI B) n (nI k + 1) (va_up u (o2 + (nI B + nI k).toNatClampNeg) (u (o1 + (nI A + nI k).toNatClampNeg))) = _
      rw [hc1, hc2, nI_1]
      refine ih (k + 1) (by omega) (by omega) _ ?_
      funext t
      have hsrc : u (o1 + (A + k)) = u0 (o1 + (A + k)) := by
        rw [hu]; exact pk_cpy_out (by omega)
      by_cases ht : t = o2 + (B + k)
      · subst ht
        rw [va_up_self, hsrc, pk_cpy_in (by omega) (by omega), show o1 + A + (o2 + (B + k) - (o2 + B)) = o1 + (A + k) by omega]
      · rw [va_up_ne _ _ ht, hu]
        by_cases h1 : o2 + B ≤ t ∧ t < o2 + B + k
        · rw [pk_cpy_in h1.1 h1.2, pk_cpy_in h1.1 (by omega)]
        · rw [pk_cpy_out (by omega), pk_cpy_out (by omega)]
theorem copies_eq {u : Nat → Int32} {o1 o2 A B : Nat} (hA : A + 480 < 2147483648) (hB : B + 480 < 2147483648) (hd : o1 + A + 480 ≤ o2 + B ∨ o2 + B + 480 ≤ o1 + A) : f7_copies u o1 (nI A) o2 (nI B) = va_cpy u u (o1 + A) (o2 + B) 480 := by
  unfold f7_copies
  have h := copies_L (u0 := u) (o1 := o1) (o2 := o2) hA hB hd BIG 0 (by omega) (by unfold BIG; omega) u (by
    funext t; rw [pk_cpy_out (by omega)])
  exact h
theorem cp_ws {u : Nat → Int32} : f7_copies u 0 0 600 0 = va_cpy u u 0 600 480 := copies_eq (A := 0) (B := 0) (by decide) (by decide) (by decide)
theorem cp_sw {u : Nat → Int32} : f7_copies u 600 0 0 0 = va_cpy u u 600 0 480 := copies_eq (A := 0) (B := 0) (by decide) (by decide) (by decide)
theorem cp_wv {u : Nat → Int32} : f7_copies u 0 0 1100 0 = va_cpy u u 0 1100 480 := copies_eq (A := 0) (B := 0) (by decide) (by decide) (by decide)
theorem cp_vw {u : Nat → Int32} : f7_copies u 1100 0 0 0 = va_cpy u u 1100 0 480 := copies_eq (A := 0) (B := 0) (by decide) (by decide) (by decide)
theorem k480n {x : Int32} (h0 : 0 ≤ x.toInt) (h1 : x.toInt ≤ 11) : 480 * x = nI (480 * x.toInt.toNat) := by
  apply Int32.toInt_inj.mp
  rw [k480t h0 h1, nI_toInt (by omega)]
  omega
theorem cp_we {u : Nat → Int32} {x : Int32} (h0 : 0 ≤ x.toInt) (h1 : x.toInt ≤ 11) : f7_copies u 0 0 2000 (480 * x) = va_cpy u u 0 (2000 + 480 * x.toInt.toNat) 480 := by
  rw [k480n h0 h1]
  have h := copies_eq (u := u) (o1 := 0) (o2 := 2000) (A := 0) (B := 480 * x.toInt.toNat) (by decide) (by omega) (by omega)
  exact h
theorem cp_ew {u : Nat → Int32} {x : Int32} (h0 : 0 ≤ x.toInt) (h1 : x.toInt ≤ 11) : f7_copies u 2000 (480 * x) 0 0 = va_cpy u u (2000 + 480 * x.toInt.toNat) 0 480 := by
  rw [k480n h0 h1]
  have h := copies_eq (u := u) (o1 := 2000) (o2 := 0) (A := 480 * x.toInt.toNat) (B := 0) (by omega) (by decide) (by omega)
  exact h
theorem ok_ws {u z : Nat → Int32} (e : z = f7_copies u 0 0 600 0) (h : okM u) : okM z := by rw [e, cp_ws]; exact okM_cpy h (okM_w0 h) (Or.inr (Or.inl rfl))
theorem ok_sw {u z : Nat → Int32} (e : z = f7_copies u 600 0 0 0) (h : okM u) : okM z := by rw [e, cp_sw]; exact okM_cpy h (h.2.2.2.2.2 600 (Or.inl rfl)) (Or.inl rfl)
theorem ok_wv {u z : Nat → Int32} (e : z = f7_copies u 0 0 1100 0) (h : okM u) : okM z := by rw [e, cp_wv]; exact okM_cpy h (okM_w0 h) (Or.inr (Or.inr (Or.inl rfl)))
theorem ok_vw {u z : Nat → Int32} (e : z = f7_copies u 1100 0 0 0) (h : okM u) : okM z := by rw [e, cp_vw]; exact okM_cpy h (h.2.2.2.2.2 1100 (Or.inr (Or.inl rfl))) (Or.inl rfl)
theorem ok_we {u z : Nat → Int32} {x : Int32} (h0 : 0 ≤ x.toInt) (h1 : x.toInt ≤ 11) (e : z = f7_copies u 0 0 2000 (480 * x)) (h : okM u) : okM z := by rw [e, cp_we h0 h1]; exact okM_cpy h (okM_w0 h) (Or.inr (Or.inr (Or.inr ⟨_, by omega, rfl⟩)))
theorem ok_ew {u z : Nat → Int32} {x : Int32} (h0 : 0 ≤ x.toInt) (h1 : x.toInt ≤ 11) (e : z = f7_copies u 2000 (480 * x) 0 0) (h : okM u) : okM z := by rw [e, cp_ew h0 h1]; exact okM_cpy h (h.2.2.2.2.2 _ (Or.inr (Or.inr ⟨_, by omega, rfl⟩))) (Or.inl rfl)
def f7_ticks_b57 (k2 : Int32 → (Nat → Int32) → (Nat → Int32)) (w2_2 : Int32) (u_57 : (Nat → Int32)) : (Nat → Int32) :=
  bnd (f7_copies u_57 0 0 2000 (480 * (u_57 491))) fun u74 => bnd (va_up u74 (491) ((u74 491) + 1)) fun u84 => bnd (f7_goesTick u84) fun u88 => bnd (w2_2 + 1) fun v2_91 => k2 v2_91 u88
def f7_ticks_L18 (k2 : Int32 → (Nat → Int32) → (Nat → Int32)) (w2_2 : Int32) (n18 : Nat) (w3_18 : Int32) (u_18 : (Nat → Int32)) : (Nat → Int32) := match n18 with
  | 0 => fun _ => 0
  | n18 + 1 => if 5280 ≤ w3_18 then (bnd (va_up u_18 (491) ((u_18 491) - 1)) fun u54 => f7_ticks_b57 k2 w2_2 u54) else (bnd (va_up u_18 (2000+w3_18.toNatClampNeg) (u_18 (2000+(w3_18 + 480).toNatClampNeg))) fun u40 => bnd (w3_18 + 1) fun v3_41 => (f7_ticks_L18 k2 w2_2 n18) v3_41 u40)
def f7_ticks_L2 (a : Int32) (n2 : Nat) (w2_2 : Int32) (u_2 : (Nat → Int32)) : (Nat → Int32) := match n2 with
  | 0 => fun _ => 0
  | n2 + 1 => if a ≤ w2_2 then (u_2) else (if (u_2 491) = 12 then (f7_ticks_L18 (f7_ticks_L2 a n2) w2_2 BIG 0 u_2) else (f7_ticks_b57 (f7_ticks_L2 a n2) w2_2 u_2))
def f7_ticks (u : (Nat → Int32)) (a : Int32) : (Nat → Int32) :=
  f7_ticks_L2 a BIG 0 u
def f7_tick (u : (Nat → Int32)) (a : Int32) : Int32 × (Nat → Int32) :=
  bnd (f7_isBetween a 1 100) fun r4 => if r4 = 0 then (bnd2 (f7_fails u 1) fun r12 u12 => (r12, u12)) else (bnd (va_up u (490) 0) fun u18 => bnd (f7_ticks u18 a) fun u23 => (u23 466, u23))
def f7_tickUntilStanding_b70 (w3_32 : Int32) (u_32 : (Nat → Int32)) (t0_70 : Int32) : Int32 × (Nat → Int32) :=
  bnd (va_up u_32 (490) t0_70) fun u70 => if (u70 490) = 0 then ((w3_32, u70)) else ((0, u70))
def f7_tickUntilStanding_b56 (a : Int32) (w3_32 : Int32) (u_32 : (Nat → Int32)) : Int32 × (Nat → Int32) :=
  bnd (f7_doesStand u_32 a) fun r59 => if r59 = 0 then (f7_tickUntilStanding_b70 w3_32 u_32 3) else (f7_tickUntilStanding_b70 w3_32 u_32 0)
def f7_tickUntilStanding_L32 (a : Int32) (b : Int32) (n32 : Nat) (w3_32 : Int32) (u_32 : (Nat → Int32)) : Int32 × (Nat → Int32) := match n32 with
  | 0 => (0, fun _ => 0)
  | n32 + 1 => if b ≤ w3_32 then (f7_tickUntilStanding_b56 a w3_32 u_32) else (bnd (f7_doesStand u_32 a) fun r39 => if r39 = 0 then (bnd (f7_ticks u_32 1) fun u47 => bnd (w3_32 + 1) fun v3_50 => (f7_tickUntilStanding_L32 a b n32) v3_50 u47) else (f7_tickUntilStanding_b56 a w3_32 u_32))
def f7_tickUntilStanding (u : (Nat → Int32)) (a : Int32) (b : Int32) : Int32 × (Nat → Int32) :=
  bnd (f7_isBody u a) fun r2 => if r2 = 0 then (bnd2 (f7_fails u 1) fun r10 u10 => (r10, u10)) else (bnd (f7_isBetween b 1 100) fun r18 => if r18 = 0 then (bnd2 (f7_fails u 2) fun r26 u26 => (r26, u26)) else (f7_tickUntilStanding_L32 a b BIG 0 u))
def f7_undo (u : (Nat → Int32)) : Int32 × (Nat → Int32) :=
  if (u 491) = 0 then (bnd2 (f7_fails u 1) fun r9 u9 => (r9, u9)) else (bnd (va_up u (490) 0) fun u15 => bnd (va_up u15 (491) ((u15 491) - 1)) fun u25 => bnd (f7_copies u25 2000 (480 * (u25 491)) 0 0) fun u45 => (u45 466, u45))
def f7_clock (u : (Nat → Int32)) : Int32 × (Nat → Int32) :=
  bnd (va_up u (490) 0) fun u2 => (u2 466, u2)
def f7_isAnyBlocked_L2 (u : (Nat → Int32)) (n2 : Nat) (w1_2 : Int32) : Int32 := match n2 with
  | 0 => 0
  | n2 + 1 => if (u 464) ≤ w1_2 then (0) else (bnd (f7_of u w1_2 0) fun r19 => bnd (f7_of u w1_2 1) fun r25 => bnd (f7_blocks u w1_2 r19 r25) fun r28 => if r28 = 0 then (bnd (w1_2 + 1) fun v1_36 => (f7_isAnyBlocked_L2 u n2) v1_36) else (1))
def f7_isAnyBlocked (u : (Nat → Int32)) : Int32 :=
  f7_isAnyBlocked_L2 u BIG 0
def f7_setTile (u : (Nat → Int32)) (a : Int32) (b : Int32) (c1 : Int32) : Int32 × (Nat → Int32) :=
  bnd (f7_isTile a b) fun r2 => if r2 = 0 then (bnd2 (f7_fails u 1) fun r10 u10 => (r10, u10)) else (bnd (f7_isBetween c1 0 10) fun r18 => if r18 = 0 then (bnd2 (f7_fails u 2) fun r26 u26 => (r26, u26)) else (bnd (((24 * b) + a)) fun v4_36 => bnd (u v4_36.toNatClampNeg) fun v5_45 => bnd (va_up u (v4_36.toNatClampNeg) c1) fun u54 => bnd (f7_isAnyBlocked u54) fun r56 => if r56 = 0 then (bnd (va_up u54 (490) 0) fun u79 => bnd (va_up u79 (491) 0) fun u84 => (v5_45, u84)) else (bnd (va_up u54 (v4_36.toNatClampNeg) v5_45) fun u70 => bnd2 (f7_fails u70 3) fun r73 u73 => (r73, u73))))
def f7_tile (u : (Nat → Int32)) (a : Int32) (b : Int32) : Int32 × (Nat → Int32) :=
  bnd (f7_isTile a b) fun r2 => if r2 = 0 then (bnd2 (f7_fails u 1) fun r10 u10 => (r10, u10)) else (bnd (va_up u (490) 0) fun u16 => (u16 (((24 * b) + a).toNatClampNeg), u16))
def f7_addBody_L74 (a : Int32) (b : Int32) (c1 : Int32) (d : Int32) (v5_57 : Int32) (n74 : Nat) (w6_74 : Int32) (u_74 : (Nat → Int32)) : Int32 × (Nat → Int32) := match n74 with
  | 0 => (0, fun _ => 0)
  | n74 + 1 => if 24 ≤ w6_74 then (bnd (f7_sets u_74 v5_57 7 c1) fun u102 => bnd (f7_sets u102 v5_57 8 d) fun u112 => bnd (f7_blocks u112 v5_57 a b) fun r120 => if r120 = 0 then (bnd (va_up u112 (490) 0) fun u134 => bnd (va_up u134 (491) 0) fun u139 => bnd (f7_sets u139 v5_57 0 a) fun u147 => bnd (f7_sets u147 v5_57 1 b) fun u155 => bnd (f7_sets u155 v5_57 12 a) fun u164 => bnd (f7_sets u164 v5_57 13 b) fun u173 => bnd (f7_sets u173 v5_57 20 b) fun u182 => bnd (va_up u182 (464) ((u182 464) + 1)) fun u196 => (v5_57, u196)) else (bnd2 (f7_fails u112 2) fun r128 u128 => (r128, u128))) else (bnd (f7_sets u_74 v5_57 w6_74 0) fun u87 => bnd (w6_74 + 1) fun v6_90 => (f7_addBody_L74 a b c1 d v5_57 n74) v6_90 u87)
def f7_addBody (u : (Nat → Int32)) (a : Int32) (b : Int32) (c1 : Int32) (d : Int32) : Int32 × (Nat → Int32) :=
  bnd (f7_isBetween a 0 383) fun r5 => if r5 = 0 then (bnd2 (f7_fails u 1) fun r45 u45 => (r45, u45)) else (bnd (f7_isBetween b 0 223) fun r16 => if r16 = 0 then (bnd2 (f7_fails u 1) fun r45 u45 => (r45, u45)) else (bnd (f7_isBetween c1 4 16) fun r26 => if r26 = 0 then (bnd2 (f7_fails u 1) fun r45 u45 => (r45, u45)) else (bnd (f7_isBetween d 4 28) fun r37 => if r37 = 0 then (bnd2 (f7_fails u 1) fun r45 u45 => (r45, u45)) else (bnd (u 464) fun v5_57 => if v5_57 = 4 then (bnd2 (f7_fails u 2) fun r67 u67 => (r67, u67)) else (f7_addBody_L74 a b c1 d v5_57 BIG 0 u)))))
def f7_removeBody_L52 (k38 : Int32 → (Nat → Int32) → Int32 × (Nat → Int32)) (w2_38 : Int32) (n52 : Nat) (w3_52 : Int32) (u_52 : (Nat → Int32)) : Int32 × (Nat → Int32) := match n52 with
  | 0 => (0, fun _ => 0)
  | n52 + 1 => if 24 ≤ w3_52 then (bnd (w2_38 + 1) fun v2_78 => k38 v2_78 u_52) else (bnd (f7_of u_52 (w2_38 + 1) w3_52) fun r66 => bnd (f7_sets u_52 w2_38 w3_52 r66) fun u69 => bnd (w3_52 + 1) fun v3_72 => (f7_removeBody_L52 k38 w2_38 n52) v3_72 u69)
def f7_removeBody_L38  (n38 : Nat) (w2_38 : Int32) (u_38 : (Nat → Int32)) : Int32 × (Nat → Int32) := match n38 with
  | 0 => (0, fun _ => 0)
  | n38 + 1 => if (u_38 464) ≤ w2_38 then ((u_38 464, u_38)) else (f7_removeBody_L52 (f7_removeBody_L38 n38) w2_38 BIG 0 u_38)
def f7_removeBody (u : (Nat → Int32)) (a : Int32) : Int32 × (Nat → Int32) :=
  bnd (f7_isBody u a) fun r2 => if r2 = 0 then (bnd2 (f7_fails u 1) fun r10 u10 => (r10, u10)) else (bnd (va_up u (490) 0) fun u16 => bnd (va_up u16 (491) 0) fun u21 => bnd (va_up u21 (464) ((u21 464) - 1)) fun u35 => f7_removeBody_L38 BIG a u35)
def f7_body (u : (Nat → Int32)) (a : Int32) (b : Int32) : Int32 × (Nat → Int32) :=
  bnd (f7_isBody u a) fun r2 => if r2 = 0 then (bnd2 (f7_fails u 1) fun r10 u10 => (r10, u10)) else (bnd (f7_isBetween b 0 9) fun r18 => if r18 = 0 then (bnd2 (f7_fails u 2) fun r26 u26 => (r26, u26)) else (bnd (va_up u (490) 0) fun u32 => bnd (f7_of u32 a b) fun r38 => (r38, u32)))
def f7_press (u : (Nat → Int32)) (a : Int32) (b : Int32) : Int32 × (Nat → Int32) :=
  bnd (f7_isBody u a) fun r2 => if r2 = 0 then (bnd2 (f7_fails u 1) fun r10 u10 => (r10, u10)) else (bnd (f7_isBetween b 0 15) fun r18 => if r18 = 0 then (bnd2 (f7_fails u 2) fun r26 u26 => (r26, u26)) else (bnd (va_up u (490) 0) fun u32 => bnd (f7_of u32 a 9) fun r39 => bnd (f7_sets u32 a 9 b) fun u48 => (r39, u48)))
def f7_push (u : (Nat → Int32)) (a : Int32) (b : Int32) (c1 : Int32) : Int32 × (Nat → Int32) :=
  bnd (f7_isBody u a) fun r2 => if r2 = 0 then (bnd2 (f7_fails u 1) fun r10 u10 => (r10, u10)) else (bnd (f7_isBetween b (-16) 16) fun r19 => if r19 = 0 then (bnd2 (f7_fails u 2) fun r38 u38 => (r38, u38)) else (bnd (f7_isBetween c1 (-12) 16) fun r30 => if r30 = 0 then (bnd2 (f7_fails u 2) fun r38 u38 => (r38, u38)) else (bnd (va_up u (490) 0) fun u44 => bnd (f7_of u44 a 2) fun r50 => bnd (f7_of u44 a 2) fun r56 => bnd (f7_of u44 a 3) fun r63 => bnd (f7_of u44 a 3) fun r69 => bnd (((r50 * r56) + (r63 * r69))) fun v4_74 => bnd (f7_sets u44 a 2 b) fun u80 => bnd (f7_sets u80 a 3 c1) fun u87 => bnd (f7_sets u87 a 11 0) fun u95 => (v4_74, u95))))
def f7_addPlatform (u : (Nat → Int32)) (a : Int32) (b : Int32) (c1 : Int32) (d : Int32) (e1 : Int32) (f1 : Int32) : Int32 × (Nat → Int32) :=
  bnd (f7_isBetween a 0 383) fun r5 => if r5 = 0 then (bnd2 (f7_fails u 1) fun r68 u68 => (r68, u68)) else (bnd (f7_isBetween b 0 223) fun r16 => if r16 = 0 then (bnd2 (f7_fails u 1) fun r68 u68 => (r68, u68)) else (bnd (f7_isBetween c1 16 64) fun r27 => if r27 = 0 then (bnd2 (f7_fails u 1) fun r68 u68 => (r68, u68)) else (bnd (f7_isBetween d (-2) 2) fun r38 => if r38 = 0 then (bnd2 (f7_fails u 1) fun r68 u68 => (r68, u68)) else (bnd (f7_isBetween e1 (-2) 2) fun r49 => if r49 = 0 then (bnd2 (f7_fails u 1) fun r68 u68 => (r68, u68)) else (bnd (f7_isBetween f1 1 60) fun r60 => if r60 = 0 then (bnd2 (f7_fails u 1) fun r68 u68 => (r68, u68)) else (bnd (u 465) fun v7_80 => if v7_80 = 4 then (bnd2 (f7_fails u 2) fun r90 u90 => (r90, u90)) else (bnd (va_up u (490) 0) fun u96 => bnd (va_up u96 (491) 0) fun u101 => bnd (f7_setsPlate u101 v7_80 0 a) fun u109 => bnd (f7_setsPlate u109 v7_80 1 b) fun u117 => bnd (f7_setsPlate u117 v7_80 2 c1) fun u125 => bnd (f7_setsPlate u125 v7_80 3 d) fun u134 => bnd (f7_setsPlate u134 v7_80 4 e1) fun u143 => bnd (f7_setsPlate u143 v7_80 5 f1) fun u152 => bnd (f7_setsPlate u152 v7_80 6 f1) fun u162 => bnd (va_up u162 (465) ((u162 465) + 1)) fun u176 => (v7_80, u176))))))))
def f7_removePlatform_L52 (k38 : Int32 → (Nat → Int32) → Int32 × (Nat → Int32)) (w2_38 : Int32) (n52 : Nat) (w3_52 : Int32) (u_52 : (Nat → Int32)) : Int32 × (Nat → Int32) := match n52 with
  | 0 => (0, fun _ => 0)
  | n52 + 1 => if 8 ≤ w3_52 then (bnd (w2_38 + 1) fun v2_78 => k38 v2_78 u_52) else (bnd (f7_plate u_52 (w2_38 + 1) w3_52) fun r66 => bnd (f7_setsPlate u_52 w2_38 w3_52 r66) fun u69 => bnd (w3_52 + 1) fun v3_72 => (f7_removePlatform_L52 k38 w2_38 n52) v3_72 u69)
def f7_removePlatform_L38  (n38 : Nat) (w2_38 : Int32) (u_38 : (Nat → Int32)) : Int32 × (Nat → Int32) := match n38 with
  | 0 => (0, fun _ => 0)
  | n38 + 1 => if (u_38 465) ≤ w2_38 then ((u_38 465, u_38)) else (f7_removePlatform_L52 (f7_removePlatform_L38 n38) w2_38 BIG 0 u_38)
def f7_removePlatform (u : (Nat → Int32)) (a : Int32) : Int32 × (Nat → Int32) :=
  bnd (f7_isPlatform u a) fun r2 => if r2 = 0 then (bnd2 (f7_fails u 1) fun r10 u10 => (r10, u10)) else (bnd (va_up u (490) 0) fun u16 => bnd (va_up u16 (491) 0) fun u21 => bnd (va_up u21 (465) ((u21 465) - 1)) fun u35 => f7_removePlatform_L38 BIG a u35)
def f7_platform (u : (Nat → Int32)) (a : Int32) (b : Int32) : Int32 × (Nat → Int32) :=
  bnd (f7_isPlatform u a) fun r2 => if r2 = 0 then (bnd2 (f7_fails u 1) fun r10 u10 => (r10, u10)) else (bnd (f7_isBetween b 0 5) fun r17 => if r17 = 0 then (bnd2 (f7_fails u 2) fun r25 u25 => (r25, u25)) else (bnd (va_up u (490) 0) fun u31 => bnd (f7_plate u31 a b) fun r37 => (r37, u31)))
def f7_count_b99 (k53 : Int32 → Int32 → Int32 × (Nat → Int32)) (w3_53 : Int32) (w2_53 : Int32) (t0_99 : Int32) : Int32 × (Nat → Int32) :=
  bnd ((w2_53 + t0_99)) fun v2_100 => bnd (w3_53 + 1) fun v3_101 => k53 v3_101 v2_100
def f7_count_L53 (a : Int32) (u17 : (Nat → Int32)) (n53 : Nat) (w3_53 : Int32) (w2_53 : Int32) : Int32 × (Nat → Int32) := match n53 with
  | 0 => (0, fun _ => 0)
  | n53 + 1 => if 336 ≤ w3_53 then ((w2_53, u17)) else (if a = 2 then (if (u17 w3_53.toNatClampNeg) = 0 then (f7_count_b99 (f7_count_L53 a u17 n53) w3_53 w2_53 0) else (f7_count_b99 (f7_count_L53 a u17 n53) w3_53 w2_53 1)) else (if (u17 w3_53.toNatClampNeg) = 10 then (f7_count_b99 (f7_count_L53 a u17 n53) w3_53 w2_53 1) else (f7_count_b99 (f7_count_L53 a u17 n53) w3_53 w2_53 0)))
def f7_count (u : (Nat → Int32)) (a : Int32) : Int32 × (Nat → Int32) :=
  bnd (f7_isBetween a 0 3) fun r3 => if r3 = 0 then (bnd2 (f7_fails u 1) fun r11 u11 => (r11, u11)) else (bnd (va_up u (490) 0) fun u17 => if 2 ≤ a then (f7_count_L53 a u17 BIG 0 0) else (if a = 0 then ((u17 464, u17)) else ((u17 465, u17))))
def f7_isSetting (a : Int32) (b : Int32) : Int32 :=
  if a = 0 then (bnd (f7_isBetween b 1 10) fun r8 => r8) else (if a = 1 then (bnd (f7_isBetween b 5 16) fun r23 => r23) else (if a = 2 then (bnd (f7_isBetween b 0 10) fun r38 => r38) else (bnd (f7_isBetween b 1 10) fun r48 => r48)))
def f7_set (u : (Nat → Int32)) (a : Int32) (b : Int32) : Int32 × (Nat → Int32) :=
  bnd (f7_isBetween a 0 3) fun r3 => if r3 = 0 then (bnd2 (f7_fails u 1) fun r11 u11 => (r11, u11)) else (bnd (f7_isSetting a b) fun r17 => if r17 = 0 then (bnd2 (f7_fails u 2) fun r25 u25 => (r25, u25)) else (bnd (va_up u (490) 0) fun u31 => bnd (u31 (480+a.toNatClampNeg)) fun v3_40 => bnd (va_up u31 (480+a.toNatClampNeg) b) fun u47 => (v3_40, u47)))
def f7_support (u : (Nat → Int32)) (a : Int32) : Int32 × (Nat → Int32) :=
  bnd (f7_isBody u a) fun r2 => if r2 = 0 then (bnd2 (f7_fails u 1) fun r10 u10 => (r10, u10)) else (bnd (va_up u (490) 0) fun u16 => bnd (f7_supportOf u16 a) fun r21 => (r21, u16))
def f7_stands (u : (Nat → Int32)) (a : Int32) : Int32 × (Nat → Int32) :=
  bnd (f7_isBody u a) fun r2 => if r2 = 0 then (bnd2 (f7_refuses u 1) fun r10 u10 => (r10, u10)) else (bnd (va_up u (490) 0) fun u16 => bnd (f7_doesStand u16 a) fun r21 => (r21, u16))
def f7_below (u : (Nat → Int32)) (a : Int32) : Int32 × (Nat → Int32) :=
  bnd (f7_isBody u a) fun r2 => if r2 = 0 then (bnd2 (f7_fails u 1) fun r10 u10 => (r10, u10)) else (bnd (va_up u (490) 0) fun u16 => bnd (f7_of u16 a 0) fun r24 => bnd (f7_of u16 a 1) fun r30 => bnd (f7_firmBelow u16 a r24 r30) fun r33 => (r33, u16))
def f7_isBlocked (u : (Nat → Int32)) (a : Int32) (b : Int32) (c1 : Int32) : Int32 × (Nat → Int32) :=
  bnd (f7_isBody u a) fun r2 => if r2 = 0 then (bnd2 (f7_refuses u 1) fun r10 u10 => (r10, u10)) else (bnd (f7_isBetween b (-400) 400) fun r21 => if r21 = 0 then (bnd2 (f7_refuses u 2) fun r42 u42 => (r42, u42)) else (bnd (f7_isBetween c1 (-400) 400) fun r34 => if r34 = 0 then (bnd2 (f7_refuses u 2) fun r42 u42 => (r42, u42)) else (bnd (va_up u (490) 0) fun u48 => bnd (f7_of u48 a 0) fun r56 => bnd (f7_of u48 a 1) fun r64 => bnd (f7_blocks u48 a (r56 + b) (r64 + c1)) fun r69 => (r69, u48))))
def f7_clearance_b76 (a : Int32) (r38 : Int32) (r45 : Int32) (w5_53 : Int32) (u_76 : (Nat → Int32)) : Int32 × (Nat → Int32) :=
  bnd (f7_sets u_76 a 0 r38) fun u80 => bnd (f7_sets u80 a 1 r45) fun u88 => (w5_53, u88)
def f7_clearance_L53 (a : Int32) (b : Int32) (r38 : Int32) (r45 : Int32) (n53 : Nat) (w5_53 : Int32) (u_53 : (Nat → Int32)) : Int32 × (Nat → Int32) := match n53 with
  | 0 => (0, fun _ => 0)
  | n53 + 1 => if 400 ≤ w5_53 then (f7_clearance_b76 a r38 r45 w5_53 u_53) else (bnd2 (f7_movesAcross u_53 a b) fun r64 u64 => if r64 = 0 then (f7_clearance_b76 a r38 r45 w5_53 u64) else (bnd (w5_53 + 1) fun v5_70 => (f7_clearance_L53 a b r38 r45 n53) v5_70 u64))
def f7_clearance_b30 (u : (Nat → Int32)) (a : Int32) (b : Int32) : Int32 × (Nat → Int32) :=
  bnd (va_up u (490) 0) fun u32 => bnd (f7_of u32 a 0) fun r38 => bnd (f7_of u32 a 1) fun r45 => f7_clearance_L53 a b r38 r45 BIG 0 u32
def f7_clearance (u : (Nat → Int32)) (a : Int32) (b : Int32) : Int32 × (Nat → Int32) :=
  bnd (f7_isBody u a) fun r2 => if r2 = 0 then (bnd2 (f7_fails u 1) fun r10 u10 => (r10, u10)) else (if b = (-1) then (f7_clearance_b30 u a b) else (if b = 1 then (f7_clearance_b30 u a b) else (bnd2 (f7_fails u 2) fun r26 u26 => (r26, u26))))
def f7_drop_b69 (a : Int32) (r22 : Int32) (w3_28 : Int32) (u_53 : (Nat → Int32)) (t0_69 : Int32) : Int32 × (Nat → Int32) :=
  bnd (f7_sets u_53 a 1 r22) fun u75 => if t0_69 = 0 then ((w3_28, u75)) else (((-1), u75))
def f7_drop_b53 (a : Int32) (r22 : Int32) (w3_28 : Int32) (u_53 : (Nat → Int32)) : Int32 × (Nat → Int32) :=
  bnd (f7_of u_53 a 1) fun r56 => if (-40) ≤ r56 then (f7_drop_b69 a r22 w3_28 u_53 0) else (f7_drop_b69 a r22 w3_28 u_53 1)
def f7_drop_L28 (a : Int32) (r22 : Int32) (n28 : Nat) (w3_28 : Int32) (u_28 : (Nat → Int32)) : Int32 × (Nat → Int32) := match n28 with
  | 0 => (0, fun _ => 0)
  | n28 + 1 => bnd (f7_of u_28 a 1) fun r31 => if r31 < (-40) then (f7_drop_b53 a r22 w3_28 u_28) else (bnd2 (f7_movesDown u_28 a) fun r41 u41 => if r41 = 0 then (f7_drop_b53 a r22 w3_28 u41) else (bnd (w3_28 + 1) fun v3_47 => (f7_drop_L28 a r22 n28) v3_47 u41))
def f7_drop (u : (Nat → Int32)) (a : Int32) : Int32 × (Nat → Int32) :=
  bnd (f7_isBody u a) fun r2 => if r2 = 0 then (bnd2 (f7_fails u 1) fun r10 u10 => (r10, u10)) else (bnd (va_up u (490) 0) fun u16 => bnd (f7_of u16 a 1) fun r22 => f7_drop_L28 a r22 BIG 0 u16)
def f7_look_b161 (k108 : Int32 → Int32 × (Nat → Int32)) (w3_108 : Int32) : Int32 × (Nat → Int32) :=
  bnd (w3_108 + 1) fun v3_161 => k108 v3_161
def f7_look_L108 (a : Int32) (b : Int32) (u30 : (Nat → Int32)) (n108 : Nat) (w3_108 : Int32) : Int32 × (Nat → Int32) := match n108 with
  | 0 => (0, fun _ => 0)
  | n108 + 1 => if (u30 465) ≤ w3_108 then (bnd (f7_kindAt u30 a b) fun r170 => (r170, u30)) else (bnd (f7_plate u30 w3_108 1) fun r123 => if r123 = (b + 1) then (bnd (f7_plate u30 w3_108 0) fun r136 => bnd (f7_plate u30 w3_108 2) fun r144 => bnd (f7_isBetween (a - r136) 0 (r144 - 1)) fun r149 => if r149 = 0 then (f7_look_b161 (f7_look_L108 a b u30 n108) w3_108) else (((200 + w3_108), u30))) else (f7_look_b161 (f7_look_L108 a b u30 n108) w3_108))
def f7_look_b100 (k35 : Int32 → Int32 × (Nat → Int32)) (w3_35 : Int32) : Int32 × (Nat → Int32) :=
  bnd (w3_35 + 1) fun v3_100 => k35 v3_100
def f7_look_L35 (a : Int32) (b : Int32) (u30 : (Nat → Int32)) (n35 : Nat) (w3_35 : Int32) : Int32 × (Nat → Int32) := match n35 with
  | 0 => (0, fun _ => 0)
  | n35 + 1 => if (u30 464) ≤ w3_35 then (f7_look_L108 a b u30 BIG 0) else (bnd (f7_of u30 w3_35 0) fun r51 => bnd (f7_of u30 w3_35 7) fun r60 => bnd (f7_isBetween (a - r51) 0 (r60 - 1)) fun r65 => if r65 = 0 then (f7_look_b100 (f7_look_L35 a b u30 n35) w3_35) else (bnd (f7_of u30 w3_35 1) fun r75 => bnd (f7_of u30 w3_35 8) fun r84 => bnd (f7_isBetween (b - r75) 0 (r84 - 1)) fun r89 => if r89 = 0 then (f7_look_b100 (f7_look_L35 a b u30 n35) w3_35) else (((100 + w3_35), u30))))
def f7_look (u : (Nat → Int32)) (a : Int32) (b : Int32) : Int32 × (Nat → Int32) :=
  bnd (f7_isBetween a 0 383) fun r5 => if r5 = 0 then (bnd2 (f7_fails u 1) fun r24 u24 => (r24, u24)) else (bnd (f7_isBetween b 0 223) fun r16 => if r16 = 0 then (bnd2 (f7_fails u 1) fun r24 u24 => (r24, u24)) else (bnd (va_up u (490) 0) fun u30 => f7_look_L35 a b u30 BIG 0))
def f7_isFreeCell (u : (Nat → Int32)) (a : Int32) (b : Int32) : Int32 :=
  bnd (f7_kindAt u a b) fun r3 => bnd (f7_isFirm r3) fun r8 => if r8 = 0 then (bnd (f7_isSlope r3) fun r15 => if r15 = 0 then (1) else (bnd (f7_surfaceAt u a b) fun r25 => if b < r25 then (0) else (1))) else (0)
theorem free_x {u : Nat → Int32} {x y r : Int32} (e : r = f7_isFreeCell u x y) (c : ¬ r = 0) : 0 ≤ x.toInt ∧ x.toInt < 384 := by
  have hk : ∀ a : Int32, (a < 0 ∨ 24 ≤ a) → ∀ b, f7_kindIn u a b = 1 := by
    intro a ha b
    unfold f7_kindIn
    by_cases h1 : a < 0
    · rw [if_pos h1]
    · rw [if_neg h1]
      rcases ha with h | h
      · exact absurd h h1
      · rw [if_neg (fun q => by rw [Int32.lt_iff_toInt_lt] at q; rw [Int32.le_iff_toInt_le] at h; omega)]
  have hx : ¬ (fJ9_floorDiv x 16 < 0 ∨ 24 ≤ fJ9_floorDiv x 16) := by
    intro q
    have h1 : f7_kindAt u x y = 1 := by
      unfold f7_kindAt bnd
      exact hk _ q _
    unfold f7_isFreeCell bnd at e
    simp only [h1] at e
    exact absurd e c
  rw [fd16] at hx
  have h2 : (x >>> ((4 : Int32) &&& 31)).toInt = x.toInt / 16 := by
    rw [pk_shr x ((4 : Int32) &&& 31) 4 (by decide), Int.shiftRight_eq_div_pow]; rfl
  rw [Int32.lt_iff_toInt_lt, Int32.le_iff_toInt_le, h2, show (0 : Int32).toInt = 0 from rfl, show (24 : Int32).toInt = 24 from rfl] at hx
  omega
def rayM (d x y : Int32) : Nat := if d = 0 then (400 - x.toInt).toNat else if d = 1 then (400 - y.toInt).toNat else if d = 2 then (x.toInt + 1).toNat else (y.toInt + 1).toNat
def rayX (d : Int32) : Int32 := if d = 0 then 1 else if d = 2 then (-1) else 0
def rayY (d : Int32) : Int32 := if d = 1 then 1 else if d = 3 then (-1) else 0
theorem ti_m1 {y : Int32} (h : 0 ≤ y.toInt) : (y + (-1)).toInt = y.toInt - 1 := by
  have h2 := y.toInt_lt
  rw [Int32.toInt_add, show (-1 : Int32).toInt = -1 from rfl, Int.bmod_def]
  split <;> omega
theorem ray_dec {u : Nat → Int32} {d x y x2 y2 r q : Int32} (hd : vp_in d 4) (ey : q = f7_isBetween y 0 223) (cy : ¬ q = 0) (ex : r = f7_isFreeCell u x y) (cx : ¬ r = 0) (e1 : x2 = x + rayX d) (e2 : y2 = y + rayY d) : rayM d x2 y2 < rayM d x y := by
  have hx := free_x ex cx
  have hy := vp_in_iff.mp (btw_in (N := 224) ey cy (by decide))
  subst e1; subst e2
  obtain ⟨j, hj, rfl⟩ := vp_in_of hd (by decide)
  rcases (show j = 0 ∨ j = 1 ∨ j = 2 ∨ j = 3 by omega) with rfl | rfl | rfl | rfl
  · show (400 - (x + 1).toInt).toNat < (400 - x.toInt).toNat
    rw [ti_add1 (by omega)]; omega
  · show (400 - (y + 1).toInt).toNat < (400 - y.toInt).toNat
    rw [ti_add1 (by omega)]; omega
  · have q : ∀ a b, rayM (nI 2) a b = (a.toInt + 1).toNat := fun a b => by unfold rayM; rw [if_neg (by decide), if_neg (by decide), if_pos (by decide)]
    have q2 : rayX (nI 2) = -1 := by unfold rayX; rw [if_neg (by decide), if_pos (by decide)]
    rw [q, q, q2, ti_m1 (by omega)]; omega
  · have q : ∀ a b, rayM (nI 3) a b = (b.toInt + 1).toNat := fun a b => by unfold rayM; rw [if_neg (by decide), if_neg (by decide), if_neg (by decide)]
    have q2 : rayY (nI 3) = -1 := by unfold rayY; rw [if_neg (by decide), if_pos (by decide)]
    rw [q, q, q2, ti_m1 (by omega)]; omega
theorem big_ray (d x y : Int32) : rayM d x y < BIG := by
  have h1 := x.toInt_lt; have h2 := x.le_toInt; have h3 := y.toInt_lt; have h4 := y.le_toInt
  unfold rayM BIG
  split
  · omega
  · split
    · omega
    · split <;> omega
def f7_ray_b127 (u39 : (Nat → Int32)) (w6_51 : Int32) (w5_51 : Int32) : Int32 × (Nat → Int32) :=
  bnd (f7_isBetween w5_51 0 223) fun r133 => if r133 = 0 then (((-1), u39)) else ((w6_51, u39))
def f7_ray_b118 (k51 : Int32 → Int32 → Int32 → Int32 × (Nat → Int32)) (w6_51 : Int32) (w5_51 : Int32) (v4_95 : Int32) (t0_118 : Int32) : Int32 × (Nat → Int32) :=
  bnd ((w5_51 + t0_118)) fun v5_119 => bnd (w6_51 + 1) fun v6_121 => k51 v6_121 v5_119 v4_95
def f7_ray_b94 (k51 : Int32 → Int32 → Int32 → Int32 × (Nat → Int32)) (c1 : Int32) (w6_51 : Int32) (w5_51 : Int32) (w4_51 : Int32) (t0_94 : Int32) : Int32 × (Nat → Int32) :=
  bnd ((w4_51 + t0_94)) fun v4_95 => if c1 = 1 then (f7_ray_b118 k51 w6_51 w5_51 v4_95 1) else (if c1 = 3 then (f7_ray_b118 k51 w6_51 w5_51 v4_95 (-1)) else (f7_ray_b118 k51 w6_51 w5_51 v4_95 0))
def f7_ray_L51 (c1 : Int32) (u39 : (Nat → Int32)) (n51 : Nat) (w6_51 : Int32) (w5_51 : Int32) (w4_51 : Int32) : Int32 × (Nat → Int32) := match n51 with
  | 0 => (0, fun _ => 0)
  | n51 + 1 => bnd (f7_isBetween w5_51 0 223) fun r57 => if r57 = 0 then (f7_ray_b127 u39 w6_51 w5_51) else (bnd (f7_isFreeCell u39 w4_51 w5_51) fun r68 => if r68 = 0 then (f7_ray_b127 u39 w6_51 w5_51) else (if c1 = 0 then (f7_ray_b94 (f7_ray_L51 c1 u39 n51) c1 w6_51 w5_51 w4_51 1) else (if c1 = 2 then (f7_ray_b94 (f7_ray_L51 c1 u39 n51) c1 w6_51 w5_51 w4_51 (-1)) else (f7_ray_b94 (f7_ray_L51 c1 u39 n51) c1 w6_51 w5_51 w4_51 0))))
def f7_ray (u : (Nat → Int32)) (a : Int32) (b : Int32) (c1 : Int32) : Int32 × (Nat → Int32) :=
  bnd (f7_isBetween a 0 383) fun r5 => if r5 = 0 then (bnd2 (f7_fails u 1) fun r33 u33 => (r33, u33)) else (bnd (f7_isBetween b 0 223) fun r16 => if r16 = 0 then (bnd2 (f7_fails u 1) fun r33 u33 => (r33, u33)) else (bnd (f7_isBetween c1 0 3) fun r25 => if r25 = 0 then (bnd2 (f7_fails u 1) fun r33 u33 => (r33, u33)) else (bnd (va_up u (490) 0) fun u39 => f7_ray_L51 c1 u39 BIG 0 b a)))
def f7_predict_L80 (a : Int32) (c1 : Int32) (d : Int32) (n80 : Nat) (w5_80 : Int32) (u_80 : (Nat → Int32)) : Int32 × (Nat → Int32) := match n80 with
  | 0 => (0, fun _ => 0)
  | n80 + 1 => if c1 ≤ w5_80 then (bnd (f7_of u_80 a d) fun r100 => bnd (f7_copies u_80 600 0 0 0) fun u115 => (r100, u115)) else (bnd (f7_goesTick u_80) fun u87 => bnd (w5_80 + 1) fun v5_90 => (f7_predict_L80 a c1 d n80) v5_90 u87)
def f7_predict (u : (Nat → Int32)) (a : Int32) (b : Int32) (c1 : Int32) (d : Int32) : Int32 × (Nat → Int32) :=
  bnd (f7_isBody u a) fun r2 => if r2 = 0 then (bnd2 (f7_fails u 1) fun r10 u10 => (r10, u10)) else (bnd (f7_isBetween b 0 15) fun r18 => if r18 = 0 then (bnd2 (f7_fails u 2) fun r47 u47 => (r47, u47)) else (bnd (f7_isBetween c1 1 40) fun r28 => if r28 = 0 then (bnd2 (f7_fails u 2) fun r47 u47 => (r47, u47)) else (bnd (f7_isBetween d 0 6) fun r39 => if r39 = 0 then (bnd2 (f7_fails u 2) fun r47 u47 => (r47, u47)) else (bnd (va_up u (490) 0) fun u53 => bnd (f7_copies u53 0 0 600 0) fun u66 => bnd (f7_sets u66 a 9 b) fun u74 => f7_predict_L80 a c1 d BIG 0 u74))))
def f7_apex_b109 (k77 : Int32 → Int32 → (Nat → Int32) → Int32 × (Nat → Int32)) (w5_77 : Int32) (u84 : (Nat → Int32)) (t0_109 : Int32) : Int32 × (Nat → Int32) :=
  bnd (w5_77 + 1) fun v5_111 => k77 v5_111 t0_109 u84
def f7_apex_L77 (a : Int32) (c1 : Int32) (n77 : Nat) (w5_77 : Int32) (w4_77 : Int32) (u_77 : (Nat → Int32)) : Int32 × (Nat → Int32) := match n77 with
  | 0 => (0, fun _ => 0)
  | n77 + 1 => if c1 ≤ w5_77 then (bnd (f7_copies u_77 600 0 0 0) fun u127 => (w4_77, u127)) else (bnd (f7_goesTick u_77) fun u84 => bnd (f7_of u84 a 1) fun r90 => if r90 ≤ w4_77 then (f7_apex_b109 (f7_apex_L77 a c1 n77) w5_77 u84 w4_77) else (bnd (f7_of u84 a 1) fun r101 => f7_apex_b109 (f7_apex_L77 a c1 n77) w5_77 u84 r101))
def f7_apex (u : (Nat → Int32)) (a : Int32) (b : Int32) (c1 : Int32) : Int32 × (Nat → Int32) :=
  bnd (f7_isBody u a) fun r2 => if r2 = 0 then (bnd2 (f7_fails u 1) fun r10 u10 => (r10, u10)) else (bnd (f7_isBetween b 0 15) fun r18 => if r18 = 0 then (bnd2 (f7_fails u 2) fun r36 u36 => (r36, u36)) else (bnd (f7_isBetween c1 1 40) fun r28 => if r28 = 0 then (bnd2 (f7_fails u 2) fun r36 u36 => (r36, u36)) else (bnd (va_up u (490) 0) fun u42 => bnd (f7_copies u42 0 0 600 0) fun u55 => bnd (f7_of u55 a 1) fun r61 => bnd (f7_sets u55 a 9 b) fun u71 => f7_apex_L77 a c1 BIG 0 r61 u71)))
def f7_statistic (u : (Nat → Int32)) (a : Int32) (b : Int32) : Int32 × (Nat → Int32) :=
  bnd (f7_isBody u a) fun r2 => if r2 = 0 then (bnd2 (f7_fails u 1) fun r10 u10 => (r10, u10)) else (bnd (f7_isBetween b 0 6) fun r18 => if r18 = 0 then (bnd2 (f7_fails u 2) fun r26 u26 => (r26, u26)) else (bnd (va_up u (490) 0) fun u32 => bnd (f7_of u32 a (14 + b)) fun r41 => (r41, u32)))
def f7_append_b15 (u : (Nat → Int32)) (a : Int32) (t0_15 : Int32) : (Nat → Int32) :=
  bnd (va_up u (490) t0_15) fun u15 => if (u15 490) ≤ 0 then (bnd (va_up u15 (500+(u15 493).toNatClampNeg) (vp_nar .char a)) fun u35 => bnd (va_up u35 (493) ((u35 493) + 1)) fun u43 => u43) else (u15)
def f7_append (u : (Nat → Int32)) (a : Int32) : (Nat → Int32) :=
  if (u 493) = 40 then (f7_append_b15 u a 1) else (f7_append_b15 u a 0)
def f7_kindOf (a : Int32) : Int32 :=
  if a = 35 then (1) else (if a = 46 then (0) else (if a = 47 then (3) else (if a = 60 then (7) else (if a = 61 then (2) else (if a = 62 then (6) else (if a = 92 then (4) else (if a = 94 then (8) else (if a = 105 then (5) else (if a = 111 then (10) else (if a = 120 then (9) else ((-1))))))))))))
def f7_keysFor (a : Int32) : Int32 :=
  if a = 68 then (12) else (if a = 76 then (5) else (if a = 82 then (6) else (if a = 100 then (8) else (if a = 106 then (4) else (if a = 108 then (1) else (if a = 110 then (0) else (if a = 114 then (2) else ((-1)))))))))
def f7_areTiles_b50 (a : Int32) (u_5 : (Nat → Int32)) : Int32 × (Nat → Int32) :=
  if (u_5 494) ≤ 0 then ((0, u_5)) else (if (u_5 494) = a then ((1, u_5)) else ((0, u_5)))
def f7_areTiles_L5 (a : Int32) (n5 : Nat) (u_5 : (Nat → Int32)) : Int32 × (Nat → Int32) := match n5 with
  | 0 => (0, fun _ => 0)
  | n5 + 1 => if a ≤ (u_5 494) then (f7_areTiles_b50 a u_5) else (if 24 ≤ (u_5 494) then (f7_areTiles_b50 a u_5) else (bnd (f7_kindOf (u_5 (500+(u_5 494).toNatClampNeg))) fun r31 => if r31 < 0 then (f7_areTiles_b50 a u_5) else (bnd (va_up u_5 (494) ((u_5 494) + 1)) fun u44 => (f7_areTiles_L5 a n5) u44)))
def f7_areTiles (u : (Nat → Int32)) (a : Int32) : Int32 × (Nat → Int32) :=
  bnd (va_up u (494) 0) fun u2 => f7_areTiles_L5 a BIG u2
def f7_isDigit (u : (Nat → Int32)) (a : Int32) : Int32 :=
  if a ≤ (u 494) then (0) else (if (u (500+(u 494).toNatClampNeg)) < 48 then (0) else (if 57 < (u (500+(u 494).toNatClampNeg)) then (0) else (1)))
theorem digit_lt {u : Nat → Int32} {a r : Int32} (e : r = f7_isDigit u a) (c : ¬ r = 0) : u 494 < a := by
  unfold f7_isDigit at e
  by_cases h : a ≤ u 494
  · rw [if_pos h] at e; exact absurd e c
  · exact nle_lt h
def f7_readTiles_L89 (a : Int32) (b : Int32) (v3_4 : Int32) (n89 : Nat) (w5_89 : Int32) (u_89 : (Nat → Int32)) : Int32 × (Nat → Int32) := match n89 with
  | 0 => (0, fun _ => 0)
  | n89 + 1 => if v3_4 ≤ w5_89 then (bnd (f7_isAnyBlocked u_89) fun r126 => if r126 = 0 then (bnd (va_up u_89 (490) 0) fun u153 => bnd (va_up u153 (491) 0) fun u158 => (v3_4, u158)) else (bnd (f7_copies u_89 600 0 0 0) fun u142 => bnd2 (f7_fails u142 3) fun r147 u147 => (r147, u147))) else (bnd (f7_kindOf (u_89 (500+w5_89.toNatClampNeg))) fun r115 => bnd (va_up u_89 ((((24 * b) + a) + w5_89).toNatClampNeg) r115) fun u118 => bnd (w5_89 + 1) fun v5_119 => (f7_readTiles_L89 a b v3_4 n89) v5_119 u118)
def f7_readTiles_b45 (a : Int32) (b : Int32) (v3_4 : Int32) (r26 : Int32) (u26 : (Nat → Int32)) (t0_45 : Int32) : Int32 × (Nat → Int32) :=
  bnd (va_up u26 (496) t0_45) fun u45 => if r26 = 0 then (bnd2 (f7_fails u45 2) fun r55 u55 => (r55, u55)) else (if v3_4 ≤ (24 - a) then (bnd (f7_copies u45 0 0 600 0) fun u83 => f7_readTiles_L89 a b v3_4 BIG 0 u83) else (bnd2 (f7_fails u45 3) fun r69 u69 => (r69, u69)))
def f7_readTiles (u : (Nat → Int32)) (a : Int32) (b : Int32) : Int32 × (Nat → Int32) :=
  bnd (u 493) fun v3_4 => bnd (va_up u (493) 0) fun u7 => bnd (f7_isTile a b) fun r12 => if r12 = 0 then (bnd2 (f7_fails u7 1) fun r20 u20 => (r20, u20)) else (bnd2 (f7_areTiles u7 v3_4) fun r26 u26 => if r26 = 0 then (f7_readTiles_b45 a b v3_4 r26 u26 (u26 494)) else (f7_readTiles_b45 a b v3_4 r26 u26 (-1)))
def f7_save_L25  (n25 : Nat) (w1_25 : Int32) (u_25 : (Nat → Int32)) : (Nat → Int32) := match n25 with
  | 0 => fun _ => 0
  | n25 + 1 => if 4 ≤ w1_25 then (u_25) else (bnd (va_up u_25 (580+w1_25.toNatClampNeg) (u_25 (480+w1_25.toNatClampNeg))) fun u41 => bnd (w1_25 + 1) fun v1_42 => (f7_save_L25 n25) v1_42 u41)
def f7_save (u : (Nat → Int32)) : (Nat → Int32) :=
  bnd (va_up u (490) 0) fun u2 => bnd (va_up u2 (492) 1) fun u7 => bnd (f7_copies u7 0 0 1100 0) fun u20 => f7_save_L25 BIG 0 u20
def f7_restore_L44  (n44 : Nat) (w1_44 : Int32) (u_44 : (Nat → Int32)) : (Nat → Int32) := match n44 with
  | 0 => fun _ => 0
  | n44 + 1 => if 4 ≤ w1_44 then (u_44) else (bnd (va_up u_44 (480+w1_44.toNatClampNeg) (u_44 (580+w1_44.toNatClampNeg))) fun u60 => bnd (w1_44 + 1) fun v1_61 => (f7_restore_L44 n44) v1_61 u60)
def f7_restore_b13 (u : (Nat → Int32)) (t0_13 : Int32) : (Nat → Int32) :=
  bnd (va_up u (490) t0_13) fun u13 => if (nb (u13 492)) = 0 then (u13) else (bnd (va_up u13 (491) 0) fun u26 => bnd (f7_copies u26 1100 0 0 0) fun u39 => f7_restore_L44 BIG 0 u39)
def f7_restore (u : (Nat → Int32)) : (Nat → Int32) :=
  if (nb (u 492)) = 0 then (f7_restore_b13 u 1) else (f7_restore_b13 u 0)
def f7_faultPosition (u : (Nat → Int32)) : Int32 × (Nat → Int32) :=
  bnd (va_up u (490) 0) fun u2 => (u2 496, u2)
def f7_areInputs_b159 (k10 : (Nat → Int32) → Int32 × (Nat → Int32)) (a : Int32) (u_159 : (Nat → Int32)) : Int32 × (Nat → Int32) :=
  bnd (va_up u_159 (495) ((u_159 495) + 1)) fun u166 => if (u166 494) < a then (k10 u166) else ((1, u166))
def f7_areInputs_L10 (a : Int32) (n10 : Nat) (u_10 : (Nat → Int32)) : Int32 × (Nat → Int32) := match n10 with
  | 0 => (0, fun _ => 0)
  | n10 + 1 => if (u_10 494) = a then ((0, u_10)) else (bnd (f7_keysFor (u_10 (500+(u_10 494).toNatClampNeg))) fun r27 => if 0 ≤ r27 then (bnd (f7_keysFor (u_10 (500+(u_10 494).toNatClampNeg))) fun r52 => bnd (va_up u_10 (540+(u_10 495).toNatClampNeg) r52) fun u55 => bnd (va_up u55 (494) ((u55 494) + 1)) fun u63 => bnd (f7_isDigit u63 a) fun r68 => if r68 = 0 then ((0, u63)) else (bnd (va_up u63 (560+(u63 495).toNatClampNeg) ((u63 (500+(u63 494).toNatClampNeg)) - 48)) fun u96 => bnd (va_up u96 (494) ((u96 494) + 1)) fun u104 => bnd (f7_isDigit u104 a) fun r109 => if r109 = 0 then (f7_areInputs_b159 (f7_areInputs_L10 a n10) a u104) else (bnd (va_up u104 (560+(u104 495).toNatClampNeg) (((10 * (u104 (560+(u104 495).toNatClampNeg))) + (u104 (500+(u104 494).toNatClampNeg))) - 48)) fun u148 => bnd (va_up u148 (494) ((u148 494) + 1)) fun u156 => f7_areInputs_b159 (f7_areInputs_L10 a n10) a u156))) else ((0, u_10)))
def f7_areInputs (u : (Nat → Int32)) (a : Int32) : Int32 × (Nat → Int32) :=
  bnd (va_up u (494) 0) fun u2 => bnd (va_up u2 (495) 0) fun u7 => f7_areInputs_L10 a BIG u7
def f7_play_L111 (a : Int32) (w4_62 : Int32) (n111 : Nat) (w5_111 : Int32) (u_111 : (Nat → Int32)) : Int32 × (Nat → Int32) := match n111 with
  | 0 => (0, fun _ => 0)
  | n111 + 1 => if (u_111 495) ≤ w5_111 then ((w4_62, u_111)) else (bnd (f7_sets u_111 a 9 (u_111 (540+w5_111.toNatClampNeg))) fun u131 => bnd (f7_ticks u131 (u131 (560+w5_111.toNatClampNeg))) fun u142 => bnd (w5_111 + 1) fun v5_145 => (f7_play_L111 a w4_62 n111) v5_145 u142)
def f7_play_L62 (a : Int32) (u43 : (Nat → Int32)) (n62 : Nat) (w5_62 : Int32) (w4_62 : Int32) : Int32 × (Nat → Int32) := match n62 with
  | 0 => (0, fun _ => 0)
  | n62 + 1 => if (u43 495) ≤ w5_62 then (if w4_62 ≤ 200 then (bnd (va_up u43 (490) 0) fun u105 => f7_play_L111 a w4_62 BIG 0 u105) else (bnd2 (f7_fails u43 3) fun r99 u99 => (r99, u99))) else (bnd ((w4_62 + (u43 (560+w5_62.toNatClampNeg)))) fun v4_81 => bnd (w5_62 + 1) fun v5_83 => (f7_play_L62 a u43 n62) v5_83 v4_81)
def f7_play_b43 (a : Int32) (r26 : Int32) (u26 : (Nat → Int32)) (t0_43 : Int32) : Int32 × (Nat → Int32) :=
  bnd (va_up u26 (496) t0_43) fun u43 => if r26 = 0 then (bnd2 (f7_fails u43 2) fun r52 u52 => (r52, u52)) else (f7_play_L62 a u43 BIG 0 0)
def f7_play (u : (Nat → Int32)) (a : Int32) : Int32 × (Nat → Int32) :=
  bnd (u 493) fun v2_4 => bnd (va_up u (493) 0) fun u7 => bnd (f7_isBody u7 a) fun r12 => if r12 = 0 then (bnd2 (f7_fails u7 1) fun r20 u20 => (r20, u20)) else (bnd2 (f7_areInputs u7 v2_4) fun r26 u26 => if r26 = 0 then (f7_play_b43 a r26 u26 (u26 494)) else (f7_play_b43 a r26 u26 (-1)))
