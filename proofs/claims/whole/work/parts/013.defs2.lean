def XL : List (Nat × String) := [(97, "there are 4 bodies"), (116, "the body is blocked there"), (147, "there are 4 platforms"), (170, "no such setting"), (195, "the body does not stand yet"), (201, "no world is kept"), (247, "no tick has passed"), (254, "the buffer is full"), (263, "more signs than columns left"), (276, "more than 200 ticks"), (294, "there is no snapshot"), (298, "an argument or a text is out of range"), (304, "no such tile"), (306, "no such body"), (308, "no such platform"), (314, "a body would be blocked")]
def XD : List String := ["java/lang/RuntimeException", "java/lang/Exception", Bundle.tN]
def sLen : List Nat := [11, 8]
def sByt : List (List Int32) := [[46, 35, 61, 47, 92, 105, 62, 60, 94, 120, 111], [110, 108, 114, 106, 100, 76, 82, 68]]
def leS (j : Nat) : Int32 := ([1, 5, 0, 1] : List Int32).getD j 0
def grS (j : Nat) : Int32 := ([10, 16, 10, 10] : List Int32).getD j 0
def keyS (j : Nat) : Int32 := ([0, 1, 2, 4, 8, 5, 6, 12] : List Int32).getD j 0
/-- what a method that may throw leaves: its value or the name of what it threw, and the memory -/
abbrev RT : Type := (Int32 ⊕ String) × (Nat → Nat → Int32)
def bndx (x : RT) (k : Int32 → (Nat → Nat → Int32) → RT) : RT := match x.1 with
  | .inl r => k r x.2
  | .inr e => (.inr e, x.2)
theorem bndx_s {x : RT} {r : Int32} {u : Nat → Nat → Int32} {k : Int32 → (Nat → Nat → Int32) → RT} {F : RT} (hp : ((.inl r, u) : RT) = x) (hF : bndx x k = F) : k r u = F := by subst hp; exact hF
theorem bndx_x {x : RT} {E : String} {u : Nat → Nat → Int32} {k : Int32 → (Nat → Nat → Int32) → RT} {F : RT} (hp : ((.inr E, u) : RT) = x) (hF : bndx x k = F) : ((.inr E, u) : RT) = F := by subst hp; exact hF
abbrev XEs : List String := ["java/lang/IllegalArgumentException", "java/lang/IndexOutOfBoundsException", "java/lang/IllegalStateException", "java/util/NoSuchElementException", "java/lang/ArithmeticException", "java/lang/UnsupportedOperationException"]
def f6_require (σ : (Nat → Nat → Int32)) (a : Int32) : RT :=
  if a = 0 then (((Sum.inr "java/lang/IllegalArgumentException", σ) : RT)) else (((Sum.inl 0, σ) : RT))
def f6_requireTile (σ : (Nat → Nat → Int32)) (a : Int32) (b : Int32) : RT :=
  bnd (f6_isTile a b) fun r2 => if r2 = 0 then (((Sum.inr "java/lang/IndexOutOfBoundsException", σ) : RT)) else (((Sum.inl 0, σ) : RT))
def f6_requireBody (σ : (Nat → Nat → Int32)) (a : Int32) : RT :=
  bnd (f6_isWithin a 0 ((σ 0 464) - 1)) fun r11 => if r11 = 0 then (((Sum.inr "java/lang/IndexOutOfBoundsException", σ) : RT)) else (((Sum.inl 0, σ) : RT))
theorem rt_inl {r : Int32} {σ σ1 : Nat → Nat → Int32} (h : ((Sum.inl r, σ1) : RT) = (Sum.inl 0, σ)) : σ1 = σ := congrArg Prod.snd h
theorem rt_no {r : Int32} {E : String} {σ σ1 : Nat → Nat → Int32} (h : ((Sum.inl r, σ1) : RT) = (Sum.inr E, σ)) : False := by
  have h1 := congrArg Prod.fst h
  cases h1
theorem in_cnt {a n : Int32} (h0 : 0 ≤ n.toInt) (h4 : n.toInt ≤ 4) (h2 : ¬ a < 0) (h3 : ¬ n - 1 < a) : vp_in a 4 := by
  rw [Int32.lt_iff_toInt_lt] at h2 h3
  rw [Int32.toInt_sub, show (1 : Int32).toInt = 1 from rfl, Int.bmod_def] at h3
  rw [show (0 : Int32).toInt = 0 from rfl] at h2
  refine vp_in_iff.mpr ⟨by omega, ?_⟩
  split at h3 <;> omega
theorem in_body {σ σ1 : Nat → Nat → Int32} {a : Int32} (hO : okS σ1) (h : ((Sum.inl 0, σ1) : RT) = f6_requireBody σ a) : vp_in a 4 := by
  unfold f6_requireBody bnd at h
  rcases isWithin_cases a 0 (σ 0 464 - 1) with ⟨h1, h2⟩ | ⟨h1, h2, h3⟩
  · rw [h1] at h; exact (rt_no h).elim
  · rw [h1] at h
    have h5 := rt_inl h
    subst h5
    have hw := hO.1 0 (by decide)
    exact in_cnt hw.1 hw.2.1 h2 h3
def f6_requirePlatform (σ : (Nat → Nat → Int32)) (a : Int32) : RT :=
  bnd (f6_isWithin a 0 ((σ 0 465) - 1)) fun r11 => if r11 = 0 then (((Sum.inr "java/lang/IndexOutOfBoundsException", σ) : RT)) else (((Sum.inl 0, σ) : RT))
theorem in_plat {σ σ1 : Nat → Nat → Int32} {a : Int32} (hO : okS σ1) (h : ((Sum.inl 0, σ1) : RT) = f6_requirePlatform σ a) : vp_in a 4 := by
  unfold f6_requirePlatform bnd at h
  rcases isWithin_cases a 0 (σ 0 465 - 1) with ⟨h1, h2⟩ | ⟨h1, h2, h3⟩
  · rw [h1] at h; exact (rt_no h).elim
  · rw [h1] at h
    have h5 := rt_inl h
    subst h5
    have hw := hO.1 0 (by decide)
    exact in_cnt hw.2.2.1 hw.2.2.2 h2 h3
theorem in_w7 {r b : Int32} (e : r = f6_isWithin b 0 6) {σ σ1 : Nat → Nat → Int32} (h : ((Sum.inl 0, σ1) : RT) = f6_require σ r) : vp_in b 7 := by
  rcases isWithin_cases b 0 6 with ⟨h1, h2⟩ | ⟨h1, h2, h3⟩
  · rw [e, h1] at h; exact (rt_no h).elim
  · rw [Int32.lt_iff_toInt_lt] at h2 h3
    rw [show (0 : Int32).toInt = 0 from rfl] at h2
    rw [show (6 : Int32).toInt = 6 from rfl] at h3
    exact vp_in_iff.mpr ⟨by omega, by omega⟩
theorem dec_d40 {x y : Int32} (h : ¬ x < -40) (e : y = x + -1) : (y.toInt + 41).toNat < (x.toInt + 41).toNat := by
  subst e
  have h1 := x.le_toInt
  have h2 := x.toInt_lt
  rw [Int32.lt_iff_toInt_lt, show ((-40 : Int32)).toInt = -40 from rfl] at h
  rw [Int32.toInt_add, show ((-1 : Int32)).toInt = -1 from rfl, Int.bmod_def]
  split <;> omega
theorem big_d40 (x : Int32) : (x.toInt + 41).toNat < BIG := by
  have h2 := x.toInt_lt
  unfold BIG; omega
def f6_tile (σ : (Nat → Nat → Int32)) (a : Int32) (b : Int32) : RT :=
  bndx (f6_requireTile σ a b) fun _ σ2 => bnd (f4_kindAt (σ2 0) a b) fun r14 => ((Sum.inl r14, σ2) : RT)
def f6_body (σ : (Nat → Nat → Int32)) (a : Int32) (b : Int32) : RT :=
  bndx (f6_requireBody σ a) fun _ σ2 => bnd (f6_isWithin b 0 9) fun r9 => bndx (f6_require σ2 r9) fun _ σ12 => bnd (f0_number (σ12 0) a.toNatClampNeg b) fun r25 => ((Sum.inl r25, σ12) : RT)
def f6_platform (σ : (Nat → Nat → Int32)) (a : Int32) (b : Int32) : RT :=
  bndx (f6_requirePlatform σ a) fun _ σ2 => bnd (f6_isWithin b 0 5) fun r8 => bndx (f6_require σ2 r8) fun _ σ11 => bnd (f2_number (σ11 0) a.toNatClampNeg b) fun r24 => ((Sum.inl r24, σ11) : RT)
def f6_count (σ : (Nat → Nat → Int32)) (a : Int32) : RT :=
  bnd (f6_isWithin a 0 3) fun r3 => bndx (f6_require σ r3) fun _ σ6 => if a = 0 then (((Sum.inl (σ6 0 464), σ6) : RT)) else (if a = 1 then (((Sum.inl (σ6 0 465), σ6) : RT)) else (if a = 2 then (bnd (f4_countOf (σ6 0) 0) fun r63 => ((Sum.inl (336 - r63), σ6) : RT)) else (bnd (f4_countOf (σ6 0) 10) fun r77 => ((Sum.inl r77, σ6) : RT))))
def f6_statistic (σ : (Nat → Nat → Int32)) (a : Int32) (b : Int32) : RT :=
  bndx (f6_requireBody σ a) fun _ σ2 => bnd (f6_isWithin b 0 6) fun r9 => bndx (f6_require σ2 r9) fun _ σ12 => ((Sum.inl (σ12 0 (336+24*a.toNatClampNeg+14+b.toNatClampNeg)), σ12) : RT)
def f6_support (σ : (Nat → Nat → Int32)) (a : Int32) : RT :=
  bndx (f6_requireBody σ a) fun _ σ2 => bnd (f5_supportAt (σ2 0) a.toNatClampNeg (σ2 0 (336+24*a.toNatClampNeg+0)) (σ2 0 (336+24*a.toNatClampNeg+1)) (-1)) fun r29 => ((Sum.inl r29, σ2) : RT)
def f6_stands (σ : (Nat → Nat → Int32)) (a : Int32) : RT :=
  bndx (f6_requireBody σ a) fun _ σ2 => bnd (f5_isStanding (σ2 0) a.toNatClampNeg) fun r18 => ((Sum.inl r18, σ2) : RT)
def f6_below (σ : (Nat → Nat → Int32)) (a : Int32) : RT :=
  bndx (f6_requireBody σ a) fun _ σ2 => bnd (f4_firmKindsBelow (σ2 0) a.toNatClampNeg (σ2 0 (336+24*a.toNatClampNeg+0)) (σ2 0 (336+24*a.toNatClampNeg+1))) fun r31 => ((Sum.inl r31, σ2) : RT)
def f6_isBlocked_b36 (a : Int32) (b : Int32) (c1 : Int32) (σ2 : (Nat → Nat → Int32)) (t0_36 : Int32) : RT :=
  bndx (f6_require σ2 t0_36) fun _ σ36 => bnd (f4_block (σ36 0) a.toNatClampNeg ((σ36 0 (336+24*a.toNatClampNeg+0)) + b) ((σ36 0 (336+24*a.toNatClampNeg+1)) + c1)) fun r73 => ((Sum.inl r73, σ36) : RT)
def f6_isBlocked_b35 (a : Int32) (b : Int32) (c1 : Int32) (σ2 : (Nat → Nat → Int32)) : RT :=
  f6_isBlocked_b36 a b c1 σ2 0
def f6_isBlocked (σ : (Nat → Nat → Int32)) (a : Int32) (b : Int32) (c1 : Int32) : RT :=
  bndx (f6_requireBody σ a) fun _ σ2 => bnd (f6_isWithin b (-400) 400) fun r12 => if r12 = 0 then (f6_isBlocked_b35 a b c1 σ2) else (bnd (f6_isWithin c1 (-400) 400) fun r25 => if r25 = 0 then (f6_isBlocked_b35 a b c1 σ2) else (f6_isBlocked_b36 a b c1 σ2 1))
def f6_drop_L20 (a : Int32) (σ2 : (Nat → Nat → Int32)) (n20 : Nat) (w3_20 : Int32) : RT := match n20 with
  | 0 => ((Sum.inl 0, fun _ _ => 0) : RT)
  | n20 + 1 => if w3_20 < (-40) then (((Sum.inl (-1), σ2) : RT)) else (bnd (f5_supportAt (σ2 0) a.toNatClampNeg (σ2 0 (336+24*a.toNatClampNeg+0)) w3_20 (-1)) fun r37 => if r37 = 0 then (bnd (w3_20 + (-1)) fun v3_50 => (f6_drop_L20 a σ2 n20) v3_50) else (((Sum.inl ((σ2 0 (336+24*a.toNatClampNeg+1)) - w3_20), σ2) : RT)))
def f6_drop (σ : (Nat → Nat → Int32)) (a : Int32) : RT :=
  bndx (f6_requireBody σ a) fun _ σ2 => bnd (σ2 0 (336+24*a.toNatClampNeg+1)) fun v3_19 => f6_drop_L20 a σ2 BIG v3_19
def f6_look_L73 (a : Int32) (b : Int32) (σ27 : (Nat → Nat → Int32)) (n73 : Nat) (w3_73 : Int32) : RT := match n73 with
  | 0 => ((Sum.inl 0, fun _ _ => 0) : RT)
  | n73 + 1 => if (σ27 0 465) ≤ w3_73 then (bnd (f4_kindAt (σ27 0) (a >>> (4 &&& 31)) (b >>> (4 &&& 31))) fun r126 => ((Sum.inl r126, σ27) : RT)) else (bnd (f2_isTopOf (σ27 0) w3_73.toNatClampNeg a b) fun r95 => if r95 = 0 then (bnd (w3_73 + 1) fun v3_107 => (f6_look_L73 a b σ27 n73) v3_107) else (((Sum.inl (200 + w3_73), σ27) : RT)))
def f6_look_L32 (a : Int32) (b : Int32) (σ27 : (Nat → Nat → Int32)) (n32 : Nat) (w3_32 : Int32) : RT := match n32 with
  | 0 => ((Sum.inl 0, fun _ _ => 0) : RT)
  | n32 + 1 => if (σ27 0 464) ≤ w3_32 then (f6_look_L73 a b σ27 BIG 0) else (bnd (f0_covers (σ27 0) w3_32.toNatClampNeg a b) fun r54 => if r54 = 0 then (bnd (w3_32 + 1) fun v3_65 => (f6_look_L32 a b σ27 n32) v3_65) else (((Sum.inl (100 + w3_32), σ27) : RT)))
def f6_look_b27 (σ : (Nat → Nat → Int32)) (a : Int32) (b : Int32) (t0_27 : Int32) : RT :=
  bndx (f6_require σ t0_27) fun _ σ27 => f6_look_L32 a b σ27 BIG 0
def f6_look_b26 (σ : (Nat → Nat → Int32)) (a : Int32) (b : Int32) : RT :=
  f6_look_b27 σ a b 0
def f6_look (σ : (Nat → Nat → Int32)) (a : Int32) (b : Int32) : RT :=
  bnd (f6_isWithin a 0 383) fun r5 => if r5 = 0 then (f6_look_b26 σ a b) else (bnd (f6_isWithin b 0 223) fun r16 => if r16 = 0 then (f6_look_b26 σ a b) else (f6_look_b27 σ a b 1))
def f6_ray_L83 (a : Int32) (b : Int32) (σ36 : (Nat → Nat → Int32)) (t0_57 : Int32) (t0_78 : Int32) (n83 : Nat) (w6_83 : Int32) : RT := match n83 with
  | 0 => ((Sum.inl 0, fun _ _ => 0) : RT)
  | n83 + 1 => if 400 ≤ w6_83 then (((Sum.inl (-1), σ36) : RT)) else (bnd ((b + (w6_83 * t0_78))) fun v7_98 => bnd (f6_isWithin v7_98 0 223) fun r106 => if r106 = 0 then (((Sum.inl (-1), σ36) : RT)) else (bnd (f4_isFree (σ36 0) (a + (w6_83 * t0_57)) v7_98) fun r130 => if r130 = 0 then (((Sum.inl w6_83, σ36) : RT)) else (bnd (w6_83 + 1) fun v6_139 => (f6_ray_L83 a b σ36 t0_57 t0_78 n83) v6_139)))
def f6_ray_b78 (a : Int32) (b : Int32) (σ36 : (Nat → Nat → Int32)) (t0_57 : Int32) (t0_78 : Int32) : RT :=
  f6_ray_L83 a b σ36 t0_57 t0_78 BIG 0
def f6_ray_b57 (a : Int32) (b : Int32) (c1 : Int32) (σ36 : (Nat → Nat → Int32)) (t0_57 : Int32) : RT :=
  if c1 = 1 then (f6_ray_b78 a b σ36 t0_57 1) else (if c1 = 3 then (f6_ray_b78 a b σ36 t0_57 (-1)) else (f6_ray_b78 a b σ36 t0_57 0))
def f6_ray_b27 (σ : (Nat → Nat → Int32)) (a : Int32) (b : Int32) (c1 : Int32) (t0_27 : Int32) : RT :=
  bndx (f6_require σ t0_27) fun _ σ27 => bnd (f6_isWithin c1 0 3) fun r33 => bndx (f6_require σ27 r33) fun _ σ36 => if c1 = 0 then (f6_ray_b57 a b c1 σ36 1) else (if c1 = 2 then (f6_ray_b57 a b c1 σ36 (-1)) else (f6_ray_b57 a b c1 σ36 0))
def f6_ray_b26 (σ : (Nat → Nat → Int32)) (a : Int32) (b : Int32) (c1 : Int32) : RT :=
  f6_ray_b27 σ a b c1 0
def f6_ray (σ : (Nat → Nat → Int32)) (a : Int32) (b : Int32) (c1 : Int32) : RT :=
  bnd (f6_isWithin a 0 383) fun r5 => if r5 = 0 then (f6_ray_b26 σ a b c1) else (bnd (f6_isWithin b 0 223) fun r16 => if r16 = 0 then (f6_ray_b26 σ a b c1) else (f6_ray_b27 σ a b c1 1))
def f6_press (σ : (Nat → Nat → Int32)) (a : Int32) (b : Int32) : RT :=
  bndx (f6_requireBody σ a) fun _ σ2 => bnd (f6_isWithin b 0 15) fun r9 => bndx (f6_require σ2 r9) fun _ σ12 => bnd (σ12 0 (336+24*a.toNatClampNeg+9)) fun v3_27 => bnd (va_up σ12 0 (va_up (σ12 0) (336+24*a.toNatClampNeg+9) b)) fun σ38 => ((Sum.inl v3_27, σ38) : RT)
def f6_push_b32 (a : Int32) (b : Int32) (c1 : Int32) (σ2 : (Nat → Nat → Int32)) (t0_32 : Int32) : RT :=
  bndx (f6_require σ2 t0_32) fun _ σ32 => bnd ((((σ32 0 (336+24*a.toNatClampNeg+2)) * (σ32 0 (336+24*a.toNatClampNeg+2))) + ((σ32 0 (336+24*a.toNatClampNeg+3)) * (σ32 0 (336+24*a.toNatClampNeg+3))))) fun v5_69 => bnd (va_up σ32 0 (va_up (σ32 0) (336+24*a.toNatClampNeg+2) b)) fun σ74 => bnd (va_up σ74 0 (va_up (σ74 0) (336+24*a.toNatClampNeg+3) c1)) fun σ80 => bnd (va_up σ80 0 (va_up (σ80 0) (336+24*a.toNatClampNeg+11) 0)) fun σ86 => ((Sum.inl v5_69, σ86) : RT)
def f6_push_b31 (a : Int32) (b : Int32) (c1 : Int32) (σ2 : (Nat → Nat → Int32)) : RT :=
  f6_push_b32 a b c1 σ2 0
def f6_push (σ : (Nat → Nat → Int32)) (a : Int32) (b : Int32) (c1 : Int32) : RT :=
  bndx (f6_requireBody σ a) fun _ σ2 => bnd (f6_isWithin b (-16) 16) fun r10 => if r10 = 0 then (f6_push_b31 a b c1 σ2) else (bnd (f6_isWithin c1 (-12) 16) fun r21 => if r21 = 0 then (f6_push_b31 a b c1 σ2) else (f6_push_b32 a b c1 σ2 1))
def cpw (v : Nat → Int32) (o o2 n : Nat) (u : Nat → Int32) : Nat → Int32 := fun t => if o ≤ t ∧ t < o + n then v (o2 + (t - o)) else u t
theorem cpw_in {v u : Nat → Int32} {o o2 n k : Nat} (h : k < n) : cpw v o o2 n u (o + k) = v (o2 + k) := by
  unfold cpw
  rw [if_pos ⟨by omega, by omega⟩, show o + k - o = k by omega]
theorem cpw_out {v u : Nat → Int32} {o o2 n t : Nat} (h : t < o ∨ o + n ≤ t) : cpw v o o2 n u t = u t := by
  unfold cpw
  rw [if_neg (by omega)]
theorem tr_cpw {v u : Nat → Int32} {o o2 n : Nat} : va_cpy (tr n o2 v) (tr n o u) 0 0 n = tr n o (cpw v o o2 n u) := by
  funext k
  by_cases h : k < n
  · rw [tr_at h, cpw_in h]
    simp [va_cpy, h, tr]
  · simp [va_cpy, h, tr]
theorem okW_cpw {v u : Nat → Int32} {o o2 n : Nat} (h : okW u) (hn : o + n ≤ 464) : okW (cpw v o o2 n u) := by
  unfold okW
  rw [cpw_out (Or.inr hn), cpw_out (Or.inr (by omega))]
  exact h
theorem okC_cpw {v u : Nat → Int32} {o o2 n : Nat} (h : okC u) (ho : 6 ≤ o) : okC (cpw v o o2 n u) := by
  unfold okC
  rw [cpw_out (Or.inl (by omega)), cpw_out (Or.inl (by omega)), cpw_out (Or.inl (by omega)), cpw_out (Or.inl (by omega))]
  exact h
theorem bnd_p {α β : Type} {P : β → Prop} {x : α} {k : α → β} (Pm : α → Prop) (h : Pm x) (hk : ∀ y, Pm y → P (k y)) : P (bnd x k) := hk x h
theorem upk {s : Nat → Nat → Int32} {w t t1 : Nat} {x c : Int32} (h : s w t = c) (hne : t ≠ t1) : va_up s w (va_up (s w) t1 x) w t = c := by
  rw [va_up_self, va_up_ne _ _ hne]
  exact h
theorem uprk {u : Nat → Int32} {t t1 : Nat} {x c : Int32} (h : u t = c) (hne : t ≠ t1) : va_up u t1 x t = c := by
  rw [va_up_ne _ _ hne]
  exact h
theorem in_nx {x n : Int32} (h : vp_in x 4) (hlt : x + 1 < n) (hn : n.toInt ≤ 4) : vp_in (x + 1) 4 := by
  obtain ⟨h1, h2⟩ := vp_in_iff.mp h
  rw [Int32.lt_iff_toInt_lt] at hlt
  refine vp_in_iff.mpr ⟨?_, by omega⟩
  rw [Int32.toInt_add, show (1 : Int32).toInt = 1 from rfl, Int.bmod_def]
  split <;> omega
theorem okW_dec {u : Nat → Int32} (h : okW u) {t : Nat} (ht : t = 464 ∨ t = 465) (h1 : 1 ≤ (u t).toInt) : okW (va_up u t (u t - 1)) := by
  have h2 : (u t).toInt ≤ 4 := by
    rcases ht with rfl | rfl
    · exact h.2.1
    · exact h.2.2.2
  have h3 : (u t - 1).toInt = (u t).toInt - 1 := by
    rw [Int32.toInt_sub, show (1 : Int32).toInt = 1 from rfl, Int.bmod_def]
    split <;> omega
  rcases ht with rfl | rfl
  · unfold okW
    rw [va_up_self, va_up_ne _ _ (by decide), h3]
    exact ⟨by omega, by omega, h.2.2.1, h.2.2.2⟩
  · unfold okW
    rw [va_up_self, va_up_ne _ _ (by decide), h3]
    exact ⟨h.1, h.2.1, by omega, by omega⟩
theorem okW_cnt {u : Nat → Int32} (h : okW u) {t : Nat} {x : Int32} (ht : t = 464 ∨ t = 465) (h0 : 0 ≤ x.toInt) (h1 : x.toInt ≤ 4) : okW (va_up u t x) := by
  rcases ht with rfl | rfl
  · unfold okW
    rw [va_up_self, va_up_ne _ _ (by decide)]
    exact ⟨h0, h1, h.2.2.1, h.2.2.2⟩
  · unfold okW
    rw [va_up_self, va_up_ne _ _ (by decide)]
    exact ⟨h.1, h.2.1, h0, h1⟩
theorem okC_2 {u : Nat → Int32} {x : Int32} (h : okC u) (h0 : 0 ≤ x.toInt) (h1 : x.toInt ≤ 12) : okC (va_up u 2 x) := by
  unfold okC
  rw [va_up_self, va_up_ne _ _ (by decide), va_up_ne _ _ (by decide), va_up_ne _ _ (by decide)]
  exact ⟨⟨h0, h1⟩, h.2⟩
theorem okC_3 {u : Nat → Int32} {x : Int32} (h : okC u) (h0 : 0 ≤ x.toInt) (h1 : x.toInt < 12) : okC (va_up u 3 x) := by
  unfold okC
  rw [va_up_self, va_up_ne _ _ (by decide), va_up_ne _ _ (by decide), va_up_ne _ _ (by decide)]
  exact ⟨h.1, ⟨h0, h1⟩, h.2.2⟩
theorem in12 {x : Int32} (h : 0 ≤ x.toInt ∧ x.toInt < 12) : vp_in x 12 := vp_in_iff.mpr ⟨h.1, h.2⟩
theorem mod12 {x : Int32} (h : 0 ≤ x.toInt ∧ x.toInt < 100) : 0 ≤ (x - x / 12 * 12).toInt ∧ (x - x / 12 * 12).toInt < 12 := by
  rw [rem_toInt, show (12 : Int32).toInt = 12 from rfl, Int.tmod_eq_emod_of_nonneg h.1]
  omega
theorem pl1 {x : Int32} (h : 0 ≤ x.toInt ∧ x.toInt < 99) : 0 ≤ (x + 1).toInt ∧ (x + 1).toInt < 100 := by
  rw [Int32.toInt_add, show (1 : Int32).toInt = 1 from rfl, Int.bmod_def]
  split <;> omega
theorem pl11 {x : Int32} (h : 0 ≤ x.toInt ∧ x.toInt < 12) : 0 ≤ ((x + 12) - 1).toInt ∧ ((x + 12) - 1).toInt < 100 := by
  have h1 : (x + 12).toInt = x.toInt + 12 := by
    rw [Int32.toInt_add, show (12 : Int32).toInt = 12 from rfl, Int.bmod_def]
    split <;> omega
  rw [Int32.toInt_sub, h1, show (1 : Int32).toInt = 1 from rfl, Int.bmod_def]
  split <;> omega
theorem min12 {x : Int32} (h : 0 ≤ x.toInt ∧ x.toInt ≤ 12) : 0 ≤ (mMin 12 (x + 1)).toInt ∧ (mMin 12 (x + 1)).toInt ≤ 12 := by
  have h1 := pl1 (x := x) ⟨h.1, by omega⟩
  unfold mMin
  split
  · rename_i h2
    rw [Int32.lt_iff_toInt_lt, show (12 : Int32).toInt = 12 from rfl] at h2
    exact ⟨h1.1, by omega⟩
  · exact ⟨by decide, by decide⟩
theorem dec12 {x : Int32} (h1 : 1 ≤ x.toInt) (h : x.toInt ≤ 12) : 0 ≤ (x - 1).toInt ∧ (x - 1).toInt ≤ 12 := by
  rw [Int32.toInt_sub, show (1 : Int32).toInt = 1 from rfl, Int.bmod_def]
  split <;> omega
def f0_copyFrom (σ : (Nat → Nat → Int32)) (w : Nat) (i : Nat) (v : Nat) (j : Nat) : (Nat → Nat → Int32) :=
  bnd (va_up σ w (va_up (σ w) (336+24*i+0) (σ v (336+24*j+0)))) fun σ5 => bnd (va_up σ5 w (va_up (σ5 w) (336+24*i+1) (σ5 v (336+24*j+1)))) fun σ13 => bnd (va_up σ13 w (va_up (σ13 w) (336+24*i+7) (σ13 v (336+24*j+7)))) fun σ21 => bnd (va_up σ21 w (va_up (σ21 w) (336+24*i+8) (σ21 v (336+24*j+8)))) fun σ29 => bnd (va_up σ29 w (va_up (σ29 w) (336+24*i+12) (σ29 v (336+24*j+12)))) fun σ37 => bnd (va_up σ37 w (va_up (σ37 w) (336+24*i+13) (σ37 v (336+24*j+13)))) fun σ45 => bnd (va_up σ45 w (va_up (σ45 w) (336+24*i+2) (σ45 v (336+24*j+2)))) fun σ53 => bnd (va_up σ53 w (va_up (σ53 w) (336+24*i+3) (σ53 v (336+24*j+3)))) fun σ61 => bnd (va_up σ61 w (va_up (σ61 w) (336+24*i+4) (σ61 v (336+24*j+4)))) fun σ69 => bnd (va_up σ69 w (va_up (σ69 w) (336+24*i+5) (σ69 v (336+24*j+5)))) fun σ77 => bnd (va_up σ77 w (va_up (σ77 w) (336+24*i+6) (σ77 v (336+24*j+6)))) fun σ85 => bnd (va_up σ85 w (va_up (σ85 w) (336+24*i+9) (σ85 v (336+24*j+9)))) fun σ93 => bnd (va_up σ93 w (va_up (σ93 w) (336+24*i+10) (σ93 v (336+24*j+10)))) fun σ101 => bnd (va_up σ101 w (va_up (σ101 w) (336+24*i+11) (nb (σ101 v (336+24*j+11))))) fun σ109 => bnd (va_up σ109 w (va_up (σ109 w) (336+24*i+21) (σ109 v (336+24*j+21)))) fun σ117 => bnd (va_up σ117 w (cpw (σ117 v) (336+24*i+14) (336+24*j+14) 7 (σ117 w))) fun σ132 => σ132
def f2_copyFrom (σ : (Nat → Nat → Int32)) (w : Nat) (i : Nat) (v : Nat) (j : Nat) : (Nat → Nat → Int32) :=
  bnd (f2_begin (σ w) i (σ v (432+8*j+0)) (σ v (432+8*j+1)) (σ v (432+8*j+2)) (σ v (432+8*j+3)) (σ v (432+8*j+4)) (σ v (432+8*j+6))) fun u9 => bnd (va_up σ w u9) fun σ25 => bnd (va_up σ25 w (va_up (σ25 w) (432+8*i+5) (σ25 v (432+8*j+5)))) fun σ33 => σ33
def f4_copyFrom (σ : (Nat → Nat → Int32)) (w : Nat) (v : Nat) : (Nat → Nat → Int32) :=
  bnd (va_up σ w (cpw (σ v) (0) (0) 336 (σ w))) fun σ13 => σ13
def f5_copyFrom_L68 (w : Nat) (v : Nat) (n68 : Nat) (w2_68 : Int32) (σ_68 : (Nat → Nat → Int32)) : (Nat → Nat → Int32) := match n68 with
  | 0 => fun _ _ => 0
  | n68 + 1 => if (σ_68 w 465) ≤ w2_68 then (σ_68) else (bnd (f2_copyFrom σ_68 w w2_68.toNatClampNeg v w2_68.toNatClampNeg) fun σ88 => bnd (w2_68 + 1) fun v2_91 => (f5_copyFrom_L68 w v n68) v2_91 σ88)
def f5_copyFrom_L37 (w : Nat) (v : Nat) (n37 : Nat) (w2_37 : Int32) (σ_37 : (Nat → Nat → Int32)) : (Nat → Nat → Int32) := match n37 with
  | 0 => fun _ _ => 0
  | n37 + 1 => if (σ_37 w 464) ≤ w2_37 then (f5_copyFrom_L68 w v BIG 0 σ_37) else (bnd (f0_copyFrom σ_37 w w2_37.toNatClampNeg v w2_37.toNatClampNeg) fun σ57 => bnd (w2_37 + 1) fun v2_60 => (f5_copyFrom_L37 w v n37) v2_60 σ57)
def f5_copyFrom (σ : (Nat → Nat → Int32)) (w : Nat) (v : Nat) : (Nat → Nat → Int32) :=
  bnd (f4_copyFrom σ w v) fun σ8 => bnd (va_up σ8 w (va_up (σ8 w) (464) (σ8 v 464))) fun σ16 => bnd (va_up σ16 w (va_up (σ16 w) (465) (σ16 v 465))) fun σ24 => bnd (va_up σ24 w (va_up (σ24 w) (466) (σ24 v 466))) fun σ32 => f5_copyFrom_L37 w v BIG 0 σ32
theorem upr {s : Nat → Nat → Int32} {u : Nat → Int32} {w t : Nat} {c : Int32} (h : u t = c) : va_up s w u w t = c := by
  rw [va_up_self]
  exact h
theorem fr_copyB {σ : Nat → Nat → Int32} {w i v j t : Nat} (hi : i < 4) (ht : 464 ≤ t) : f0_copyFrom σ w i v j w t = σ w t := by
  unfold f0_copyFrom
  refine bnd_p (P := fun (s : Nat → Nat → Int32) => s w t = σ w t) (fun (s : Nat → Nat → Int32) => s w t = σ w t) (upk rfl (by omega)) (fun s h => ?_)
  refine bnd_p (P := fun (s : Nat → Nat → Int32) => s w t = σ w t) (fun (s : Nat → Nat → Int32) => s w t = σ w t) (upk h (by omega)) (fun s h => ?_)
  refine bnd_p (P := fun (s : Nat → Nat → Int32) => s w t = σ w t) (fun (s : Nat → Nat → Int32) => s w t = σ w t) (upk h (by omega)) (fun s h => ?_)
  refine bnd_p (P := fun (s : Nat → Nat → Int32) => s w t = σ w t) (fun (s : Nat → Nat → Int32) => s w t = σ w t) (upk h (by omega)) (fun s h => ?_)
  refine bnd_p (P := fun (s : Nat → Nat → Int32) => s w t = σ w t) (fun (s : Nat → Nat → Int32) => s w t = σ w t) (upk h (by omega)) (fun s h => ?_)
  refine bnd_p (P := fun (s : Nat → Nat → Int32) => s w t = σ w t) (fun (s : Nat → Nat → Int32) => s w t = σ w t) (upk h (by omega)) (fun s h => ?_)
  refine bnd_p (P := fun (s : Nat → Nat → Int32) => s w t = σ w t) (fun (s : Nat → Nat → Int32) => s w t = σ w t) (upk h (by omega)) (fun s h => ?_)
  refine bnd_p (P := fun (s : Nat → Nat → Int32) => s w t = σ w t) (fun (s : Nat → Nat → Int32) => s w t = σ w t) (upk h (by omega)) (fun s h => ?_)
  refine bnd_p (P := fun (s : Nat → Nat → Int32) => s w t = σ w t) (fun (s : Nat → Nat → Int32) => s w t = σ w t) (upk h (by omega)) (fun s h => ?_)
  refine bnd_p (P := fun (s : Nat → Nat → Int32) => s w t = σ w t) (fun (s : Nat → Nat → Int32) => s w t = σ w t) (upk h (by omega)) (fun s h => ?_)
  refine bnd_p (P := fun (s : Nat → Nat → Int32) => s w t = σ w t) (fun (s : Nat → Nat → Int32) => s w t = σ w t) (upk h (by omega)) (fun s h => ?_)
  refine bnd_p (P := fun (s : Nat → Nat → Int32) => s w t = σ w t) (fun (s : Nat → Nat → Int32) => s w t = σ w t) (upk h (by omega)) (fun s h => ?_)
  refine bnd_p (P := fun (s : Nat → Nat → Int32) => s w t = σ w t) (fun (s : Nat → Nat → Int32) => s w t = σ w t) (upk h (by omega)) (fun s h => ?_)
  refine bnd_p (P := fun (s : Nat → Nat → Int32) => s w t = σ w t) (fun (s : Nat → Nat → Int32) => s w t = σ w t) (upk h (by omega)) (fun s h => ?_)
  refine bnd_p (P := fun (s : Nat → Nat → Int32) => s w t = σ w t) (fun (s : Nat → Nat → Int32) => s w t = σ w t) (upk h (by omega)) (fun s h => ?_)
  refine bnd_p (P := fun (s : Nat → Nat → Int32) => s w t = σ w t) (fun (s : Nat → Nat → Int32) => s w t = σ w t) (upr ((cpw_out (by omega)).trans h)) (fun s h => h)
theorem fr_begin2 {u : Nat → Int32} {i t : Nat} {a b c1 d e1 f1 : Int32} (hi : i < 4) (ht : 464 ≤ t) : f2_begin u i a b c1 d e1 f1 t = u t := by
  unfold f2_begin
  refine bnd_p (P := fun (s : Nat → Int32) => s t = u t) (fun (s : Nat → Int32) => s t = u t) (uprk rfl (by omega)) (fun s h => ?_)
  refine bnd_p (P := fun (s : Nat → Int32) => s t = u t) (fun (s : Nat → Int32) => s t = u t) (uprk h (by omega)) (fun s h => ?_)
  refine bnd_p (P := fun (s : Nat → Int32) => s t = u t) (fun (s : Nat → Int32) => s t = u t) (uprk h (by omega)) (fun s h => ?_)
  refine bnd_p (P := fun (s : Nat → Int32) => s t = u t) (fun (s : Nat → Int32) => s t = u t) (uprk h (by omega)) (fun s h => ?_)
  refine bnd_p (P := fun (s : Nat → Int32) => s t = u t) (fun (s : Nat → Int32) => s t = u t) (uprk h (by omega)) (fun s h => ?_)
  refine bnd_p (P := fun (s : Nat → Int32) => s t = u t) (fun (s : Nat → Int32) => s t = u t) (uprk h (by omega)) (fun s h => ?_)
  refine bnd_p (P := fun (s : Nat → Int32) => s t = u t) (fun (s : Nat → Int32) => s t = u t) (uprk h (by omega)) (fun s h => h)
theorem fr_copyP {σ : Nat → Nat → Int32} {w i v j t : Nat} (hi : i < 4) (ht : 464 ≤ t) : f2_copyFrom σ w i v j w t = σ w t := by
  unfold f2_copyFrom
  refine bnd_p (P := fun (s : Nat → Nat → Int32) => s w t = σ w t) (fun (s : Nat → Int32) => s t = σ w t) (fr_begin2 hi ht) (fun s h => ?_)
  refine bnd_p (P := fun (s : Nat → Nat → Int32) => s w t = σ w t) (fun (s : Nat → Nat → Int32) => s w t = σ w t) (upr h) (fun s h => ?_)
  refine bnd_p (P := fun (s : Nat → Nat → Int32) => s w t = σ w t) (fun (s : Nat → Nat → Int32) => s w t = σ w t) (upk h (by omega)) (fun s h => h)
def f5_dropOutBody_L2 (w : Nat) (n2 : Nat) (w2_2 : Int32) (σ_2 : (Nat → Nat → Int32)) : (Nat → Nat → Int32) := match n2 with
  | 0 => fun _ _ => 0
  | n2 + 1 => if (σ_2 w 464) ≤ (w2_2 + 1) then (bnd (va_up σ_2 w (va_up (σ_2 w) (464) ((σ_2 w 464) - 1))) fun σ42 => σ42) else (bnd (f0_copyFrom σ_2 w w2_2.toNatClampNeg w ((w2_2 + 1).toNatClampNeg)) fun σ26 => bnd (w2_2 + 1) fun v2_29 => (f5_dropOutBody_L2 w n2) v2_29 σ26)
def f5_dropOutBody (σ : (Nat → Nat → Int32)) (w : Nat) (a : Int32) : (Nat → Nat → Int32) :=
  f5_dropOutBody_L2 w BIG a σ
def f5_dropOutPlatform_L2 (w : Nat) (n2 : Nat) (w2_2 : Int32) (σ_2 : (Nat → Nat → Int32)) : (Nat → Nat → Int32) := match n2 with
  | 0 => fun _ _ => 0
  | n2 + 1 => if (σ_2 w 465) ≤ (w2_2 + 1) then (bnd (va_up σ_2 w (va_up (σ_2 w) (465) ((σ_2 w 465) - 1))) fun σ42 => σ42) else (bnd (f2_copyFrom σ_2 w w2_2.toNatClampNeg w ((w2_2 + 1).toNatClampNeg)) fun σ26 => bnd (w2_2 + 1) fun v2_29 => (f5_dropOutPlatform_L2 w n2) v2_29 σ26)
def f5_dropOutPlatform (σ : (Nat → Nat → Int32)) (w : Nat) (a : Int32) : (Nat → Nat → Int32) :=
  f5_dropOutPlatform_L2 w BIG a σ
def f1_keep (σ : (Nat → Nat → Int32)) (v : Nat) : (Nat → Nat → Int32) :=
  bnd (f5_copyFrom σ (3+(σ 15 3).toNatClampNeg) v) fun σ10 => bnd (va_up σ10 15 (va_up (σ10 15) (3) (((σ10 15 3) + 1) - ((σ10 15 3) + 1) / 12 * 12))) fun σ23 => bnd (va_up σ23 15 (va_up (σ23 15) (2) (mMin 12 ((σ23 15 2) + 1)))) fun σ38 => σ38
def f1_bringBack (σ : (Nat → Nat → Int32)) (v : Nat) : (Nat → Nat → Int32) :=
  bnd (va_up σ 15 (va_up (σ 15) (3) ((((σ 15 3) + 12) - 1) - (((σ 15 3) + 12) - 1) / 12 * 12))) fun σ13 => bnd (va_up σ13 15 (va_up (σ13 15) (2) ((σ13 15 2) - 1))) fun σ23 => bnd (f5_copyFrom σ23 v (3+(σ23 15 3).toNatClampNeg)) fun σ36 => σ36
def f1_forget (σ : (Nat → Nat → Int32)) : (Nat → Nat → Int32) :=
  bnd (va_up σ 15 (va_up (σ 15) (2) 0)) fun σ2 => σ2
theorem in_lt4 {x : Int32} (h0 : 0 ≤ x.toInt) (h : x < 4) : vp_in x 4 := by
  rw [Int32.lt_iff_toInt_lt, show (4 : Int32).toInt = 4 from rfl] at h
  exact vp_in_iff.mpr ⟨h0, h⟩
theorem pl_in4 {x : Int32} (h : vp_in x 4) : 0 ≤ (x + 1).toInt ∧ (x + 1).toInt ≤ 4 := by
  obtain ⟨h1, h2⟩ := vp_in_iff.mp h
  rw [Int32.toInt_add, show (1 : Int32).toInt = 1 from rfl, Int.bmod_def]
  split <;> omega
theorem ne0_1 {x : Int32} (h0 : 0 ≤ x.toInt) (h : ¬ x = 0) : 1 ≤ x.toInt := by
  have h1 : x.toInt ≠ 0 := fun q => h (Int32.toInt_inj.mp q)
  omega
theorem cnt1 {a n : Int32} (h0 : 0 ≤ n.toInt) (h4 : n.toInt ≤ 4) (h2 : ¬ a < 0) (h3 : ¬ n - 1 < a) : 1 ≤ n.toInt := by
  rw [Int32.lt_iff_toInt_lt] at h2 h3
  rw [Int32.toInt_sub, show (1 : Int32).toInt = 1 from rfl, Int.bmod_def] at h3
  rw [show (0 : Int32).toInt = 0 from rfl] at h2
  split at h3 <;> omega
theorem in_bodyC {σ σ1 : Nat → Nat → Int32} {a : Int32} (hO : okS σ1) (h : ((Sum.inl 0, σ1) : RT) = f6_requireBody σ a) : 1 ≤ (σ1 0 464).toInt := by
  unfold f6_requireBody bnd at h
  rcases isWithin_cases a 0 (σ 0 464 - 1) with ⟨h1, h2⟩ | ⟨h1, h2, h3⟩
  · rw [h1] at h; exact (rt_no h).elim
  · rw [h1] at h
    have h5 := rt_inl h
    subst h5
    have hw := hO.1 0 (by decide)
    exact cnt1 hw.1 hw.2.1 h2 h3
theorem in_platC {σ σ1 : Nat → Nat → Int32} {a : Int32} (hO : okS σ1) (h : ((Sum.inl 0, σ1) : RT) = f6_requirePlatform σ a) : 1 ≤ (σ1 0 465).toInt := by
  unfold f6_requirePlatform bnd at h
  rcases isWithin_cases a 0 (σ 0 465 - 1) with ⟨h1, h2⟩ | ⟨h1, h2, h3⟩
  · rw [h1] at h; exact (rt_no h).elim
  · rw [h1] at h
    have h5 := rt_inl h
    subst h5
    have hw := hO.1 0 (by decide)
    exact cnt1 hw.2.2.1 hw.2.2.2 h2 h3
def f6_acceptTrialTiles (σ : (Nat → Nat → Int32)) : RT :=
  bnd (f5_hasBlockedBody (σ 1)) fun r4 => if r4 = 0 then (bnd (f4_copyFrom σ 0 1) fun σ35 => bnd (f1_forget σ35) fun σ42 => ((Sum.inl 0, σ42) : RT)) else (((Sum.inr "java/lang/IllegalStateException", σ) : RT))
def f6_setTile (σ : (Nat → Nat → Int32)) (a : Int32) (b : Int32) (c1 : Int32) : RT :=
  bndx (f6_requireTile σ a b) fun _ σ2 => bnd (f6_isWithin c1 0 10) fun r9 => bndx (f6_require σ2 r9) fun _ σ12 => bnd (f4_kindAt (σ12 0) a b) fun r24 => bnd (f5_copyFrom σ12 1 0) fun σ37 => bnd (f4_put (σ37 1) a b c1) fun u9 => bnd (va_up σ37 1 u9) fun σ50 => bndx (f6_acceptTrialTiles σ50) fun _ σ54 => ((Sum.inl r24, σ54) : RT)
def f6_addBody_b56 (a : Int32) (b : Int32) (c1 : Int32) (d : Int32) (σ27 : (Nat → Nat → Int32)) (t0_56 : Int32) : RT :=
  bndx (f6_require σ27 t0_56) fun _ σ56 => if (σ56 0 464) < 4 then (bnd (σ56 0 464) fun v5_87 => bnd (f0_begin (σ56 0) v5_87.toNatClampNeg a b c1 d) fun u9 => bnd (va_up σ56 0 u9) fun σ108 => bnd (f4_block (σ108 0) v5_87.toNatClampNeg a b) fun r122 => if r122 = 0 then (bnd (va_up σ108 0 (va_up (σ108 0) (464) (v5_87 + 1))) fun σ146 => bnd (f1_forget σ146) fun σ153 => ((Sum.inl v5_87, σ153) : RT)) else (((Sum.inr "java/lang/IllegalStateException", σ108) : RT))) else (((Sum.inr "java/lang/IllegalStateException", σ56) : RT))
def f6_addBody_b55 (a : Int32) (b : Int32) (c1 : Int32) (d : Int32) (σ27 : (Nat → Nat → Int32)) : RT :=
  f6_addBody_b56 a b c1 d σ27 0
def f6_addBody_b27 (σ : (Nat → Nat → Int32)) (a : Int32) (b : Int32) (c1 : Int32) (d : Int32) (t0_27 : Int32) : RT :=
  bndx (f6_require σ t0_27) fun _ σ27 => bnd (f6_isWithin c1 4 16) fun r34 => if r34 = 0 then (f6_addBody_b55 a b c1 d σ27) else (bnd (f6_isWithin d 4 28) fun r45 => if r45 = 0 then (f6_addBody_b55 a b c1 d σ27) else (f6_addBody_b56 a b c1 d σ27 1))
def f6_addBody_b26 (σ : (Nat → Nat → Int32)) (a : Int32) (b : Int32) (c1 : Int32) (d : Int32) : RT :=
  f6_addBody_b27 σ a b c1 d 0
def f6_addBody (σ : (Nat → Nat → Int32)) (a : Int32) (b : Int32) (c1 : Int32) (d : Int32) : RT :=
  bnd (f6_isWithin a 0 383) fun r5 => if r5 = 0 then (f6_addBody_b26 σ a b c1 d) else (bnd (f6_isWithin b 0 223) fun r16 => if r16 = 0 then (f6_addBody_b26 σ a b c1 d) else (f6_addBody_b27 σ a b c1 d 1))
def f6_addPlatform_b87 (a : Int32) (b : Int32) (c1 : Int32) (d : Int32) (e1 : Int32) (f1 : Int32) (σ57 : (Nat → Nat → Int32)) (t0_87 : Int32) : RT :=
  bndx (f6_require σ57 t0_87) fun _ σ87 => if (σ87 0 465) < 4 then (bnd (σ87 0 465) fun v7_118 => bnd (f2_begin (σ87 0) v7_118.toNatClampNeg a b c1 d e1 f1) fun u9 => bnd (va_up σ87 0 u9) fun σ139 => bnd (va_up σ139 0 (va_up (σ139 0) (465) (v7_118 + 1))) fun σ150 => bnd (f1_forget σ150) fun σ157 => ((Sum.inl v7_118, σ157) : RT)) else (((Sum.inr "java/lang/IllegalStateException", σ87) : RT))
def f6_addPlatform_b86 (a : Int32) (b : Int32) (c1 : Int32) (d : Int32) (e1 : Int32) (f1 : Int32) (σ57 : (Nat → Nat → Int32)) : RT :=
  f6_addPlatform_b87 a b c1 d e1 f1 σ57 0
def f6_addPlatform_b57 (a : Int32) (b : Int32) (c1 : Int32) (d : Int32) (e1 : Int32) (f1 : Int32) (σ27 : (Nat → Nat → Int32)) (t0_57 : Int32) : RT :=
  bndx (f6_require σ27 t0_57) fun _ σ57 => bnd (f6_isWithin d (-2) 2) fun r65 => if r65 = 0 then (f6_addPlatform_b86 a b c1 d e1 f1 σ57) else (bnd (f6_isWithin e1 (-2) 2) fun r76 => if r76 = 0 then (f6_addPlatform_b86 a b c1 d e1 f1 σ57) else (f6_addPlatform_b87 a b c1 d e1 f1 σ57 1))
def f6_addPlatform_b56 (a : Int32) (b : Int32) (c1 : Int32) (d : Int32) (e1 : Int32) (f1 : Int32) (σ27 : (Nat → Nat → Int32)) : RT :=
  f6_addPlatform_b57 a b c1 d e1 f1 σ27 0
def f6_addPlatform_b27 (σ : (Nat → Nat → Int32)) (a : Int32) (b : Int32) (c1 : Int32) (d : Int32) (e1 : Int32) (f1 : Int32) (t0_27 : Int32) : RT :=
  bndx (f6_require σ t0_27) fun _ σ27 => bnd (f6_isWithin c1 16 64) fun r35 => if r35 = 0 then (f6_addPlatform_b56 a b c1 d e1 f1 σ27) else (bnd (f6_isWithin f1 1 60) fun r46 => if r46 = 0 then (f6_addPlatform_b56 a b c1 d e1 f1 σ27) else (f6_addPlatform_b57 a b c1 d e1 f1 σ27 1))
def f6_addPlatform_b26 (σ : (Nat → Nat → Int32)) (a : Int32) (b : Int32) (c1 : Int32) (d : Int32) (e1 : Int32) (f1 : Int32) : RT :=
  f6_addPlatform_b27 σ a b c1 d e1 f1 0
def f6_addPlatform (σ : (Nat → Nat → Int32)) (a : Int32) (b : Int32) (c1 : Int32) (d : Int32) (e1 : Int32) (f1 : Int32) : RT :=
  bnd (f6_isWithin a 0 383) fun r5 => if r5 = 0 then (f6_addPlatform_b26 σ a b c1 d e1 f1) else (bnd (f6_isWithin b 0 223) fun r16 => if r16 = 0 then (f6_addPlatform_b26 σ a b c1 d e1 f1) else (f6_addPlatform_b27 σ a b c1 d e1 f1 1))
def f6_removeBody (σ : (Nat → Nat → Int32)) (a : Int32) : RT :=
  bndx (f6_requireBody σ a) fun _ σ2 => bnd (f5_dropOutBody σ2 0 a) fun σ10 => bnd (f1_forget σ10) fun σ17 => ((Sum.inl (σ17 0 464), σ17) : RT)
def f6_removePlatform (σ : (Nat → Nat → Int32)) (a : Int32) : RT :=
  bndx (f6_requirePlatform σ a) fun _ σ2 => bnd (f5_dropOutPlatform σ2 0 a) fun σ10 => bnd (f1_forget σ10) fun σ17 => ((Sum.inl (σ17 0 465), σ17) : RT)
def f6_tick_L12 (a : Int32) (n12 : Nat) (w2_12 : Int32) (σ_12 : (Nat → Nat → Int32)) : RT := match n12 with
  | 0 => ((Sum.inl 0, fun _ _ => 0) : RT)
  | n12 + 1 => if a ≤ w2_12 then (((Sum.inl (σ_12 0 466), σ_12) : RT)) else (bnd (f1_keep σ_12 0) fun σ25 => bnd (f5_advance (σ25 0) (σ25 15)) fun u9 => bnd (va_up σ25 0 u9) fun σ36 => bnd (w2_12 + 1) fun v2_39 => (f6_tick_L12 a n12) v2_39 σ36)
def f6_tick (σ : (Nat → Nat → Int32)) (a : Int32) : RT :=
  bnd (f6_isWithin a 1 100) fun r4 => bndx (f6_require σ r4) fun _ σ7 => f6_tick_L12 a BIG 0 σ7
def f6_undo (σ : (Nat → Nat → Int32)) : RT :=
  if (σ 15 2) = 0 then (((Sum.inr "java/lang/IllegalStateException", σ) : RT)) else (bnd (f1_bringBack σ 0) fun σ28 => ((Sum.inl (σ28 0 466), σ28) : RT))
def f6_clearance_L36 (a : Int32) (b : Int32) (n36 : Nat) (w3_36 : Int32) (σ_36 : (Nat → Nat → Int32)) : RT := match n36 with
  | 0 => ((Sum.inl 0, fun _ _ => 0) : RT)
  | n36 + 1 => if 400 ≤ w3_36 then (((Sum.inl w3_36, σ_36) : RT)) else (bnd2 (f5_stepSideways (σ_36 1) a.toNatClampNeg b) fun r57 u9 => bnd (va_up σ_36 1 u9) fun σ57 => if r57 = 0 then (((Sum.inl w3_36, σ57) : RT)) else (bnd (w3_36 + 1) fun v3_63 => (f6_clearance_L36 a b n36) v3_63 σ57))
def f6_clearance_b20 (a : Int32) (b : Int32) (σ2 : (Nat → Nat → Int32)) (t0_20 : Int32) : RT :=
  bndx (f6_require σ2 t0_20) fun _ σ20 => bnd (f5_copyFrom σ20 1 0) fun σ31 => f6_clearance_L36 a b BIG 0 σ31
def f6_clearance_b15 (a : Int32) (b : Int32) (σ2 : (Nat → Nat → Int32)) : RT :=
  f6_clearance_b20 a b σ2 1
def f6_clearance (σ : (Nat → Nat → Int32)) (a : Int32) (b : Int32) : RT :=
  bndx (f6_requireBody σ a) fun _ σ2 => if b = (-1) then (f6_clearance_b15 a b σ2) else (if b = 1 then (f6_clearance_b15 a b σ2) else (f6_clearance_b20 a b σ2 0))
def f6_predict_L71 (a : Int32) (c1 : Int32) (d : Int32) (n71 : Nat) (w5_71 : Int32) (σ_71 : (Nat → Nat → Int32)) : RT := match n71 with
  | 0 => ((Sum.inl 0, fun _ _ => 0) : RT)
  | n71 + 1 => if c1 ≤ w5_71 then (bnd (f0_number (σ_71 1) a.toNatClampNeg d) fun r105 => ((Sum.inl r105, σ_71) : RT)) else (bnd (f5_advance (σ_71 1) (σ_71 15)) fun u9 => bnd (va_up σ_71 1 u9) fun σ85 => bnd (w5_71 + 1) fun v5_88 => (f6_predict_L71 a c1 d n71) v5_88 σ85)
def f6_predict_b41 (a : Int32) (b : Int32) (c1 : Int32) (d : Int32) (σ2 : (Nat → Nat → Int32)) (t0_41 : Int32) : RT :=
  bndx (f6_require σ2 t0_41) fun _ σ41 => bnd (f5_copyFrom σ41 1 0) fun σ52 => bnd (va_up σ52 1 (va_up (σ52 1) (336+24*a.toNatClampNeg+9) b)) fun σ65 => f6_predict_L71 a c1 d BIG 0 σ65
def f6_predict_b40 (a : Int32) (b : Int32) (c1 : Int32) (d : Int32) (σ2 : (Nat → Nat → Int32)) : RT :=
  f6_predict_b41 a b c1 d σ2 0
def f6_predict (σ : (Nat → Nat → Int32)) (a : Int32) (b : Int32) (c1 : Int32) (d : Int32) : RT :=
  bndx (f6_requireBody σ a) fun _ σ2 => bnd (f6_isWithin b 0 15) fun r9 => if r9 = 0 then (f6_predict_b40 a b c1 d σ2) else (bnd (f6_isWithin c1 1 40) fun r19 => if r19 = 0 then (f6_predict_b40 a b c1 d σ2) else (bnd (f6_isWithin d 0 6) fun r30 => if r30 = 0 then (f6_predict_b40 a b c1 d σ2) else (f6_predict_b41 a b c1 d σ2 1)))
def f6_apex_L71 (a : Int32) (c1 : Int32) (n71 : Nat) (w6_71 : Int32) (w5_71 : Int32) (σ_71 : (Nat → Nat → Int32)) : RT := match n71 with
  | 0 => ((Sum.inl 0, fun _ _ => 0) : RT)
  | n71 + 1 => if c1 ≤ w6_71 then (((Sum.inl w5_71, σ_71) : RT)) else (bnd (f5_advance (σ_71 1) (σ_71 15)) fun u9 => bnd (va_up σ_71 1 u9) fun σ85 => bnd (mMax w5_71 (σ85 1 (336+24*a.toNatClampNeg+1))) fun v5_98 => bnd (w6_71 + 1) fun v6_100 => (f6_apex_L71 a c1 n71) v6_100 v5_98 σ85)
def f6_apex_b30 (a : Int32) (b : Int32) (c1 : Int32) (σ2 : (Nat → Nat → Int32)) (t0_30 : Int32) : RT :=
  bndx (f6_require σ2 t0_30) fun _ σ30 => bnd (f5_copyFrom σ30 1 0) fun σ41 => bnd (va_up σ41 1 (va_up (σ41 1) (336+24*a.toNatClampNeg+9) b)) fun σ58 => bnd (σ58 1 (336+24*a.toNatClampNeg+1)) fun v5_66 => f6_apex_L71 a c1 BIG 0 v5_66 σ58
def f6_apex_b29 (a : Int32) (b : Int32) (c1 : Int32) (σ2 : (Nat → Nat → Int32)) : RT :=
  f6_apex_b30 a b c1 σ2 0
def f6_apex (σ : (Nat → Nat → Int32)) (a : Int32) (b : Int32) (c1 : Int32) : RT :=
  bndx (f6_requireBody σ a) fun _ σ2 => bnd (f6_isWithin b 0 15) fun r9 => if r9 = 0 then (f6_apex_b29 a b c1 σ2) else (bnd (f6_isWithin c1 1 40) fun r19 => if r19 = 0 then (f6_apex_b29 a b c1 σ2) else (f6_apex_b30 a b c1 σ2 1))
def f6_save (σ : (Nat → Nat → Int32)) : (Nat → Nat → Int32) :=
  bnd (f5_copyFrom σ 2 0) fun σ8 => bnd (va_up σ8 15 (cpw (σ8 15) 14 10 4 (σ8 15))) fun σ22 => bnd (va_up σ22 15 (va_up (σ22 15) (0) 1)) fun σ27 => σ27
def f6_restore (σ : (Nat → Nat → Int32)) : RT :=
  if (nb (σ 15 0)) = 0 then (((Sum.inr "java/lang/IllegalStateException", σ) : RT)) else (bnd (f5_copyFrom σ 0 2) fun σ26 => bnd (va_up σ26 15 (cpw (σ26 15) 10 14 4 (σ26 15))) fun σ40 => bnd (f1_forget σ40) fun σ47 => ((Sum.inl 0, σ47) : RT))
def f6_clock (σ : (Nat → Nat → Int32)) : Int32 :=
  σ 0 466
def f6_faultPosition (σ : (Nat → Nat → Int32)) : Int32 :=
  σ 15 1
theorem in_lt40 {x : Int32} (h0 : 0 ≤ x.toInt) (h : x < 40) : vp_in x 40 := by
  rw [Int32.lt_iff_toInt_lt, show (40 : Int32).toInt = 40 from rfl] at h
  exact vp_in_iff.mpr ⟨h0, h⟩
theorem pl40 {x : Int32} (h0 : 0 ≤ x.toInt) (h : x < 40) : 0 ≤ (x + 1).toInt ∧ (x + 1).toInt ≤ 40 := by
  rw [Int32.lt_iff_toInt_lt, show (40 : Int32).toInt = 40 from rfl] at h
  rw [Int32.toInt_add, show (1 : Int32).toInt = 1 from rfl, Int.bmod_def]
  split <;> omega
theorem okC_4 {u : Nat → Int32} {x : Int32} (h : okC u) (hx : 0 ≤ x.toInt ∧ x.toInt ≤ 40) : okC (va_up u 4 x) := by
  unfold okC
  rw [va_up_self, va_up_ne _ _ (by decide), va_up_ne _ _ (by decide), va_up_ne _ _ (by decide)]
  exact ⟨h.1, h.2.1, hx, h.2.2.2⟩
theorem okC_4e {u u1 : Nat → Int32} {x : Int32} (e : u1 = va_up u 4 x) (h : okC u) (hx : 0 ≤ x.toInt ∧ x.toInt ≤ 40) : okC u1 := e ▸ okC_4 h hx
def f3_isDigit (a : Int32) : Int32 :=
  if a < 48 then (0) else (if 57 < a then (0) else (1))
def f3_takeIn (u : (Nat → Int32)) (a : Int32) : Int32 × (Nat → Int32) :=
  if (u 4) < 40 then (bnd (va_up u (20+(u 4).toNatClampNeg) (vp_nar .char a)) fun u20 => bnd (va_up u20 (4) ((u20 4) + 1)) fun u28 => (1, u28)) else ((0, u))
def f3_takeOut (u : (Nat → Int32)) : Int32 × (Nat → Int32) :=
  bnd (u 4) fun v1_4 => bnd (va_up u (4) 0) fun u7 => (v1_4, u7)
def f6_append (σ : (Nat → Nat → Int32)) (a : Int32) : RT :=
  bnd2 (f3_takeIn (σ 15) a) fun r5 u9 => bnd (va_up σ 15 u9) fun σ5 => if r5 = 0 then (((Sum.inr "java/lang/IllegalStateException", σ5) : RT)) else (((Sum.inl 0, σ5) : RT))
theorem nlt0 {x : Int32} (h : 0 ≤ x) : ¬ x < 0 := Int32.not_lt.mpr h
theorem sl_in {i : Nat} {a : Int32} (hi : i < 2) (h0 : ¬ a < 0) (h1 : a < Int32.ofNat (sLen.getD i 0)) : vp_in a (sLen.getD i 0) := by
  rw [Int32.lt_iff_toInt_lt] at h0 h1
  rw [show (0 : Int32).toInt = 0 from rfl] at h0
  rcases (show i = 0 ∨ i = 1 by omega) with rfl | rfl
  · rw [show (Int32.ofNat (sLen.getD 0 0)).toInt = 11 from rfl] at h1
    exact vp_in_iff.mpr ⟨by omega, h1⟩
  · rw [show (Int32.ofNat (sLen.getD 1 0)).toInt = 8 from rfl] at h1
    exact vp_in_iff.mpr ⟨by omega, h1⟩
def fJ3_checkIndex (a : Int32) (b : Int32) : Int32 :=
  if a < 0 then (0) else (if a < b then (a) else (0))
def fJ3_checkIndexR (a : Int32) (b : Int32) : Int32 :=
  if a < 0 then (0) else (if a < b then (a) else (0))
def fJ0_checkIndex (a : Int32) (b : Int32) : Int32 :=
  bnd (fJ3_checkIndexR a b) fun r5 => 0
def fJ1_charAt (i : Nat) (a : Int32) : Int32 :=
  ((((sByt.getD i []).getD a.toNatClampNeg 0) &&& 255).toUInt32 % 65536).toInt32
def fJ0_isLatin1 (i : Nat) : Int32 :=
  1
def fJ0_coder (i : Nat) : Int32 :=
  0
def fJ0_length (i : Nat) : Int32 :=
  bnd (fJ0_coder i) fun r6 => ((Int32.ofNat (sLen.getD i 0)) >>> (r6 &&& 31))
def fJ0_charAt (i : Nat) (a : Int32) : Int32 :=
  bnd (fJ0_isLatin1 i) fun r1 => if r1 = 0 then (0) else (bnd (fJ1_charAt i a) fun r12 => r12)
theorem len_eq {i : Nat} (hi : i < 2) : fJ0_length i = Int32.ofNat (sLen.getD i 0) := by
  rcases (show i = 0 ∨ i = 1 by omega) with rfl | rfl
  · decide
  · decide
theorem len_int {i : Nat} (hi : i < 2) : (Int32.ofNat (sLen.getD i 0)).toInt = ((sLen.getD i 0 : Nat) : Int) := by
  rcases (show i = 0 ∨ i = 1 by omega) with rfl | rfl
  · rfl
  · rfl
theorem pl_post {i : Nat} {r v : Int32} (hi : i < 2) (e : r = fJ0_length i) (h : ¬ r ≤ v) : v.toInt < ((sLen.getD i 0 : Nat) : Int) := by
  rw [e, len_eq hi, Int32.le_iff_toInt_le, len_int hi] at h
  omega
theorem neg1_lt (n : Nat) : ((-1 : Int32)).toInt < (n : Int) := by
  rw [show ((-1 : Int32)).toInt = -1 from rfl]
  omega
theorem in_k {r : Int32} (h : r.toInt < ((sLen.getD 1 0 : Nat) : Int)) (h0 : 0 ≤ r) : vp_in r 8 := by
  rw [Int32.le_iff_toInt_le] at h0
  exact vp_in_iff.mpr ⟨h0, h⟩
theorem lt_inc {x n y : Int32} (h : x < n) (e : y = x + 1) : x.toInt < y.toInt := by
  subst e
  rw [Int32.lt_iff_toInt_lt] at h
  have h1 := n.toInt_lt
  have h2 := x.le_toInt
  rw [Int32.toInt_add, show (1 : Int32).toInt = 1 from rfl, Int.bmod_def]
  split <;> omega
theorem dec_lt {x y n : Int32} (h : x < n) (h2 : x.toInt < y.toInt) : (n.toInt - y.toInt).toNat < (n.toInt - x.toInt).toNat := by
  rw [Int32.lt_iff_toInt_lt] at h
  omega
theorem in_lt20 {x : Int32} (h0 : 0 ≤ x.toInt) (h : ¬ 20 ≤ x) : vp_in x 20 := by
  rw [Int32.le_iff_toInt_le, show (20 : Int32).toInt = 20 from rfl] at h
  exact vp_in_iff.mpr ⟨h0, by omega⟩
theorem pl20 {x : Int32} (h0 : 0 ≤ x.toInt) (h : ¬ 20 ≤ x) : 0 ≤ (x + 1).toInt ∧ (x + 1).toInt ≤ 20 := by
  rw [Int32.le_iff_toInt_le, show (20 : Int32).toInt = 20 from rfl] at h
  rw [Int32.toInt_add, show (1 : Int32).toInt = 1 from rfl, Int.bmod_def]
  split <;> omega
theorem okC_5e {u u1 : Nat → Int32} {x : Int32} (e : u1 = va_up u 5 x) (h : okC u) (hx : 0 ≤ x.toInt ∧ x.toInt ≤ 20) : okC u1 := by
  subst e
  unfold okC
  rw [va_up_self, va_up_ne _ _ (by decide), va_up_ne _ _ (by decide), va_up_ne _ _ (by decide)]
  exact ⟨h.1, h.2.1, h.2.2.1, hx⟩
def f3_placeOf_L2 (a : Int32) (i : Nat) (n2 : Nat) (w2_2 : Int32) : Int32 := match n2 with
  | 0 => 0
  | n2 + 1 => bnd (fJ0_length i) fun r4 => if r4 ≤ w2_2 then ((-1)) else (bnd (fJ0_charAt i w2_2) fun r12 => if r12 = a then (w2_2) else (bnd (w2_2 + 1) fun v2_21 => (f3_placeOf_L2 a i n2) v2_21))
def f3_placeOf (a : Int32) (i : Nat) : Int32 :=
  f3_placeOf_L2 a i BIG 0
def f3_tileAt (u : (Nat → Int32)) (a : Int32) : Int32 :=
  bnd (f3_placeOf (u (20+a.toNatClampNeg)) 0) fun r8 => r8
def f3_faultOfTiles_L2 (u : (Nat → Int32)) (a : Int32) (n2 : Nat) (w2_2 : Int32) : Int32 := match n2 with
  | 0 => 0
  | n2 + 1 => if a ≤ w2_2 then (if a = 0 then (0) else ((-1))) else (if 24 ≤ w2_2 then (w2_2) else (bnd (f3_tileAt u w2_2) fun r15 => if 0 ≤ r15 then (bnd (w2_2 + 1) fun v2_23 => (f3_faultOfTiles_L2 u a n2) v2_23) else (w2_2)))
def f3_faultOfTiles (u : (Nat → Int32)) (a : Int32) : Int32 :=
  f3_faultOfTiles_L2 u a BIG 0
def f3_faultOfInputs_b56 (k4 : Int32 → Int32 → Int32) (w3_4 : Int32) (w2_56 : Int32) : Int32 :=
  bnd (w3_4 + 1) fun v3_56 => k4 v3_56 w2_56
def f3_faultOfInputs_L4 (u : (Nat → Int32)) (a : Int32) (n4 : Nat) (w3_4 : Int32) (w2_4 : Int32) : Int32 := match n4 with
  | 0 => 0
  | n4 + 1 => if a ≤ w3_4 then (if a = 0 then (a) else (if w2_4 = 0 then (a) else ((-1)))) else (bnd (f3_isDigit (u (20+w3_4.toNatClampNeg))) fun r15 => if r15 = 0 then (if w2_4 = 0 then (w3_4) else (bnd (f3_placeOf (u (20+w3_4.toNatClampNeg)) 1) fun r46 => if 0 ≤ r46 then (f3_faultOfInputs_b56 (f3_faultOfInputs_L4 u a n4) w3_4 0) else (w3_4))) else (if w2_4 = 2 then (w3_4) else (bnd (w2_4 + 1) fun v2_28 => f3_faultOfInputs_b56 (f3_faultOfInputs_L4 u a n4) w3_4 v2_28)))
def f3_faultOfInputs (u : (Nat → Int32)) (a : Int32) : Int32 :=
  f3_faultOfInputs_L4 u a BIG 0 2
def f3_readCommands_b106 (k9 : Int32 → Int32 → (Nat → Int32) → Int32 × (Nat → Int32)) (w2_9 : Int32) (u59 : (Nat → Int32)) (w5_66 : Int32) (w3_66 : Int32) : Int32 × (Nat → Int32) :=
  bnd (va_up u59 (80+(u59 5).toNatClampNeg) w5_66) fun u116 => bnd (va_up u116 (5) ((u116 5) + 1)) fun u124 => bnd ((w2_9 + w5_66)) fun v2_131 => k9 w3_66 v2_131 u124
def f3_readCommands_L66 (k9 : Int32 → Int32 → (Nat → Int32) → Int32 × (Nat → Int32)) (a : Int32) (w2_9 : Int32) (u59 : (Nat → Int32)) (n66 : Nat) (w5_66 : Int32) (w3_66 : Int32) : Int32 × (Nat → Int32) := match n66 with
  | 0 => (0, fun _ => 0)
  | n66 + 1 => if a ≤ w3_66 then (f3_readCommands_b106 k9 w2_9 u59 w5_66 w3_66) else (bnd (f3_isDigit (u59 (20+w3_66.toNatClampNeg))) fun r77 => if r77 = 0 then (f3_readCommands_b106 k9 w2_9 u59 w5_66 w3_66) else (bnd ((((w5_66 * 10) + (u59 (20+w3_66.toNatClampNeg))) - 48)) fun v5_98 => bnd (w3_66 + 1) fun v3_100 => (f3_readCommands_L66 k9 a w2_9 u59 n66) v5_98 v3_100))
def f3_readCommands_b59 (k9 : Int32 → Int32 → (Nat → Int32) → Int32 × (Nat → Int32)) (a : Int32) (w3_9 : Int32) (w2_9 : Int32) (u_9 : (Nat → Int32)) (t0_59 : Int32) : Int32 × (Nat → Int32) :=
  bnd (va_up u_9 (60+(u_9 5).toNatClampNeg) t0_59) fun u59 => bnd (w3_9 + 1) fun v3_60 => f3_readCommands_L66 k9 a w2_9 u59 BIG 0 v3_60
def f3_readCommands_L9 (a : Int32) (n9 : Nat) (w3_9 : Int32) (w2_9 : Int32) (u_9 : (Nat → Int32)) : Int32 × (Nat → Int32) := match n9 with
  | 0 => (0, fun _ => 0)
  | n9 + 1 => if a ≤ w3_9 then ((w2_9, u_9)) else (if 20 ≤ (u_9 5) then ((w2_9, u_9)) else (bnd (f3_placeOf (u_9 (20+w3_9.toNatClampNeg)) 1) fun r31 => if 0 ≤ r31 then (f3_readCommands_b59 (f3_readCommands_L9 a n9) a w3_9 w2_9 u_9 (keyS r31.toNatClampNeg)) else (f3_readCommands_b59 (f3_readCommands_L9 a n9) a w3_9 w2_9 u_9 0)))
def f3_readCommands (u : (Nat → Int32)) (a : Int32) : Int32 × (Nat → Int32) :=
  bnd (va_up u (5) 0) fun u6 => f3_readCommands_L9 a BIG 0 0 u6
theorem in_set4 {a : Int32} {r : Int32} (e : r = f6_isWithin a 0 3) (h : ¬ r = 0) : vp_in a 4 := by
  rcases isWithin_cases a 0 3 with ⟨h1, -⟩ | ⟨-, h2, h3⟩
  · exact absurd (e.trans h1) h
  · rw [Int32.lt_iff_toInt_lt] at h2 h3
    rw [show (0 : Int32).toInt = 0 from rfl] at h2
    rw [show (3 : Int32).toInt = 3 from rfl] at h3
    exact vp_in_iff.mpr ⟨by omega, by omega⟩
theorem dec_mx {x v y : Int32} (h : v < x) (e : y = v + 1) : (2147483647 - y.toInt).toNat < (2147483647 - v.toInt).toNat := by
  subst e
  rw [Int32.lt_iff_toInt_lt] at h
  have h1 := x.toInt_lt
  have h2 := v.le_toInt
  rw [Int32.toInt_add, show (1 : Int32).toInt = 1 from rfl, Int.bmod_def]
  split <;> omega
theorem big_mx (v : Int32) : (2147483647 - v.toInt).toNat < BIG := by
  have h2 := v.le_toInt
  unfold BIG; omega
theorem decP_20 {v y : Int32} (h : vp_in v 20) (e : y = v + 1) : (20 - y.toInt).toNat < (20 - v.toInt).toNat := by
  subst e
  obtain ⟨h1, h2⟩ := vp_in_iff.mp h
  rw [Int32.toInt_add, show (1 : Int32).toInt = 1 from rfl, Int.bmod_def]
  split <;> omega
theorem bigP_20 (v : Int32) : (20 - v.toInt).toNat < BIG := by
  have h2 := v.le_toInt
  unfold BIG; omega
theorem ge0_20 {v y : Int32} (h : vp_in v 20) (e : y = v + 1) : 0 ≤ y := by
  subst e
  obtain ⟨h1, h2⟩ := vp_in_iff.mp h
  rw [Int32.le_iff_toInt_le, show (0 : Int32).toInt = 0 from rfl, Int32.toInt_add, show (1 : Int32).toInt = 1 from rfl, Int.bmod_def]
  split <;> omega
def f6_set (σ : (Nat → Nat → Int32)) (a : Int32) (b : Int32) : RT :=
  bnd (f6_isWithin a 0 3) fun r3 => if r3 = 0 then (((Sum.inr "java/lang/IndexOutOfBoundsException", σ) : RT)) else (bnd (f6_isWithin b (leS a.toNatClampNeg) (grS a.toNatClampNeg)) fun r30 => bndx (f6_require σ r30) fun _ σ33 => bnd (σ33 15 (10+a.toNatClampNeg)) fun v3_42 => bnd (va_up σ33 15 (va_up (σ33 15) (10+a.toNatClampNeg) b)) fun σ49 => ((Sum.inl v3_42, σ49) : RT))
def f6_readTiles_L74 (a : Int32) (b : Int32) (r4 : Int32) (n74 : Nat) (w4_74 : Int32) (σ_74 : (Nat → Nat → Int32)) : RT := match n74 with
  | 0 => ((Sum.inl 0, fun _ _ => 0) : RT)
  | n74 + 1 => if r4 ≤ w4_74 then (bndx (f6_acceptTrialTiles σ_74) fun _ σ111 => ((Sum.inl r4, σ111) : RT)) else (bnd (f3_tileAt (σ_74 15) w4_74) fun r98 => bnd (f4_put (σ_74 1) (a + w4_74) b r98) fun u9 => bnd (va_up σ_74 1 u9) fun σ101 => bnd (w4_74 + 1) fun v4_104 => (f6_readTiles_L74 a b r4 n74) v4_104 σ101)
def f6_readTiles_b38 (a : Int32) (b : Int32) (r4 : Int32) (σ22 : (Nat → Nat → Int32)) (t0_38 : Int32) : RT :=
  bndx (f6_require σ22 t0_38) fun _ σ38 => if r4 ≤ (24 - a) then (bnd (f5_copyFrom σ38 1 0) fun σ68 => f6_readTiles_L74 a b r4 BIG 0 σ68) else (((Sum.inr "java/lang/IllegalStateException", σ38) : RT))
def f6_readTiles (σ : (Nat → Nat → Int32)) (a : Int32) (b : Int32) : RT :=
  bnd2 (f3_takeOut (σ 15)) fun r4 u9 => bnd (va_up σ 15 u9) fun σ4 => bndx (f6_requireTile σ4 a b) fun _ σ10 => bnd (f3_faultOfTiles (σ10 15) r4) fun r19 => bnd (va_up σ10 15 (va_up (σ10 15) (1) r19)) fun σ22 => if (σ22 15 1) = (-1) then (f6_readTiles_b38 a b r4 σ22 1) else (f6_readTiles_b38 a b r4 σ22 0)
def f6_play_L108 (k71 : Int32 → (Nat → Nat → Int32) → RT) (w4_71 : Int32) (n108 : Nat) (w5_108 : Int32) (σ_108 : (Nat → Nat → Int32)) : RT := match n108 with
  | 0 => ((Sum.inl 0, fun _ _ => 0) : RT)
  | n108 + 1 => if (σ_108 15 (80+w4_71.toNatClampNeg)) ≤ w5_108 then (bnd (w4_71 + 1) fun v4_151 => k71 v4_151 σ_108) else (bnd (f1_keep σ_108 0) fun σ131 => bnd (f5_advance (σ131 0) (σ131 15)) fun u9 => bnd (va_up σ131 0 u9) fun σ142 => bnd (w5_108 + 1) fun v5_145 => (f6_play_L108 k71 w4_71 n108) v5_145 σ142)
def f6_play_L71 (a : Int32) (r46 : Int32) (n71 : Nat) (w4_71 : Int32) (σ_71 : (Nat → Nat → Int32)) : RT := match n71 with
  | 0 => ((Sum.inl 0, fun _ _ => 0) : RT)
  | n71 + 1 => if (σ_71 15 5) ≤ w4_71 then (((Sum.inl r46, σ_71) : RT)) else (bnd (va_up σ_71 0 (va_up (σ_71 0) (336+24*a.toNatClampNeg+9) (σ_71 15 (60+w4_71.toNatClampNeg)))) fun σ102 => f6_play_L108 (f6_play_L71 a r46 n71) w4_71 BIG 0 σ102)
def f6_play_b38 (a : Int32) (r4 : Int32) (σ22 : (Nat → Nat → Int32)) (t0_38 : Int32) : RT :=
  bndx (f6_require σ22 t0_38) fun _ σ38 => bnd2 (f3_readCommands (σ38 15) r4) fun r46 u9 => bnd (va_up σ38 15 u9) fun σ46 => if r46 ≤ 200 then (f6_play_L71 a r46 BIG 0 σ46) else (((Sum.inr "java/lang/UnsupportedOperationException", σ46) : RT))
def f6_play (σ : (Nat → Nat → Int32)) (a : Int32) : RT :=
  bnd2 (f3_takeOut (σ 15)) fun r4 u9 => bnd (va_up σ 15 u9) fun σ4 => bndx (f6_requireBody σ4 a) fun _ σ10 => bnd (f3_faultOfInputs (σ10 15) r4) fun r19 => bnd (va_up σ10 15 (va_up (σ10 15) (1) r19)) fun σ22 => if (σ22 15 1) = (-1) then (f6_play_b38 a r4 σ22 1) else (f6_play_b38 a r4 σ22 0)
