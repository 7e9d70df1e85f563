abbrev vwCl : List vw_C := [(RJ0, TJ0, 2), (RJx00060, TJx00060, 6), (RX0, TX0, 16), (RX1, TX1, 3), (RX2, TX2, 7), (RX3, TX3, 5), (RX4, TX4, 1), (RX5, TX5, 7), (RX6, TX6, 9), (RX7, TX7, 17)]
/-! THE POOL: every cell of class and reference by its number n < 290; its address is ad n; what it holds is read off σ (row w < 15: world number w of the class; row 15: the class's other cells; row 16: the reference) -/
abbrev CY : Type := ClassId × ClassId × ClassId × ClassId × ClassId
abbrev tysG (G : CY) : List (ClassId × FieldType) := [(G.1, .char), (G.2.1, .int), (G.2.2.1, .object RX0), (G.2.2.2.1, .object RX2), (G.2.2.2.2, .object RX5)]
abbrev bcel (ad : Nat → Nat) (b : Nat) (u : Nat → Int32) (i : Nat) : va_E := .inr (2, [.int (u (336+24*i+0)), .int (u (336+24*i+1)), .int (u (336+24*i+7)), .int (u (336+24*i+8)), .int (u (336+24*i+12)), .int (u (336+24*i+13)), .int (u (336+24*i+2)), .int (u (336+24*i+3)), .int (u (336+24*i+4)), .int (u (336+24*i+5)), .int (u (336+24*i+6)), .int (u (336+24*i+9)), .int (u (336+24*i+10)), .int (nb (u (336+24*i+11))), .int (u (336+24*i+21)), .ref (ad (b+(7+2*i)))])
abbrev scel (G : CY) (u : Nat → Int32) (i : Nat) : va_E := .inl (G.2.1, 7, .inl (tr 7 (336+24*i+14) u))
abbrev pcel (u : Nat → Int32) (i : Nat) : va_E := .inr (4, [.int (u (432+8*i+0)), .int (u (432+8*i+1)), .int (u (432+8*i+2)), .int (u (432+8*i+3)), .int (u (432+8*i+4)), .int (u (432+8*i+6)), .int (u (432+8*i+5))])
abbrev ocel (ad : Nat → Nat) (b : Nat) (u : Nat → Int32) : va_E := .inr (7, [.ref (ad (b+1)), .ref (ad (b+3)), .ref (ad (b+4)), .ref (ad (b+5)), .int (u 464), .int (u 465), .int (u 466)])
abbrev kcel (G : CY) (u : Nat → Int32) : va_E := .inl (G.2.1, 336, .inl (tr 336 0 u))
abbrev acel (G : CY) (u : Nat → Int32) : va_E := .inl (G.2.1, 4, .inl (tr 4 470 u))
abbrev qcel (c : ClassId) (n : Nat) (f : Nat → Nat) : va_E := .inl (c, n, .inr (.inr (.inr (.inr (fun i => some (f i))))))
def wcel (G : CY) (ad : Nat → Nat) (b : Nat) (u : Nat → Int32) (j : Nat) : va_E :=
  if j = 0 then ocel ad b u else if j = 1 then .inr (6, [.ref (ad (b+2))]) else if j = 2 then kcel G u
  else if j = 3 then qcel G.2.2.1 4 (fun i => ad (b+(6+2*i))) else if j = 4 then qcel G.2.2.2.1 4 (fun i => ad (b+(14+i)))
  else if j = 5 then acel G u else if j < 14 then (if j % 2 = 0 then bcel ad b u ((j-6)/2) else scel G u ((j-6)/2)) else pcel u (j-14)
abbrev icel (G : CY) (n o : Nat) (u : Nat → Int32) : va_E := .inl (G.2.1, n, .inl (tr n o u))
abbrev hcel (G : CY) (n o : Nat) (u : Nat → Int32) : va_E := .inl (G.1, n, .inl (tr n o u))
abbrev rcel (ad : Nat → Nat) (u : Nat → Int32) : va_E := .inr (8, [.ref (ad 0), .ref (ad 18), .ref (ad 36), .ref (ad 271), .ref (ad 272), .ref (ad 273), .ref (ad 275), .int (nb (u 0)), .int (u 1)])
abbrev ycel (ad : Nat → Nat) (u : Nat → Int32) : va_E := .inr (3, [.ref (ad 274), .int (u 2), .int (u 3)])
abbrev xcel (ad : Nat → Nat) (u : Nat → Int32) : va_E := .inr (5, [.ref (ad 276), .int (u 4), .ref (ad 277), .ref (ad 278), .int (u 5)])
abbrev mcel (ad : Nat → Nat) (u : Nat → Int32) : va_E := .inr (9, [.int (u 490), .ref (ad 280), .ref (ad 281), .ref (ad 282), .ref (ad 283), .ref (ad 284), .ref (ad 285), .ref (ad 286), .int (u 491), .int (nb (u 492)), .ref (ad 287), .ref (ad 288), .ref (ad 289), .int (u 493), .int (u 494), .int (u 495), .int (u 496)])
def ccel (G : CY) (ad : Nat → Nat) (u m : Nat → Int32) (n : Nat) : va_E :=
  if n = 270 then rcel ad u else if n = 271 then icel G 4 10 u else if n = 272 then icel G 4 14 u else if n = 273 then ycel ad u
  else if n = 274 then qcel G.2.2.2.2 12 (fun i => ad (18*(3+i))) else if n = 275 then xcel ad u else if n = 276 then hcel G 40 20 u
  else if n = 277 then icel G 20 60 u else if n = 278 then icel G 20 80 u else if n = 279 then mcel ad m else if n = 280 then icel G 480 0 m
  else if n = 281 then icel G 4 480 m else if n = 282 then icel G 4 484 m else if n = 283 then icel G 5760 2000 m else if n = 284 then icel G 480 600 m
  else if n = 285 then icel G 480 1100 m else if n = 286 then icel G 4 580 m else if n = 287 then hcel G 40 500 m else if n = 288 then icel G 20 540 m
  else icel G 20 560 m
def cel (G : CY) (ad : Nat → Nat) (σ : Nat → Nat → Int32) (n : Nat) : va_E :=
  if n < 270 then wcel G ad (18*(n/18)) (σ (n/18)) (n%18) else ccel G ad (σ 15) (σ 16) n
def pool (G : CY) (ad : Nat → Nat) (σ : Nat → Nat → Int32) : va_W := (List.range 290).map (fun n => (ad n, cel G ad σ n))
theorem pool_len {G : CY} {ad : Nat → Nat} {σ : Nat → Nat → Int32} : (pool G ad σ).length = 290 := by simp [pool]
theorem pool_at {G : CY} {ad : Nat → Nat} {σ : Nat → Nat → Int32} {n : Nat} (hn : n < 290) : (pool G ad σ)[n]? = some (ad n, cel G ad σ n) := by
  simp [pool, hn]
theorem pool_atE {G : CY} {ad : Nat → Nat} {σ : Nat → Nat → Int32} {n : Nat} {e : va_E} (hn : n < 290) (h : cel G ad σ n = e) : (pool G ad σ)[n]? = some (ad n, e) := by
  rw [pool_at hn, h]
theorem pool_inv {G : CY} {ad : Nat → Nat} {σ : Nat → Nat → Int32} {n : Nat} {q : Nat × va_E} (h : (pool G ad σ)[n]? = some q) : n < 290 ∧ q = (ad n, cel G ad σ n) := by
  by_cases hn : n < 290
  · rw [pool_at hn] at h
    exact ⟨hn, (Option.some.inj h).symm⟩
  · rw [List.getElem?_eq_none (by rw [pool_len]; omega)] at h
    cases h
theorem pool_D {G : CY} {ad : Nat → Nat} {σ : Nat → Nat → Int32} {B0 : Nat} (h : adOK B0 ad) : va_D (AA B0) (pool G ad σ) := by
  refine ⟨fun i j p q hi hj he => ?_, fun k q hk => ?_⟩
  · obtain ⟨h1, rfl⟩ := pool_inv hi
    obtain ⟨h2, rfl⟩ := pool_inv hj
    exact h.1 i j h1 h2 he
  · obtain ⟨h1, rfl⟩ := pool_inv hk
    exact h.2 k h1
theorem pool_set {G : CY} {ad : Nat → Nat} {σ σ' : Nat → Nat → Int32} {n : Nat} {e : va_E} (hn : n < 290) (he : cel G ad σ' n = e) (ho : ∀ m, m < 290 → m ≠ n → cel G ad σ' m = cel G ad σ m) : (pool G ad σ).set n (ad n, e) = pool G ad σ' := by
  refine List.ext_getElem? (fun k => ?_)
  rw [List.getElem?_set]
  by_cases hk : k < 290
  · by_cases h : n = k
    · subst h
      rw [if_pos rfl, if_pos (by rw [pool_len]; exact hk), pool_at hk, he]
    · rw [if_neg h, pool_at hk, pool_at hk, ho k hk (fun q => h q.symm)]
  · rw [List.getElem?_eq_none (l := pool G ad σ') (by rw [pool_len]; omega), List.getElem?_eq_none (l := pool G ad σ) (by rw [pool_len]; omega)]
    rw [if_neg (by omega)]
theorem cel_w {G : CY} {ad : Nat → Nat} {σ : Nat → Nat → Int32} {w j : Nat} (hw : w < 15) (hj : j < 18) : cel G ad σ (18*w+j) = wcel G ad (18*w) (σ w) j := by
  unfold cel
  rw [if_pos (by omega), show (18*w+j)/18 = w by omega, show (18*w+j)%18 = j by omega]
theorem cel_f {G : CY} {ad : Nat → Nat} {σ : Nat → Nat → Int32} {u : Nat → Int32} {w j : Nat} (hw : w < 15) (hj : j < 18) : cel G ad (va_up σ w u) (18*w+j) = wcel G ad (18*w) u j := by
  rw [cel_w hw hj, va_up_self]
theorem cel_c {G : CY} {ad : Nat → Nat} {σ : Nat → Nat → Int32} {n : Nat} (hn : 270 ≤ n) : cel G ad σ n = ccel G ad (σ 15) (σ 16) n := by
  unfold cel
  rw [if_neg (by omega)]
theorem wcel_b {G : CY} {ad : Nat → Nat} {b : Nat} {u : Nat → Int32} {i : Nat} (hi : i < 4) : wcel G ad b u (6+2*i) = bcel ad b u i := by
  unfold wcel
  rw [if_neg (by omega), if_neg (by omega), if_neg (by omega), if_neg (by omega), if_neg (by omega), if_neg (by omega), if_pos (by omega), if_pos (by omega), show (6+2*i-6)/2 = i by omega]
theorem wcel_s {G : CY} {ad : Nat → Nat} {b : Nat} {u : Nat → Int32} {i : Nat} (hi : i < 4) : wcel G ad b u (7+2*i) = scel G u i := by
  unfold wcel
  rw [if_neg (by omega), if_neg (by omega), if_neg (by omega), if_neg (by omega), if_neg (by omega), if_neg (by omega), if_pos (by omega), if_neg (by omega), show (7+2*i-6)/2 = i by omega]
theorem wcel_p {G : CY} {ad : Nat → Nat} {b : Nat} {u : Nat → Int32} {i : Nat} : wcel G ad b u (14+i) = pcel u i := by
  unfold wcel
  rw [if_neg (by omega), if_neg (by omega), if_neg (by omega), if_neg (by omega), if_neg (by omega), if_neg (by omega), if_neg (by omega), show 14+i-14 = i by omega]
theorem wcel_own {G : CY} {ad : Nat → Nat} {b : Nat} {u u' : Nat → Int32} {j : Nat} (hj : j < 18) (h : ∀ t, own t = j → u t = u' t) : wcel G ad b u j = wcel G ad b u' j := by
  by_cases h6 : j < 6
  · rcases (show j = 0 ∨ j = 1 ∨ j = 2 ∨ j = 3 ∨ j = 4 ∨ j = 5 by omega) with rfl | rfl | rfl | rfl | rfl | rfl
    · show ocel ad b u = ocel ad b u'
      simp only [ocel]
      rw [h 464 (by decide), h 465 (by decide), h 466 (by decide)]
    · rfl
    · show kcel G u = kcel G u'
      simp only [kcel]
      rw [tr_eq (fun k hk => h (0+k) (own_k (by omega)))]
    · rfl
    · rfl
    · show acel G u = acel G u'
      simp only [acel]
      rw [tr_eq (fun k hk => h (470+k) (own_a hk))]
  · by_cases h14 : j < 14
    · by_cases hp : j % 2 = 0
      · obtain ⟨i, hi, rfl⟩ : ∃ i, i < 4 ∧ j = 6+2*i := ⟨(j-6)/2, by omega, by omega⟩
        rw [wcel_b hi, wcel_b hi]
        have hq : ∀ k, k < 24 → (k < 14 ∨ 21 ≤ k) → u (336+24*i+k) = u' (336+24*i+k) := fun k h1 h2 => h _ (own_b hi h1 h2)
        simp only [bcel]
        rw [hq 0 (by decide) (by decide), hq 1 (by decide) (by decide), hq 2 (by decide) (by decide), hq 3 (by decide) (by decide), hq 4 (by decide) (by decide), hq 5 (by decide) (by decide), hq 6 (by decide) (by decide), hq 7 (by decide) (by decide), hq 8 (by decide) (by decide), hq 9 (by decide) (by decide), hq 10 (by decide) (by decide), hq 11 (by decide) (by decide), hq 12 (by decide) (by decide), hq 13 (by decide) (by decide), hq 21 (by decide) (by decide)]
      · obtain ⟨i, hi, rfl⟩ : ∃ i, i < 4 ∧ j = 7+2*i := ⟨(j-6)/2, by omega, by omega⟩
        rw [wcel_s hi, wcel_s hi]
        simp only [scel]
        rw [tr_eq (fun k hk => h (336+24*i+14+k) (own_s hi hk))]
    · obtain ⟨i, hi, rfl⟩ : ∃ i, i < 4 ∧ j = 14+i := ⟨j-14, by omega, by omega⟩
      rw [wcel_p, wcel_p]
      have hq : ∀ k, k < 8 → u (432+8*i+k) = u' (432+8*i+k) := fun k h1 => h _ (own_p hi h1)
      simp only [pcel]
      rw [hq 0 (by decide), hq 1 (by decide), hq 2 (by decide), hq 3 (by decide), hq 4 (by decide), hq 5 (by decide), hq 6 (by decide)]
/-- one place of a world's row is written -/
theorem pool_setw {G : CY} {ad : Nat → Nat} {σ : Nat → Nat → Int32} {w j t : Nat} {u u' : Nat → Int32} {e : va_E} {x : Int32} (hw : w < 15) (hj : j < 18) (hu : u' = va_up u t x) (ht : own t = j) (he : wcel G ad (18*w) u' j = e) : (pool G ad (va_up σ w u)).set (18*w+j) (ad (18*w+j), e) = pool G ad (va_up σ w u') := by
  refine pool_set (by omega) (by rw [cel_f hw hj, he]) (fun m hm hne => ?_)
  by_cases h : m < 270
  · have hm2 : m = 18*(m/18) + m%18 := by omega
    rw [hm2, cel_w (by omega) (by omega), cel_w (by omega) (by omega)]
    by_cases h9 : m/18 = w
    · rw [h9, va_up_self, va_up_self]
      refine wcel_own (by omega) (fun t1 ht1 => ?_)
      rw [hu, va_up_ne]
      rintro rfl
      omega
    · rw [va_up_ne _ _ h9, va_up_ne _ _ h9]
  · rw [cel_c (by omega), cel_c (by omega), va_up_ne _ _ (by omega : ¬ 15 = w), va_up_ne _ _ (by omega : ¬ 16 = w), va_up_ne _ _ (by omega : ¬ 15 = w), va_up_ne _ _ (by omega : ¬ 16 = w)]
theorem ccel_own {G : CY} {ad : Nat → Nat} {u u' m m' : Nat → Int32} {n : Nat} (h0 : 270 ≤ n) (hn : n < 290) (h : ∀ t, own15 t = n → u t = u' t) (h2 : ∀ t, own16 t = n → m t = m' t) : ccel G ad u m n = ccel G ad u' m' n := by
  rcases (show n = 270 ∨ n = 271 ∨ n = 272 ∨ n = 273 ∨ n = 274 ∨ n = 275 ∨ n = 276 ∨ n = 277 ∨ n = 278 ∨ n = 279 ∨ n = 280 ∨ n = 281 ∨ n = 282 ∨ n = 283 ∨ n = 284 ∨ n = 285 ∨ n = 286 ∨ n = 287 ∨ n = 288 ∨ n = 289 by omega) with rfl | rfl | rfl | rfl | rfl | rfl | rfl | rfl | rfl | rfl | rfl | rfl | rfl | rfl | rfl | rfl | rfl | rfl | rfl | rfl
  · show rcel ad u = rcel ad u'
    simp only [rcel]; rw [h 0 (by decide), h 1 (by decide)]
  · show icel G 4 10 u = icel G 4 10 u'
    simp only [icel]; rw [tr_eq (fun k hk => h (10+k) (by unfold own15; repeat first | rw [if_pos (by omega)] | rw [if_neg (by omega)]))]
  · show icel G 4 14 u = icel G 4 14 u'
    simp only [icel]; rw [tr_eq (fun k hk => h (14+k) (by unfold own15; repeat first | rw [if_pos (by omega)] | rw [if_neg (by omega)]))]
  · show ycel ad u = ycel ad u'
    simp only [ycel]; rw [h 2 (by decide), h 3 (by decide)]
  · rfl
  · show xcel ad u = xcel ad u'
    simp only [xcel]; rw [h 4 (by decide), h 5 (by decide)]
  · show hcel G 40 20 u = hcel G 40 20 u'
    simp only [hcel]; rw [tr_eq (fun k hk => h (20+k) (by unfold own15; repeat first | rw [if_pos (by omega)] | rw [if_neg (by omega)]))]
  · show icel G 20 60 u = icel G 20 60 u'
    simp only [icel]; rw [tr_eq (fun k hk => h (60+k) (by unfold own15; repeat first | rw [if_pos (by omega)] | rw [if_neg (by omega)]))]
  · show icel G 20 80 u = icel G 20 80 u'
    simp only [icel]; rw [tr_eq (fun k hk => h (80+k) (by unfold own15; repeat first | rw [if_pos (by omega)] | rw [if_neg (by omega)]))]
  · show mcel ad m = mcel ad m'
    simp only [mcel]; rw [h2 490 (by decide), h2 491 (by decide), h2 492 (by decide), h2 493 (by decide), h2 494 (by decide), h2 495 (by decide), h2 496 (by decide)]
  · show icel G 480 0 m = icel G 480 0 m'
    simp only [icel]; rw [tr_eq (fun k hk => h2 (0+k) (by unfold own16; repeat first | rw [if_pos (by omega)] | rw [if_neg (by omega)]))]
  · show icel G 4 480 m = icel G 4 480 m'
    simp only [icel]; rw [tr_eq (fun k hk => h2 (480+k) (by unfold own16; repeat first | rw [if_pos (by omega)] | rw [if_neg (by omega)]))]
  · show icel G 4 484 m = icel G 4 484 m'
    simp only [icel]; rw [tr_eq (fun k hk => h2 (484+k) (by unfold own16; repeat first | rw [if_pos (by omega)] | rw [if_neg (by omega)]))]
  · show icel G 5760 2000 m = icel G 5760 2000 m'
    simp only [icel]; rw [tr_eq (fun k hk => h2 (2000+k) (by unfold own16; repeat first | rw [if_pos (by omega)] | rw [if_neg (by omega)]))]
  · show icel G 480 600 m = icel G 480 600 m'
    simp only [icel]; rw [tr_eq (fun k hk => h2 (600+k) (by unfold own16; repeat first | rw [if_pos (by omega)] | rw [if_neg (by omega)]))]
  · show icel G 480 1100 m = icel G 480 1100 m'
    simp only [icel]; rw [tr_eq (fun k hk => h2 (1100+k) (by unfold own16; repeat first | rw [if_pos (by omega)] | rw [if_neg (by omega)]))]
  · show icel G 4 580 m = icel G 4 580 m'
    simp only [icel]; rw [tr_eq (fun k hk => h2 (580+k) (by unfold own16; repeat first | rw [if_pos (by omega)] | rw [if_neg (by omega)]))]
  · show hcel G 40 500 m = hcel G 40 500 m'
    simp only [hcel]; rw [tr_eq (fun k hk => h2 (500+k) (by unfold own16; repeat first | rw [if_pos (by omega)] | rw [if_neg (by omega)]))]
  · show icel G 20 540 m = icel G 20 540 m'
    simp only [icel]; rw [tr_eq (fun k hk => h2 (540+k) (by unfold own16; repeat first | rw [if_pos (by omega)] | rw [if_neg (by omega)]))]
  · show icel G 20 560 m = icel G 20 560 m'
    simp only [icel]; rw [tr_eq (fun k hk => h2 (560+k) (by unfold own16; repeat first | rw [if_pos (by omega)] | rw [if_neg (by omega)]))]
theorem pool_set15 {G : CY} {ad : Nat → Nat} {σ : Nat → Nat → Int32} {n t : Nat} {u u' : Nat → Int32} {e : va_E} {x : Int32} (h0 : 270 ≤ n) (hn : n < 290) (hu : u' = va_up u t x) (ht : own15 t = n) (he : ccel G ad u' (σ 16) n = e) : (pool G ad (va_up σ 15 u)).set n (ad n, e) = pool G ad (va_up σ 15 u') := by
  refine pool_set (by omega) (by rw [cel_c h0, va_up_self, va_up_ne _ _ (by decide : ¬ 16 = 15), he]) (fun m hm hne => ?_)
  by_cases h : m < 270
  · unfold cel
    rw [if_pos h, if_pos h, va_up_ne _ _ (by omega : ¬ m/18 = 15), va_up_ne _ _ (by omega : ¬ m/18 = 15)]
  · rw [cel_c (by omega), cel_c (by omega), va_up_self, va_up_self, va_up_ne _ _ (by decide : ¬ 16 = 15), va_up_ne _ _ (by decide : ¬ 16 = 15)]
    refine ccel_own (by omega) hm (fun t1 ht1 => ?_) (fun _ _ => rfl)
    rw [hu, va_up_ne]
    rintro rfl
    omega
theorem pool_set16 {G : CY} {ad : Nat → Nat} {σ : Nat → Nat → Int32} {n t : Nat} {u u' : Nat → Int32} {e : va_E} {x : Int32} (h0 : 270 ≤ n) (hn : n < 290) (hu : u' = va_up u t x) (ht : own16 t = n) (he : ccel G ad (σ 15) u' n = e) : (pool G ad (va_up σ 16 u)).set n (ad n, e) = pool G ad (va_up σ 16 u') := by
  refine pool_set (by omega) (by rw [cel_c h0, va_up_self, va_up_ne _ _ (by decide : ¬ 15 = 16), he]) (fun m hm hne => ?_)
  by_cases h : m < 270
  · unfold cel
    rw [if_pos h, if_pos h, va_up_ne _ _ (by omega : ¬ m/18 = 16), va_up_ne _ _ (by omega : ¬ m/18 = 16)]
  · rw [cel_c (by omega), cel_c (by omega), va_up_self, va_up_self, va_up_ne _ _ (by decide : ¬ 15 = 16), va_up_ne _ _ (by decide : ¬ 15 = 16)]
    refine ccel_own (by omega) hm (fun _ _ => rfl) (fun t1 ht1 => ?_)
    rw [hu, va_up_ne]
    rintro rfl
    omega
