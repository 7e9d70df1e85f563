/-! THE START: what lies behind both constructors is the pool -/
def adH (h n : Nat) : Nat := if n < 54 then h + 1 + n else if n < 270 then h + 5 + n else if n = 270 then h else if n < 275 then h + (n - 216) else h + n
def s15 : Nat → Int32 := fun t => if t = 1 then -1 else if 10 ≤ t ∧ t < 14 then fsS (t - 10) else if 14 ≤ t ∧ t < 18 then fsS (t - 14) else 0
def m00 : Nat → Int32 := fun t => if t = 496 then -1 else if 480 ≤ t ∧ t < 484 then fsS (t - 480) else 0
def σ00 : Nat → Nat → Int32 := fun r => if r = 15 then s15 else if r = 16 then m00 else u0
theorem adH_ok (h : Nat) : adOK h (adH h) := by
  refine ⟨fun i j hi hj e => ?_, fun i hi => ?_⟩
  · unfold adH at e
    split at e <;> split at e <;> (try split at e) <;> (try split at e) <;> (try split at e) <;> (try split at e) <;> (try split at e) <;> (try split at e) <;> omega
  · show h ≤ adH h i ∧ adH h i ≠ h + 290 ∧ adH h i ≠ h + 291
    unfold adH
    split
    · omega
    · split
      · omega
      · split
        · omega
        · split <;> omega
theorem m00_0 {t : Nat} (h1 : t ≠ 496) (h2 : ¬ (480 ≤ t ∧ t < 484)) : m00 t = 0 := by
  unfold m00
  rw [if_neg h1, if_neg h2]
theorem σ00_w {w : Nat} (hw : w < 15) : σ00 w = u0 := by
  unfold σ00
  rw [if_neg (by omega), if_neg (by omega)]
theorem σ00_15 : σ00 15 = s15 := rfl
theorem σ00_16 : σ00 16 = m00 := rfl
theorem tr_z {n o : Nat} {u : Nat → Int32} (h : ∀ i, i < n → u (o + i) = 0) (i : Nat) : u0 i = tr n o u i := by
  unfold tr
  by_cases e : i < n
  · rw [if_pos e, h i e]; rfl
  · rw [if_neg e]; rfl
theorem wcel_ad {D : va_G} {G : CY} {ad : Nat → Nat} {b hw a j : Nat} {H : Heap} (hj : j < 18) (had : ∀ i, i < 18 → ad (b + i) = hw + (0 + i)) (h : va_at D vwCl (a, wcel G (fun n => hw + n) 0 u0 j) H) : va_at D vwCl (a, wcel G ad b u0 j) H := by
  by_cases e0 : j = 0
  · subst e0
    have e : wcel G ad b u0 0 = wcel G (fun n => hw + n) 0 u0 0 := by
      show ocel ad b u0 = ocel (fun n => hw + n) 0 u0
      unfold ocel
      rw [had 1 (by decide), had 3 (by decide), had 4 (by decide), had 5 (by decide)]
    rw [e]; exact h
  · by_cases e1 : j = 1
    · subst e1
      have e : wcel G ad b u0 1 = wcel G (fun n => hw + n) 0 u0 1 := by
        show (.inr (6, [.ref (ad (b+2))]) : va_E) = .inr (6, [.ref (hw + (0+2))])
        rw [had 2 (by decide)]
      rw [e]; exact h
    · by_cases e2 : j = 2
      · subst e2; exact h
      · by_cases e3 : j = 3
        · subst e3
          have h : va_at D vwCl (a, .inl (G.2.2.1, 4, .inr (.inr (.inr (.inr (fun i => some (hw + (0+(6+2*i)))))))) ) H := h
          exact cell_q (g := fun i => some (ad (b+(6+2*i)))) (fun i hi => by rw [had (6+2*i) (by omega)]) h
        · by_cases e4 : j = 4
          · subst e4
            have h : va_at D vwCl (a, .inl (G.2.2.2.1, 4, .inr (.inr (.inr (.inr (fun i => some (hw + (0+(14+i)))))))) ) H := h
            exact cell_q (g := fun i => some (ad (b+(14+i)))) (fun i hi => by rw [had (14+i) (by omega)]) h
          · unfold wcel at h ⊢
            rw [if_neg e0, if_neg e1, if_neg e2, if_neg e3, if_neg e4] at h ⊢
            by_cases e5 : j = 5
            · rw [if_pos e5] at h ⊢; exact h
            · rw [if_neg e5] at h ⊢
              by_cases e6 : j < 14
              · rw [if_pos e6] at h ⊢
                by_cases e7 : j % 2 = 0
                · rw [if_pos e7] at h ⊢
                  have e : bcel ad b u0 ((j-6)/2) = bcel (fun n => hw + n) 0 u0 ((j-6)/2) := by
                    unfold bcel
                    rw [had (7+2*((j-6)/2)) (by omega)]
                  rw [e]; exact h
                · rw [if_neg e7] at h ⊢; exact h
              · rw [if_neg e6] at h ⊢; exact h
theorem w1_w {G : CY} {h0 k j : Nat} (hj : j < 18) : w1 G h0 (2+18*k+j) = w5 G (h0 + (2+18*k)) j := by
  unfold w1 w1p
  rw [if_neg (by omega), if_neg (by omega), show (2+18*k+j-2)/18 = k by omega, show (2+18*k+j-2)%18 = j by omega]
theorem w6_w {G : CY} {h0 w j : Nat} (hw : w < 15) (hj : j < 18) : ∃ t, t < 279 ∧ h0 + t = adH h0 (18*w+j) ∧ w6 G h0 t = w5 G (adH h0 (18*w)) j := by
  by_cases e3 : w < 3
  · refine ⟨1 + 18*w + j, by omega, by unfold adH; rw [if_pos (by omega)]; omega, ?_⟩
    unfold adH
    rw [if_pos (by omega)]
    unfold w6
    rw [if_neg (by omega)]
    rcases (show w = 0 ∨ w = 1 ∨ w = 2 by omega) with rfl | rfl | rfl
    · rw [if_pos (by omega), show 1 + 18*0 + j - 1 = j by omega]
    · rw [if_neg (by omega), if_pos (by omega), show 1 + 18*1 + j - 19 = j by omega]
    · rw [if_neg (by omega), if_neg (by omega), if_pos (by omega), show 1 + 18*2 + j - 37 = j by omega]
  · refine ⟨5 + 18*w + j, by omega, by unfold adH; rw [if_neg (by omega), if_pos (by omega)]; omega, ?_⟩
    unfold adH
    rw [if_neg (by omega), if_pos (by omega)]
    unfold w6
    rw [if_neg (by omega), if_neg (by omega), if_neg (by omega), if_neg (by omega), if_neg (by omega), if_pos (by omega), show 5 + 18*w + j - 57 = 2 + 18*(w-3) + j by omega, w1_w hj, show h0 + 57 + (2 + 18*(w-3)) = h0 + 5 + 18*w by omega]
theorem pool_start {D : va_G} {G : CY} {h0 : Nat} {H : Heap} (h6 : ∀ t, t < 279 → va_at D vwCl (h0 + t, w6 G h0 t) H) (h7 : ∀ t, t < 11 → va_at D vwCl (h0 + 279 + t, w7 G (h0 + 279) t) H) : va_P D vwCl (pool G (adH h0) σ00) H := by
  intro k q hk
  obtain ⟨hn, rfl⟩ := pool_inv hk
  by_cases e : k < 270
  · have hw : k / 18 < 15 := by omega
    have hj : k % 18 < 18 := Nat.mod_lt _ (by decide)
    obtain ⟨t, t1, t2, t3⟩ := w6_w (G := G) (h0 := h0) hw hj
    have h := h6 t t1
    rw [t3, t2] at h
    have ek : 18 * (k / 18) + k % 18 = k := Nat.div_add_mod k 18
    rw [ek] at h
    have ec : cel G (adH h0) σ00 k = wcel G (adH h0) (18 * (k / 18)) u0 (k % 18) := by
      unfold cel
      rw [if_pos e, σ00_w hw]
    rw [ec]
    refine wcel_ad hj (fun i hi => ?_) h
    unfold adH
    by_cases e3 : k / 18 < 3
    · rw [if_pos (by omega), if_pos (by omega)]; omega
    · rw [if_neg (by omega), if_pos (by omega), if_neg (by omega), if_pos (by omega)]; omega
  · rw [cel_c (by omega), σ00_15, σ00_16]
    rcases (show k = 270 ∨ k = 271 ∨ k = 272 ∨ k = 273 ∨ k = 274 ∨ k = 275 ∨ k = 276 ∨ k = 277 ∨ k = 278 ∨ k = 279 ∨ k = 280 ∨ k = 281 ∨ k = 282 ∨ k = 283 ∨ k = 284 ∨ k = 285 ∨ k = 286 ∨ k = 287 ∨ k = 288 ∨ k = 289 by omega) with rfl | rfl | rfl | rfl | rfl | rfl | rfl | rfl | rfl | rfl | rfl | rfl | rfl | rfl | rfl | rfl | rfl | rfl | rfl | rfl
    · have h := h6 0 (by decide)
      show va_at D vwCl (h0, .inr (8, [.ref (h0+1), .ref (h0+1+18), .ref (h0+1+36), .ref (h0+55), .ref (h0+56), .ref (h0+57), .ref (h0+275), .int (nb 0), .int (-1)])) H
      rw [nb0]; exact h
    · exact cell_i (by decide : ∀ i, i < 4 → fsS i = tr 4 10 s15 i) (h6 55 (by decide))
    · exact cell_i (by decide : ∀ i, i < 4 → fsS i = tr 4 14 s15 i) (h6 56 (by decide))
    · exact h6 57 (by decide)
    · have h := h6 58 (by decide)
      have h : va_at D vwCl (h0 + 58, .inl (G.2.2.2.2, 12, .inr (.inr (.inr (.inr (fun q => if q < 12 then some (h0 + 57 + (2+18*q)) else none)))))) H := h
      refine cell_q (g := fun i => some (adH h0 (18*(3+i)))) (fun i hi => ?_) h
      rw [if_pos hi]
      unfold adH
      rw [if_neg (by omega), if_pos (by omega)]
      exact congrArg some (by omega)
    · exact h6 275 (by decide)
    · exact cell_i (by decide : ∀ i, i < 40 → u0 i = tr 40 20 s15 i) (h6 276 (by decide))
    · exact cell_i (by decide : ∀ i, i < 20 → u0 i = tr 20 60 s15 i) (h6 277 (by decide))
    · exact cell_i (by decide : ∀ i, i < 20 → u0 i = tr 20 80 s15 i) (h6 278 (by decide))
    · have h := h7 0 (by decide)
      show va_at D vwCl (h0 + 279, .inr (9, [.int 0, .ref (h0+280), .ref (h0+281), .ref (h0+282), .ref (h0+283), .ref (h0+284), .ref (h0+285), .ref (h0+286), .int 0, .int (nb 0), .ref (h0+287), .ref (h0+288), .ref (h0+289), .int 0, .int 0, .int 0, .int (-1)])) H
      rw [nb0]; exact h
    · exact cell_i (fun i hi => tr_z (n := 480) (o := 0) (u := m00) (fun i hi => m00_0 (by omega) (by omega)) i) (h7 1 (by decide))
    · exact cell_i (by decide) (h7 2 (by decide))
    · exact cell_i (fun i hi => tr_z (n := 4) (o := 484) (u := m00) (fun i hi => m00_0 (by omega) (by omega)) i) (h7 3 (by decide))
    · exact cell_i (fun i hi => tr_z (n := 5760) (o := 2000) (u := m00) (fun i hi => m00_0 (by omega) (by omega)) i) (h7 4 (by decide))
    · exact cell_i (fun i hi => tr_z (n := 480) (o := 600) (u := m00) (fun i hi => m00_0 (by omega) (by omega)) i) (h7 5 (by decide))
    · exact cell_i (fun i hi => tr_z (n := 480) (o := 1100) (u := m00) (fun i hi => m00_0 (by omega) (by omega)) i) (h7 6 (by decide))
    · exact cell_i (fun i hi => tr_z (n := 4) (o := 580) (u := m00) (fun i hi => m00_0 (by omega) (by omega)) i) (h7 7 (by decide))
    · exact cell_i (fun i hi => tr_z (n := 40) (o := 500) (u := m00) (fun i hi => m00_0 (by omega) (by omega)) i) (h7 8 (by decide))
    · exact cell_i (fun i hi => tr_z (n := 20) (o := 540) (u := m00) (fun i hi => m00_0 (by omega) (by omega)) i) (h7 9 (by decide))
    · exact cell_i (fun i hi => tr_z (n := 20) (o := 560) (u := m00) (fun i hi => m00_0 (by omega) (by omega)) i) (h7 10 (by decide))
theorem top_start : Top 383 σ00 m00 := by
  have hz : ∀ t, t < 467 → m00 t = 0 := fun t ht => m00_0 (by omega) (by omega)
  refine ⟨by decide, ⟨0, 0, fun t ht => ?_, ⟨by decide, by decide⟩, ⟨rfl, rfl⟩, fun i j hi => absurd hi (Nat.not_lt_zero _), fun i j hi => absurd hi (Nat.not_lt_zero _)⟩, ⟨by decide, by decide, by decide, by decide, by decide⟩, ⟨rfl, fun hn => absurd (show nb (m00 492) = 0 from nb0) hn⟩, ⟨0, 0, by decide, by decide, rfl, rfl, rfl, fun j hj => absurd hj (Nat.not_lt_zero _)⟩, ⟨0, by decide, rfl, rfl, fun j hj => absurd hj (Nat.not_lt_zero _)⟩, rfl⟩
  have := ht.lt (by decide) (by decide)
  rw [hz t this]; rfl
theorem okW_u0 : okW u0 := by
  show 0 ≤ (0 : Int32).toInt ∧ (0 : Int32).toInt ≤ 4 ∧ 0 ≤ (0 : Int32).toInt ∧ (0 : Int32).toInt ≤ 4
  decide
theorem ok_start : okS σ00 := by
  refine ⟨fun w hw => by rw [σ00_w hw]; exact okW_u0, ?_, ?_⟩
  · show okC s15
    unfold okC
    decide
  · show okM m00
    refine ⟨?_, by decide, by decide, by decide, by decide, fun o ho => ?_⟩
    · unfold okW; decide
    · have h4 : m00 (o + 464) = 0 := m00_0 (by omega) (by omega)
      have h5 : m00 (o + 465) = 0 := m00_0 (by omega) (by omega)
      show 0 ≤ (m00 (o + 464)).toInt ∧ (m00 (o + 464)).toInt ≤ 4 ∧ 0 ≤ (m00 (o + 465)).toInt ∧ (m00 (o + 465)).toInt ≤ 4
      rw [h4, h5]
      decide
