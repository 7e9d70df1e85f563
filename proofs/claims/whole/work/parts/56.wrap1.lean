/-! THE LAW'S WRAPPERS -/
set_option maxHeartbeats 4000000 in
set_option maxRecDepth 100000 in
theorem cL_setTile_met (l : Launch) (hl0 : l.stackTraces = false) {D : va_G} {G : CY} {ad : Nat → Nat} {B0 : Nat} (hA : adOK B0 ad) (σ : Nat → Nat → Int32) (a : Int32) (b : Int32) (c1 : Int32) (cL : ClassId) (f : Nat → Int64) (hO : okS σ) (hE : ∀ E z, ((Sum.inr E, z) : RT) = f6_setTile σ a b c1 → ∃ n, (cd3 xOB xIA xIS) E n) : vx_Met l yL_setTile wsL_setTile { frames := 8, cells := 3, slots := 18, locals := 141 } (va_Pc [.ref (ad (270)), .int a, .int b, .int c1, .ref (B0+290)] (Hw1 D G ad B0 σ cL f)) (va_Qi (fun (r : Int32) (z : ((Nat → Nat → Int32) × (Nat → Int64))) => okS z.1 ∧ ((∃ v, ((Sum.inl v, z.1) : RT) = f6_setTile σ a b c1 ∧ r = 0 ∧ z.2 0 = v.toInt64) ∨ (∃ E, ((Sum.inr E, z.1) : RT) = f6_setTile σ a b c1 ∧ (cd3 xOB xIA xIS) E r))) (fun z t => Ho D G ad z.1 t ∧ va_P D vwCl [(B0+290, .inl (cL, 1, .inr (.inl z.2)))] t.heap) (AW1 B0)) (vx_X (fun (_ : Unit) => False) (fun _ _ _ => True) (AW1 B0)) 3 18 (AW1 B0) := by
  refine vx_ofWH (cc := cL_setTile) (maxL := 6) (ret := (some .int)) (hh := [(0, 12, 15, 13), (0, 12, 19, 15), (0, 12, 23, 17)]) (by decide) rfl ?_
  intro p e s m args below meth c s₁ B hml hv
  obtain ⟨rfl, ⟨⟨hP, hK, hN⟩, hT, hL, adK, adV, hG, hR⟩, hNc, hPo, hKo⟩ := hv
  have hx := B.exec
  have hb := B.bytes
  have hr := B.returns
  have hts := atoms_spec (ws := wsL_setTile) B.pre
  have hown : s.vm.findClass RL = some m.cls := findClass_of_methodNamed B.named
  have hlocks := B.notSynchronized
  have htab : c.exceptionTable.toList = tableOf [(0, 12, 15, 13), (0, 12, 19, 15), (0, 12, 23, 17)] := vx_table (x := yL_setTile) B (hts _ List.mem_cons_self)
  have hP : va_P D vwCl (pool G ad σ) s.heap := hP
  have hS : va_S (AW1 B0) s.heap s.heap [] := va_S.rf
  have hl := lv_entry ([.ref (ad (270)), .int a, .int b, .int c1, .ref (B0+290)]) (n := 6) (Nat.le_of_ble_eq_true rfl)
  rw [lg_entry_eq]
  generalize (lg_sl ([.ref (ad (270)), .int a, .int b, .int c1, .ref (B0+290)]) ++ List.replicate (6 - (lg_sl ([.ref (ad (270)), .int a, .int b, .int c1, .ref (B0+290)])).length) Slot.unset).toArray = ls at hl ⊢
  have hl : lv_has ls 6 [(0, .ref (ad (270))), (1, .int a), (2, .int b), (3, .int c1), (4, .ref (B0+290))] := hl
  refine lv_aload hx hb dL_setTile_0 (lv_at hl 4 rfl) ?_
  refine lv_iconst (v := 0) hx hb dL_setTile_2 (by decide) ?_
  refine lv_aload_n hx hb dL_setTile_3 rfl (lv_at hl 0 rfl) ?_
  refine lv_iload_n hx hb dL_setTile_4 rfl (lv_at hl 1 rfl) ?_
  refine lv_iload_n hx hb dL_setTile_5 rfl (lv_at hl 2 rfl) ?_
  refine lv_iload_n hx hb dL_setTile_6 rfl (lv_at hl 3 rfl) ?_
  refine vx_calli (vx_runV (As := [.int a, .int b, .int c1]) (rest := [.int 0, .ref (B0+290)]) ⟨hx, hb, hml, hown, hts⟩ (c6_setTile l hl0 hA σ a b c1 hO) (cwV 3 hts gL_setTile_X6_setTile rfl rfl rfl hd_X6_setTileV ⟨(Nat.le_of_ble_eq_true rfl), (Nat.le_of_ble_eq_true rfl)⟩) ⟨hx_blind, va_recv hK hP (ci := 8) (q0 := 270) rfl g_270, hx_pre hK hN hT hL hG hR va_S.rf hP⟩ rfl rfl hl.1 rfl (lv_room (Nat.le_of_ble_eq_true rfl)) dL_setTile_7 ⟨(Nat.le_of_ble_eq_true rfl), (Nat.le_of_ble_eq_true rfl)⟩) hS (fun q _ h => Or.inl h) (fun q h => Or.inl h) (fun q _ h => Or.inl h) (fun E9 ce9 q9 z9 t9 H locs ht9 hvm9 hw9 hB9 hz9 hk9 hS hce9 hcv9 hcl9 => ?_) (fun v9 σ9 t H locs ht hvm hw9 hB hz1 hk1 hS => ?_)
  · obtain ⟨eqx, okx⟩ := hw9
    obtain ⟨rfl, hBx⟩ := hB9
    have hP := ho_at ht9 hBx
    have hPo := hPo.kept (fun k q hk => hk9 q.1 (vx_lt hPo hk) (wo_out1 hk))
    obtain ⟨n9, hn9⟩ := hE _ _ eqx
    rcases hn9 with ⟨h1, h2⟩ | ⟨h1, h2⟩ | ⟨h1, h2⟩
    · rw [h1] at hcl9
      refine vx_catch (own := RL) (name := xOB) hown (tableOf []) ⟨0, 12, 15, 13⟩ (tableOf [(0, 12, 19, 15), (0, 12, 23, 17)]) htab (fun z hz => nomatch hz) rfl (by decide) (hts (.classLink RL 13 "java/lang/IndexOutOfBoundsException") (List.mem_of_getElem? (i := 1) rfl)) ((hL.2.1 xOB (by decide)).use rfl) hce9 hcv9 hcl9 ?_
      refine lv_astore (lv' := [(5, .ref q9), (0, .ref (ad (270))), (1, .int a), (2, .int b), (3, .int c1), (4, .ref (B0+290))]) hx hb dL_setTile_15 hl (by decide) rfl (fun ls hl => ?_)
      refine lv_iconst (v := 1) hx hb dL_setTile_17 (by decide) ?_
      exact vx_ret (W.widen (Nat.le_of_ble_eq_true rfl) (Nat.le_of_ble_eq_true rfl) (W.iret (v := 1) hx hb hr (fun t ht hW => ⟨⟨1, (z9.2, f), rfl, ⟨okx, Or.inr ⟨z9.1, eqx, Or.inl ⟨h1, rfl⟩⟩⟩, ⟨ho_of ht hP, by rw [ht]; exact hPo⟩⟩, hS.F ht⟩) hS.2.2 dL_setTile_18))
    · rw [h1] at hcl9
      refine vx_catch (own := RL) (name := xIA) hown (tableOf [(0, 12, 15, 13)]) ⟨0, 12, 19, 15⟩ (tableOf [(0, 12, 23, 17)]) htab (fun z hz => by cases List.mem_singleton.mp hz; exact Or.inr ⟨by decide, xOB, (hts (.classLink RL 13 "java/lang/IndexOutOfBoundsException") (List.mem_of_getElem? (i := 1) rfl)), hNc.1⟩) rfl (by decide) (hts (.classLink RL 15 "java/lang/IllegalArgumentException") (List.mem_of_getElem? (i := 2) rfl)) ((hL.2.1 xIA (by decide)).use rfl) hce9 hcv9 hcl9 ?_
      refine lv_astore (lv' := [(5, .ref q9), (0, .ref (ad (270))), (1, .int a), (2, .int b), (3, .int c1), (4, .ref (B0+290))]) hx hb dL_setTile_19 hl (by decide) rfl (fun ls hl => ?_)
      refine lv_iconst (v := 2) hx hb dL_setTile_21 (by decide) ?_
      exact vx_ret (W.widen (Nat.le_of_ble_eq_true rfl) (Nat.le_of_ble_eq_true rfl) (W.iret (v := 2) hx hb hr (fun t ht hW => ⟨⟨2, (z9.2, f), rfl, ⟨okx, Or.inr ⟨z9.1, eqx, Or.inr (Or.inl ⟨h1, rfl⟩)⟩⟩, ⟨ho_of ht hP, by rw [ht]; exact hPo⟩⟩, hS.F ht⟩) hS.2.2 dL_setTile_22))
    · rw [h1] at hcl9
      refine vx_catch (own := RL) (name := xIS) hown (tableOf [(0, 12, 15, 13), (0, 12, 19, 15)]) ⟨0, 12, 23, 17⟩ (tableOf []) htab (fun z hz => by rcases List.mem_cons.mp hz with rfl | hz; exact Or.inr ⟨by decide, xOB, (hts (.classLink RL 13 "java/lang/IndexOutOfBoundsException") (List.mem_of_getElem? (i := 1) rfl)), hNc.2.1⟩; cases List.mem_singleton.mp hz; exact Or.inr ⟨by decide, xIA, (hts (.classLink RL 15 "java/lang/IllegalArgumentException") (List.mem_of_getElem? (i := 2) rfl)), hNc.2.2.1⟩) rfl (by decide) (hts (.classLink RL 17 "java/lang/IllegalStateException") (List.mem_of_getElem? (i := 3) rfl)) ((hL.2.1 xIS (by decide)).use rfl) hce9 hcv9 hcl9 ?_
      refine lv_astore (lv' := [(5, .ref q9), (0, .ref (ad (270))), (1, .int a), (2, .int b), (3, .int c1), (4, .ref (B0+290))]) hx hb dL_setTile_23 hl (by decide) rfl (fun ls hl => ?_)
      refine lv_iconst (v := 3) hx hb dL_setTile_25 (by decide) ?_
      exact vx_ret (W.widen (Nat.le_of_ble_eq_true rfl) (Nat.le_of_ble_eq_true rfl) (W.iret (v := 3) hx hb hr (fun t ht hW => ⟨⟨3, (z9.2, f), rfl, ⟨okx, Or.inr ⟨z9.1, eqx, Or.inr (Or.inr (⟨h1, rfl⟩))⟩⟩, ⟨ho_of ht hP, by rw [ht]; exact hPo⟩⟩, hS.F ht⟩) hS.2.2 dL_setTile_26))
  · obtain ⟨eq9, ok9⟩ := hw9
    have hP := ho_at ht hB
    have hPo := hPo.kept (fun k q hk => hk1 q.1 (vx_lt hPo hk) (wo_out1 hk))
    refine lv_i2l (v := v9.toInt64) hx hb dL_setTile_10 rfl ?_
    refine va_last (tys := [(cL, .long)]) hx hb hKo (va_P.app hP hPo) (wp_D1 hA) hS 290 0 (wp_at (ad := ad) (G := G)) rfl (vp_in_iff.mpr (by decide)) dL_setTile_11 (fun H locs hP _ hS => ?_)
    obtain ⟨hP, hPo⟩ := wp_set hP
    refine lv_goto (tgt := 27) hx hb dL_setTile_12 (by decide) ?_
    obtain ⟨f9, ef9⟩ : ∃ z, z = vp_updL f (0 : Int32).toNatClampNeg v9.toInt64 := ⟨_, rfl⟩
    rw [← ef9] at hPo
    have hf9 : f9 0 = v9.toInt64 := by rw [ef9]; rfl
    refine lv_iconst (v := 0) hx hb dL_setTile_27 (by decide) ?_
    exact vx_ret (W.widen (Nat.le_of_ble_eq_true rfl) (Nat.le_of_ble_eq_true rfl) (W.iret (v := 0) hx hb hr (fun t ht hW => ⟨⟨0, (σ9, f9), rfl, ⟨ok9, Or.inl ⟨v9, eq9, rfl, hf9⟩⟩, ⟨ho_of ht hP, by rw [ht]; exact hPo⟩⟩, hS.F ht⟩) hS.2.2 dL_setTile_28))
set_option maxHeartbeats 4000000 in
set_option maxRecDepth 100000 in
theorem cL_tile_met (l : Launch) (hl0 : l.stackTraces = false) {D : va_G} {G : CY} {ad : Nat → Nat} {B0 : Nat} (hA : adOK B0 ad) (σ : Nat → Nat → Int32) (a : Int32) (b : Int32) (cL : ClassId) (f : Nat → Int64) (hO : okS σ) (hE : ∀ E z, ((Sum.inr E, z) : RT) = f6_tile σ a b → ∃ n, (cd1 xOB) E n) : vx_Met l yL_tile wsL_tile { frames := 8, cells := 2, slots := 12, locals := 139 } (va_Pc [.ref (ad (270)), .int a, .int b, .ref (B0+290)] (Hw1 D G ad B0 σ cL f)) (va_Qi (fun (r : Int32) (z : ((Nat → Nat → Int32) × (Nat → Int64))) => okS z.1 ∧ ((∃ v, ((Sum.inl v, z.1) : RT) = f6_tile σ a b ∧ r = 0 ∧ z.2 0 = v.toInt64) ∨ (∃ E, ((Sum.inr E, z.1) : RT) = f6_tile σ a b ∧ (cd1 xOB) E r))) (fun z t => Ho D G ad z.1 t ∧ va_P D vwCl [(B0+290, .inl (cL, 1, .inr (.inl z.2)))] t.heap) (AW1 B0)) (vx_X (fun (_ : Unit) => False) (fun _ _ _ => True) (AW1 B0)) 2 12 (AW1 B0) := by
  refine vx_ofWH (cc := cL_tile) (maxL := 5) (ret := (some .int)) (hh := [(0, 10, 13, 13)]) (by decide) rfl ?_
  intro p e s m args below meth c s₁ B hml hv
  obtain ⟨rfl, ⟨⟨hP, hK, hN⟩, hT, hL, adK, adV, hG, hR⟩, hNc, hPo, hKo⟩ := hv
  have hx := B.exec
  have hb := B.bytes
  have hr := B.returns
  have hts := atoms_spec (ws := wsL_tile) B.pre
  have hown : s.vm.findClass RL = some m.cls := findClass_of_methodNamed B.named
  have hlocks := B.notSynchronized
  have htab : c.exceptionTable.toList = tableOf [(0, 10, 13, 13)] := vx_table (x := yL_tile) B (hts _ List.mem_cons_self)
  have hP : va_P D vwCl (pool G ad σ) s.heap := hP
  have hS : va_S (AW1 B0) s.heap s.heap [] := va_S.rf
  have hl := lv_entry ([.ref (ad (270)), .int a, .int b, .ref (B0+290)]) (n := 5) (Nat.le_of_ble_eq_true rfl)
  rw [lg_entry_eq]
  generalize (lg_sl ([.ref (ad (270)), .int a, .int b, .ref (B0+290)]) ++ List.replicate (5 - (lg_sl ([.ref (ad (270)), .int a, .int b, .ref (B0+290)])).length) Slot.unset).toArray = ls at hl ⊢
  have hl : lv_has ls 5 [(0, .ref (ad (270))), (1, .int a), (2, .int b), (3, .ref (B0+290))] := hl
  refine lv_aload_n hx hb dL_tile_0 rfl (lv_at hl 3 rfl) ?_
  refine lv_iconst (v := 0) hx hb dL_tile_1 (by decide) ?_
  refine lv_aload_n hx hb dL_tile_2 rfl (lv_at hl 0 rfl) ?_
  refine lv_iload_n hx hb dL_tile_3 rfl (lv_at hl 1 rfl) ?_
  refine lv_iload_n hx hb dL_tile_4 rfl (lv_at hl 2 rfl) ?_
  refine vx_calli (vx_runV (As := [.int a, .int b]) (rest := [.int 0, .ref (B0+290)]) ⟨hx, hb, hml, hown, hts⟩ (c6_tile l hl0 hA σ a b hO) (cwV 2 hts gL_tile_X6_tile rfl rfl rfl hd_X6_tileV ⟨(Nat.le_of_ble_eq_true rfl), (Nat.le_of_ble_eq_true rfl)⟩) ⟨hx_blind, va_recv hK hP (ci := 8) (q0 := 270) rfl g_270, hx_pre hK hN hT hL hG hR va_S.rf hP⟩ rfl rfl hl.1 rfl (lv_room (Nat.le_of_ble_eq_true rfl)) dL_tile_5 ⟨(Nat.le_of_ble_eq_true rfl), (Nat.le_of_ble_eq_true rfl)⟩) hS (fun q _ h => Or.inl h) (fun q h => Or.inl h) (fun q _ h => Or.inl h) (fun E9 ce9 q9 z9 t9 H locs ht9 hvm9 hw9 hB9 hz9 hk9 hS hce9 hcv9 hcl9 => ?_) (fun v9 σ9 t H locs ht hvm hw9 hB hz1 hk1 hS => ?_)
  · obtain ⟨eqx, okx⟩ := hw9
    obtain ⟨rfl, hBx⟩ := hB9
    have hP := ho_at ht9 hBx
    have hPo := hPo.kept (fun k q hk => hk9 q.1 (vx_lt hPo hk) (wo_out1 hk))
    obtain ⟨n9, hn9⟩ := hE _ _ eqx
    obtain ⟨h1, h2⟩ := hn9
    rw [h1] at hcl9
    refine vx_catch (own := RL) (name := xOB) hown (tableOf []) ⟨0, 10, 13, 13⟩ (tableOf []) htab (fun z hz => nomatch hz) rfl (by decide) (hts (.classLink RL 13 "java/lang/IndexOutOfBoundsException") (List.mem_of_getElem? (i := 1) rfl)) ((hL.2.1 xOB (by decide)).use rfl) hce9 hcv9 hcl9 ?_
    refine lv_astore (lv' := [(4, .ref q9), (0, .ref (ad (270))), (1, .int a), (2, .int b), (3, .ref (B0+290))]) hx hb dL_tile_13 hl (by decide) rfl (fun ls hl => ?_)
    refine lv_iconst (v := 1) hx hb dL_tile_15 (by decide) ?_
    exact vx_ret (W.widen (Nat.le_of_ble_eq_true rfl) (Nat.le_of_ble_eq_true rfl) (W.iret (v := 1) hx hb hr (fun t ht hW => ⟨⟨1, (z9.2, f), rfl, ⟨okx, Or.inr ⟨z9.1, eqx, ⟨h1, rfl⟩⟩⟩, ⟨ho_of ht hP, by rw [ht]; exact hPo⟩⟩, hS.F ht⟩) hS.2.2 dL_tile_16))
  · obtain ⟨eq9, ok9⟩ := hw9
    have hP := ho_at ht hB
    have hPo := hPo.kept (fun k q hk => hk1 q.1 (vx_lt hPo hk) (wo_out1 hk))
    refine lv_i2l (v := v9.toInt64) hx hb dL_tile_8 rfl ?_
    refine va_last (tys := [(cL, .long)]) hx hb hKo (va_P.app hP hPo) (wp_D1 hA) hS 290 0 (wp_at (ad := ad) (G := G)) rfl (vp_in_iff.mpr (by decide)) dL_tile_9 (fun H locs hP _ hS => ?_)
    obtain ⟨hP, hPo⟩ := wp_set hP
    refine lv_goto (tgt := 17) hx hb dL_tile_10 (by decide) ?_
    obtain ⟨f9, ef9⟩ : ∃ z, z = vp_updL f (0 : Int32).toNatClampNeg v9.toInt64 := ⟨_, rfl⟩
    rw [← ef9] at hPo
    have hf9 : f9 0 = v9.toInt64 := by rw [ef9]; rfl
    refine lv_iconst (v := 0) hx hb dL_tile_17 (by decide) ?_
    exact vx_ret (W.widen (Nat.le_of_ble_eq_true rfl) (Nat.le_of_ble_eq_true rfl) (W.iret (v := 0) hx hb hr (fun t ht hW => ⟨⟨0, (σ9, f9), rfl, ⟨ok9, Or.inl ⟨v9, eq9, rfl, hf9⟩⟩, ⟨ho_of ht hP, by rw [ht]; exact hPo⟩⟩, hS.F ht⟩) hS.2.2 dL_tile_18))
set_option maxHeartbeats 4000000 in
set_option maxRecDepth 100000 in
theorem cL_addBody_met (l : Launch) (hl0 : l.stackTraces = false) {D : va_G} {G : CY} {ad : Nat → Nat} {B0 : Nat} (hA : adOK B0 ad) (σ : Nat → Nat → Int32) (a : Int32) (b : Int32) (c1 : Int32) (d : Int32) (cL : ClassId) (f : Nat → Int64) (hO : okS σ) (hE : ∀ E z, ((Sum.inr E, z) : RT) = f6_addBody σ a b c1 d → ∃ n, (cd2 xIA xIS) E n) : vx_Met l yL_addBody wsL_addBody { frames := 8, cells := 3, slots := 18, locals := 142 } (va_Pc [.ref (ad (270)), .int a, .int b, .int c1, .int d, .ref (B0+290)] (Hw1 D G ad B0 σ cL f)) (va_Qi (fun (r : Int32) (z : ((Nat → Nat → Int32) × (Nat → Int64))) => okS z.1 ∧ ((∃ v, ((Sum.inl v, z.1) : RT) = f6_addBody σ a b c1 d ∧ r = 0 ∧ z.2 0 = v.toInt64) ∨ (∃ E, ((Sum.inr E, z.1) : RT) = f6_addBody σ a b c1 d ∧ (cd2 xIA xIS) E r))) (fun z t => Ho D G ad z.1 t ∧ va_P D vwCl [(B0+290, .inl (cL, 1, .inr (.inl z.2)))] t.heap) (AW1 B0)) (vx_X (fun (_ : Unit) => False) (fun _ _ _ => True) (AW1 B0)) 3 18 (AW1 B0) := by
  refine vx_ofWH (cc := cL_addBody) (maxL := 7) (ret := (some .int)) (hh := [(0, 14, 17, 15), (0, 14, 21, 17)]) (by decide) rfl ?_
  intro p e s m args below meth c s₁ B hml hv
  obtain ⟨rfl, ⟨⟨hP, hK, hN⟩, hT, hL, adK, adV, hG, hR⟩, hNc, hPo, hKo⟩ := hv
  have hx := B.exec
  have hb := B.bytes
  have hr := B.returns
  have hts := atoms_spec (ws := wsL_addBody) B.pre
  have hown : s.vm.findClass RL = some m.cls := findClass_of_methodNamed B.named
  have hlocks := B.notSynchronized
  have htab : c.exceptionTable.toList = tableOf [(0, 14, 17, 15), (0, 14, 21, 17)] := vx_table (x := yL_addBody) B (hts _ List.mem_cons_self)
  have hP : va_P D vwCl (pool G ad σ) s.heap := hP
  have hS : va_S (AW1 B0) s.heap s.heap [] := va_S.rf
  have hl := lv_entry ([.ref (ad (270)), .int a, .int b, .int c1, .int d, .ref (B0+290)]) (n := 7) (Nat.le_of_ble_eq_true rfl)
  rw [lg_entry_eq]
  generalize (lg_sl ([.ref (ad (270)), .int a, .int b, .int c1, .int d, .ref (B0+290)]) ++ List.replicate (7 - (lg_sl ([.ref (ad (270)), .int a, .int b, .int c1, .int d, .ref (B0+290)])).length) Slot.unset).toArray = ls at hl ⊢
  have hl : lv_has ls 7 [(0, .ref (ad (270))), (1, .int a), (2, .int b), (3, .int c1), (4, .int d), (5, .ref (B0+290))] := hl
  refine lv_aload hx hb dL_addBody_0 (lv_at hl 5 rfl) ?_
  refine lv_iconst (v := 0) hx hb dL_addBody_2 (by decide) ?_
  refine lv_aload_n hx hb dL_addBody_3 rfl (lv_at hl 0 rfl) ?_
  refine lv_iload_n hx hb dL_addBody_4 rfl (lv_at hl 1 rfl) ?_
  refine lv_iload_n hx hb dL_addBody_5 rfl (lv_at hl 2 rfl) ?_
  refine lv_iload_n hx hb dL_addBody_6 rfl (lv_at hl 3 rfl) ?_
  refine lv_iload hx hb dL_addBody_7 (lv_at hl 4 rfl) ?_
  refine vx_calli (vx_runV (As := [.int a, .int b, .int c1, .int d]) (rest := [.int 0, .ref (B0+290)]) ⟨hx, hb, hml, hown, hts⟩ (c6_addBody l hl0 hA σ a b c1 d hO) (cwV 4 hts gL_addBody_X6_addBody rfl rfl rfl hd_X6_addBodyV ⟨(Nat.le_of_ble_eq_true rfl), (Nat.le_of_ble_eq_true rfl)⟩) ⟨hx_blind, va_recv hK hP (ci := 8) (q0 := 270) rfl g_270, hx_pre hK hN hT hL hG hR va_S.rf hP⟩ rfl rfl hl.1 rfl (lv_room (Nat.le_of_ble_eq_true rfl)) dL_addBody_9 ⟨(Nat.le_of_ble_eq_true rfl), (Nat.le_of_ble_eq_true rfl)⟩) hS (fun q _ h => Or.inl h) (fun q h => Or.inl h) (fun q _ h => Or.inl h) (fun E9 ce9 q9 z9 t9 H locs ht9 hvm9 hw9 hB9 hz9 hk9 hS hce9 hcv9 hcl9 => ?_) (fun v9 σ9 t H locs ht hvm hw9 hB hz1 hk1 hS => ?_)
  · obtain ⟨eqx, okx⟩ := hw9
    obtain ⟨rfl, hBx⟩ := hB9
    have hP := ho_at ht9 hBx
    have hPo := hPo.kept (fun k q hk => hk9 q.1 (vx_lt hPo hk) (wo_out1 hk))
    obtain ⟨n9, hn9⟩ := hE _ _ eqx
    rcases hn9 with ⟨h1, h2⟩ | ⟨h1, h2⟩
    · rw [h1] at hcl9
      refine vx_catch (own := RL) (name := xIA) hown (tableOf []) ⟨0, 14, 17, 15⟩ (tableOf [(0, 14, 21, 17)]) htab (fun z hz => nomatch hz) rfl (by decide) (hts (.classLink RL 15 "java/lang/IllegalArgumentException") (List.mem_of_getElem? (i := 1) rfl)) ((hL.2.1 xIA (by decide)).use rfl) hce9 hcv9 hcl9 ?_
      refine lv_astore (lv' := [(6, .ref q9), (0, .ref (ad (270))), (1, .int a), (2, .int b), (3, .int c1), (4, .int d), (5, .ref (B0+290))]) hx hb dL_addBody_17 hl (by decide) rfl (fun ls hl => ?_)
      refine lv_iconst (v := 1) hx hb dL_addBody_19 (by decide) ?_
      exact vx_ret (W.widen (Nat.le_of_ble_eq_true rfl) (Nat.le_of_ble_eq_true rfl) (W.iret (v := 1) hx hb hr (fun t ht hW => ⟨⟨1, (z9.2, f), rfl, ⟨okx, Or.inr ⟨z9.1, eqx, Or.inl ⟨h1, rfl⟩⟩⟩, ⟨ho_of ht hP, by rw [ht]; exact hPo⟩⟩, hS.F ht⟩) hS.2.2 dL_addBody_20))
    · rw [h1] at hcl9
      refine vx_catch (own := RL) (name := xIS) hown (tableOf [(0, 14, 17, 15)]) ⟨0, 14, 21, 17⟩ (tableOf []) htab (fun z hz => by cases List.mem_singleton.mp hz; exact Or.inr ⟨by decide, xIA, (hts (.classLink RL 15 "java/lang/IllegalArgumentException") (List.mem_of_getElem? (i := 1) rfl)), hNc.2.2.1⟩) rfl (by decide) (hts (.classLink RL 17 "java/lang/IllegalStateException") (List.mem_of_getElem? (i := 2) rfl)) ((hL.2.1 xIS (by decide)).use rfl) hce9 hcv9 hcl9 ?_
      refine lv_astore (lv' := [(6, .ref q9), (0, .ref (ad (270))), (1, .int a), (2, .int b), (3, .int c1), (4, .int d), (5, .ref (B0+290))]) hx hb dL_addBody_21 hl (by decide) rfl (fun ls hl => ?_)
      refine lv_iconst (v := 2) hx hb dL_addBody_23 (by decide) ?_
      exact vx_ret (W.widen (Nat.le_of_ble_eq_true rfl) (Nat.le_of_ble_eq_true rfl) (W.iret (v := 2) hx hb hr (fun t ht hW => ⟨⟨2, (z9.2, f), rfl, ⟨okx, Or.inr ⟨z9.1, eqx, Or.inr (⟨h1, rfl⟩)⟩⟩, ⟨ho_of ht hP, by rw [ht]; exact hPo⟩⟩, hS.F ht⟩) hS.2.2 dL_addBody_24))
  · obtain ⟨eq9, ok9⟩ := hw9
    have hP := ho_at ht hB
    have hPo := hPo.kept (fun k q hk => hk1 q.1 (vx_lt hPo hk) (wo_out1 hk))
    refine lv_i2l (v := v9.toInt64) hx hb dL_addBody_12 rfl ?_
    refine va_last (tys := [(cL, .long)]) hx hb hKo (va_P.app hP hPo) (wp_D1 hA) hS 290 0 (wp_at (ad := ad) (G := G)) rfl (vp_in_iff.mpr (by decide)) dL_addBody_13 (fun H locs hP _ hS => ?_)
    obtain ⟨hP, hPo⟩ := wp_set hP
    refine lv_goto (tgt := 25) hx hb dL_addBody_14 (by decide) ?_
    obtain ⟨f9, ef9⟩ : ∃ z, z = vp_updL f (0 : Int32).toNatClampNeg v9.toInt64 := ⟨_, rfl⟩
    rw [← ef9] at hPo
    have hf9 : f9 0 = v9.toInt64 := by rw [ef9]; rfl
    refine lv_iconst (v := 0) hx hb dL_addBody_25 (by decide) ?_
    exact vx_ret (W.widen (Nat.le_of_ble_eq_true rfl) (Nat.le_of_ble_eq_true rfl) (W.iret (v := 0) hx hb hr (fun t ht hW => ⟨⟨0, (σ9, f9), rfl, ⟨ok9, Or.inl ⟨v9, eq9, rfl, hf9⟩⟩, ⟨ho_of ht hP, by rw [ht]; exact hPo⟩⟩, hS.F ht⟩) hS.2.2 dL_addBody_26))
set_option maxHeartbeats 4000000 in
set_option maxRecDepth 100000 in
theorem cL_removeBody_met (l : Launch) (hl0 : l.stackTraces = false) {D : va_G} {G : CY} {ad : Nat → Nat} {B0 : Nat} (hA : adOK B0 ad) (σ : Nat → Nat → Int32) (a : Int32) (cL : ClassId) (f : Nat → Int64) (hO : okS σ) (hE : ∀ E z, ((Sum.inr E, z) : RT) = f6_removeBody σ a → ∃ n, (cd1 xOB) E n) : vx_Met l yL_removeBody wsL_removeBody { frames := 8, cells := 1, slots := 6, locals := 138 } (va_Pc [.ref (ad (270)), .int a, .ref (B0+290)] (Hw1 D G ad B0 σ cL f)) (va_Qi (fun (r : Int32) (z : ((Nat → Nat → Int32) × (Nat → Int64))) => okS z.1 ∧ ((∃ v, ((Sum.inl v, z.1) : RT) = f6_removeBody σ a ∧ r = 0 ∧ z.2 0 = v.toInt64) ∨ (∃ E, ((Sum.inr E, z.1) : RT) = f6_removeBody σ a ∧ (cd1 xOB) E r))) (fun z t => Ho D G ad z.1 t ∧ va_P D vwCl [(B0+290, .inl (cL, 1, .inr (.inl z.2)))] t.heap) (AW1 B0)) (vx_X (fun (_ : Unit) => False) (fun _ _ _ => True) (AW1 B0)) 1 6 (AW1 B0) := by
  refine vx_ofWH (cc := cL_removeBody) (maxL := 4) (ret := (some .int)) (hh := [(0, 9, 12, 13)]) (by decide) rfl ?_
  intro p e s m args below meth c s₁ B hml hv
  obtain ⟨rfl, ⟨⟨hP, hK, hN⟩, hT, hL, adK, adV, hG, hR⟩, hNc, hPo, hKo⟩ := hv
  have hx := B.exec
  have hb := B.bytes
  have hr := B.returns
  have hts := atoms_spec (ws := wsL_removeBody) B.pre
  have hown : s.vm.findClass RL = some m.cls := findClass_of_methodNamed B.named
  have hlocks := B.notSynchronized
  have htab : c.exceptionTable.toList = tableOf [(0, 9, 12, 13)] := vx_table (x := yL_removeBody) B (hts _ List.mem_cons_self)
  have hP : va_P D vwCl (pool G ad σ) s.heap := hP
  have hS : va_S (AW1 B0) s.heap s.heap [] := va_S.rf
  have hl := lv_entry ([.ref (ad (270)), .int a, .ref (B0+290)]) (n := 4) (Nat.le_of_ble_eq_true rfl)
  rw [lg_entry_eq]
  generalize (lg_sl ([.ref (ad (270)), .int a, .ref (B0+290)]) ++ List.replicate (4 - (lg_sl ([.ref (ad (270)), .int a, .ref (B0+290)])).length) Slot.unset).toArray = ls at hl ⊢
  have hl : lv_has ls 4 [(0, .ref (ad (270))), (1, .int a), (2, .ref (B0+290))] := hl
  refine lv_aload_n hx hb dL_removeBody_0 rfl (lv_at hl 2 rfl) ?_
  refine lv_iconst (v := 0) hx hb dL_removeBody_1 (by decide) ?_
  refine lv_aload_n hx hb dL_removeBody_2 rfl (lv_at hl 0 rfl) ?_
  refine lv_iload_n hx hb dL_removeBody_3 rfl (lv_at hl 1 rfl) ?_
  refine vx_calli (vx_runV (As := [.int a]) (rest := [.int 0, .ref (B0+290)]) ⟨hx, hb, hml, hown, hts⟩ (c6_removeBody l hl0 hA σ a hO) (cwV 1 hts gL_removeBody_X6_removeBody rfl rfl rfl hd_X6_removeBodyV ⟨(Nat.le_of_ble_eq_true rfl), (Nat.le_of_ble_eq_true rfl)⟩) ⟨hx_blind, va_recv hK hP (ci := 8) (q0 := 270) rfl g_270, hx_pre hK hN hT hL hG hR va_S.rf hP⟩ rfl rfl hl.1 rfl (lv_room (Nat.le_of_ble_eq_true rfl)) dL_removeBody_4 ⟨(Nat.le_of_ble_eq_true rfl), (Nat.le_of_ble_eq_true rfl)⟩) hS (fun q _ h => Or.inl h) (fun q h => Or.inl h) (fun q _ h => Or.inl h) (fun E9 ce9 q9 z9 t9 H locs ht9 hvm9 hw9 hB9 hz9 hk9 hS hce9 hcv9 hcl9 => ?_) (fun v9 σ9 t H locs ht hvm hw9 hB hz1 hk1 hS => ?_)
  · obtain ⟨eqx, okx⟩ := hw9
    obtain ⟨rfl, hBx⟩ := hB9
    have hP := ho_at ht9 hBx
    have hPo := hPo.kept (fun k q hk => hk9 q.1 (vx_lt hPo hk) (wo_out1 hk))
    obtain ⟨n9, hn9⟩ := hE _ _ eqx
    obtain ⟨h1, h2⟩ := hn9
    rw [h1] at hcl9
    refine vx_catch (own := RL) (name := xOB) hown (tableOf []) ⟨0, 9, 12, 13⟩ (tableOf []) htab (fun z hz => nomatch hz) rfl (by decide) (hts (.classLink RL 13 "java/lang/IndexOutOfBoundsException") (List.mem_of_getElem? (i := 1) rfl)) ((hL.2.1 xOB (by decide)).use rfl) hce9 hcv9 hcl9 ?_
    refine lv_astore_n (lv' := [(3, .ref q9), (0, .ref (ad (270))), (1, .int a), (2, .ref (B0+290))]) hx hb dL_removeBody_12 rfl hl (by decide) rfl (fun ls hl => ?_)
    refine lv_iconst (v := 1) hx hb dL_removeBody_13 (by decide) ?_
    exact vx_ret (W.widen (Nat.le_of_ble_eq_true rfl) (Nat.le_of_ble_eq_true rfl) (W.iret (v := 1) hx hb hr (fun t ht hW => ⟨⟨1, (z9.2, f), rfl, ⟨okx, Or.inr ⟨z9.1, eqx, ⟨h1, rfl⟩⟩⟩, ⟨ho_of ht hP, by rw [ht]; exact hPo⟩⟩, hS.F ht⟩) hS.2.2 dL_removeBody_14))
  · obtain ⟨eq9, ok9⟩ := hw9
    have hP := ho_at ht hB
    have hPo := hPo.kept (fun k q hk => hk1 q.1 (vx_lt hPo hk) (wo_out1 hk))
    refine lv_i2l (v := v9.toInt64) hx hb dL_removeBody_7 rfl ?_
    refine va_last (tys := [(cL, .long)]) hx hb hKo (va_P.app hP hPo) (wp_D1 hA) hS 290 0 (wp_at (ad := ad) (G := G)) rfl (vp_in_iff.mpr (by decide)) dL_removeBody_8 (fun H locs hP _ hS => ?_)
    obtain ⟨hP, hPo⟩ := wp_set hP
    refine lv_goto (tgt := 15) hx hb dL_removeBody_9 (by decide) ?_
    obtain ⟨f9, ef9⟩ : ∃ z, z = vp_updL f (0 : Int32).toNatClampNeg v9.toInt64 := ⟨_, rfl⟩
    rw [← ef9] at hPo
    have hf9 : f9 0 = v9.toInt64 := by rw [ef9]; rfl
    refine lv_iconst (v := 0) hx hb dL_removeBody_15 (by decide) ?_
    exact vx_ret (W.widen (Nat.le_of_ble_eq_true rfl) (Nat.le_of_ble_eq_true rfl) (W.iret (v := 0) hx hb hr (fun t ht hW => ⟨⟨0, (σ9, f9), rfl, ⟨ok9, Or.inl ⟨v9, eq9, rfl, hf9⟩⟩, ⟨ho_of ht hP, by rw [ht]; exact hPo⟩⟩, hS.F ht⟩) hS.2.2 dL_removeBody_16))
set_option maxHeartbeats 4000000 in
set_option maxRecDepth 100000 in
theorem cL_body_met (l : Launch) (hl0 : l.stackTraces = false) {D : va_G} {G : CY} {ad : Nat → Nat} {B0 : Nat} (hA : adOK B0 ad) (σ : Nat → Nat → Int32) (a : Int32) (b : Int32) (cL : ClassId) (f : Nat → Int64) (hO : okS σ) (hE : ∀ E z, ((Sum.inr E, z) : RT) = f6_body σ a b → ∃ n, (cd2 xOB xIA) E n) : vx_Met l yL_body wsL_body { frames := 8, cells := 3, slots := 18, locals := 139 } (va_Pc [.ref (ad (270)), .int a, .int b, .ref (B0+290)] (Hw1 D G ad B0 σ cL f)) (va_Qi (fun (r : Int32) (z : ((Nat → Nat → Int32) × (Nat → Int64))) => okS z.1 ∧ ((∃ v, ((Sum.inl v, z.1) : RT) = f6_body σ a b ∧ r = 0 ∧ z.2 0 = v.toInt64) ∨ (∃ E, ((Sum.inr E, z.1) : RT) = f6_body σ a b ∧ (cd2 xOB xIA) E r))) (fun z t => Ho D G ad z.1 t ∧ va_P D vwCl [(B0+290, .inl (cL, 1, .inr (.inl z.2)))] t.heap) (AW1 B0)) (vx_X (fun (_ : Unit) => False) (fun _ _ _ => True) (AW1 B0)) 3 18 (AW1 B0) := by
  refine vx_ofWH (cc := cL_body) (maxL := 5) (ret := (some .int)) (hh := [(0, 10, 13, 13), (0, 10, 17, 15)]) (by decide) rfl ?_
  intro p e s m args below meth c s₁ B hml hv
  obtain ⟨rfl, ⟨⟨hP, hK, hN⟩, hT, hL, adK, adV, hG, hR⟩, hNc, hPo, hKo⟩ := hv
  have hx := B.exec
  have hb := B.bytes
  have hr := B.returns
  have hts := atoms_spec (ws := wsL_body) B.pre
  have hown : s.vm.findClass RL = some m.cls := findClass_of_methodNamed B.named
  have hlocks := B.notSynchronized
  have htab : c.exceptionTable.toList = tableOf [(0, 10, 13, 13), (0, 10, 17, 15)] := vx_table (x := yL_body) B (hts _ List.mem_cons_self)
  have hP : va_P D vwCl (pool G ad σ) s.heap := hP
  have hS : va_S (AW1 B0) s.heap s.heap [] := va_S.rf
  have hl := lv_entry ([.ref (ad (270)), .int a, .int b, .ref (B0+290)]) (n := 5) (Nat.le_of_ble_eq_true rfl)
  rw [lg_entry_eq]
  generalize (lg_sl ([.ref (ad (270)), .int a, .int b, .ref (B0+290)]) ++ List.replicate (5 - (lg_sl ([.ref (ad (270)), .int a, .int b, .ref (B0+290)])).length) Slot.unset).toArray = ls at hl ⊢
  have hl : lv_has ls 5 [(0, .ref (ad (270))), (1, .int a), (2, .int b), (3, .ref (B0+290))] := hl
  refine lv_aload_n hx hb dL_body_0 rfl (lv_at hl 3 rfl) ?_
  refine lv_iconst (v := 0) hx hb dL_body_1 (by decide) ?_
  refine lv_aload_n hx hb dL_body_2 rfl (lv_at hl 0 rfl) ?_
  refine lv_iload_n hx hb dL_body_3 rfl (lv_at hl 1 rfl) ?_
  refine lv_iload_n hx hb dL_body_4 rfl (lv_at hl 2 rfl) ?_
  refine vx_calli (vx_runV (As := [.int a, .int b]) (rest := [.int 0, .ref (B0+290)]) ⟨hx, hb, hml, hown, hts⟩ (c6_body l hl0 hA σ a b hO) (cwV 2 hts gL_body_X6_body rfl rfl rfl hd_X6_bodyV ⟨(Nat.le_of_ble_eq_true rfl), (Nat.le_of_ble_eq_true rfl)⟩) ⟨hx_blind, va_recv hK hP (ci := 8) (q0 := 270) rfl g_270, hx_pre hK hN hT hL hG hR va_S.rf hP⟩ rfl rfl hl.1 rfl (lv_room (Nat.le_of_ble_eq_true rfl)) dL_body_5 ⟨(Nat.le_of_ble_eq_true rfl), (Nat.le_of_ble_eq_true rfl)⟩) hS (fun q _ h => Or.inl h) (fun q h => Or.inl h) (fun q _ h => Or.inl h) (fun E9 ce9 q9 z9 t9 H locs ht9 hvm9 hw9 hB9 hz9 hk9 hS hce9 hcv9 hcl9 => ?_) (fun v9 σ9 t H locs ht hvm hw9 hB hz1 hk1 hS => ?_)
  · obtain ⟨eqx, okx⟩ := hw9
    obtain ⟨rfl, hBx⟩ := hB9
    have hP := ho_at ht9 hBx
    have hPo := hPo.kept (fun k q hk => hk9 q.1 (vx_lt hPo hk) (wo_out1 hk))
    obtain ⟨n9, hn9⟩ := hE _ _ eqx
    rcases hn9 with ⟨h1, h2⟩ | ⟨h1, h2⟩
    · rw [h1] at hcl9
      refine vx_catch (own := RL) (name := xOB) hown (tableOf []) ⟨0, 10, 13, 13⟩ (tableOf [(0, 10, 17, 15)]) htab (fun z hz => nomatch hz) rfl (by decide) (hts (.classLink RL 13 "java/lang/IndexOutOfBoundsException") (List.mem_of_getElem? (i := 1) rfl)) ((hL.2.1 xOB (by decide)).use rfl) hce9 hcv9 hcl9 ?_
      refine lv_astore (lv' := [(4, .ref q9), (0, .ref (ad (270))), (1, .int a), (2, .int b), (3, .ref (B0+290))]) hx hb dL_body_13 hl (by decide) rfl (fun ls hl => ?_)
      refine lv_iconst (v := 1) hx hb dL_body_15 (by decide) ?_
      exact vx_ret (W.widen (Nat.le_of_ble_eq_true rfl) (Nat.le_of_ble_eq_true rfl) (W.iret (v := 1) hx hb hr (fun t ht hW => ⟨⟨1, (z9.2, f), rfl, ⟨okx, Or.inr ⟨z9.1, eqx, Or.inl ⟨h1, rfl⟩⟩⟩, ⟨ho_of ht hP, by rw [ht]; exact hPo⟩⟩, hS.F ht⟩) hS.2.2 dL_body_16))
    · rw [h1] at hcl9
      refine vx_catch (own := RL) (name := xIA) hown (tableOf [(0, 10, 13, 13)]) ⟨0, 10, 17, 15⟩ (tableOf []) htab (fun z hz => by cases List.mem_singleton.mp hz; exact Or.inr ⟨by decide, xOB, (hts (.classLink RL 13 "java/lang/IndexOutOfBoundsException") (List.mem_of_getElem? (i := 1) rfl)), hNc.1⟩) rfl (by decide) (hts (.classLink RL 15 "java/lang/IllegalArgumentException") (List.mem_of_getElem? (i := 2) rfl)) ((hL.2.1 xIA (by decide)).use rfl) hce9 hcv9 hcl9 ?_
      refine lv_astore (lv' := [(4, .ref q9), (0, .ref (ad (270))), (1, .int a), (2, .int b), (3, .ref (B0+290))]) hx hb dL_body_17 hl (by decide) rfl (fun ls hl => ?_)
      refine lv_iconst (v := 2) hx hb dL_body_19 (by decide) ?_
      exact vx_ret (W.widen (Nat.le_of_ble_eq_true rfl) (Nat.le_of_ble_eq_true rfl) (W.iret (v := 2) hx hb hr (fun t ht hW => ⟨⟨2, (z9.2, f), rfl, ⟨okx, Or.inr ⟨z9.1, eqx, Or.inr (⟨h1, rfl⟩)⟩⟩, ⟨ho_of ht hP, by rw [ht]; exact hPo⟩⟩, hS.F ht⟩) hS.2.2 dL_body_20))
  · obtain ⟨eq9, ok9⟩ := hw9
    have hP := ho_at ht hB
    have hPo := hPo.kept (fun k q hk => hk1 q.1 (vx_lt hPo hk) (wo_out1 hk))
    refine lv_i2l (v := v9.toInt64) hx hb dL_body_8 rfl ?_
    refine va_last (tys := [(cL, .long)]) hx hb hKo (va_P.app hP hPo) (wp_D1 hA) hS 290 0 (wp_at (ad := ad) (G := G)) rfl (vp_in_iff.mpr (by decide)) dL_body_9 (fun H locs hP _ hS => ?_)
    obtain ⟨hP, hPo⟩ := wp_set hP
    refine lv_goto (tgt := 21) hx hb dL_body_10 (by decide) ?_
    obtain ⟨f9, ef9⟩ : ∃ z, z = vp_updL f (0 : Int32).toNatClampNeg v9.toInt64 := ⟨_, rfl⟩
    rw [← ef9] at hPo
    have hf9 : f9 0 = v9.toInt64 := by rw [ef9]; rfl
    refine lv_iconst (v := 0) hx hb dL_body_21 (by decide) ?_
    exact vx_ret (W.widen (Nat.le_of_ble_eq_true rfl) (Nat.le_of_ble_eq_true rfl) (W.iret (v := 0) hx hb hr (fun t ht hW => ⟨⟨0, (σ9, f9), rfl, ⟨ok9, Or.inl ⟨v9, eq9, rfl, hf9⟩⟩, ⟨ho_of ht hP, by rw [ht]; exact hPo⟩⟩, hS.F ht⟩) hS.2.2 dL_body_22))
set_option maxHeartbeats 4000000 in
set_option maxRecDepth 100000 in
theorem cL_press_met (l : Launch) (hl0 : l.stackTraces = false) {D : va_G} {G : CY} {ad : Nat → Nat} {B0 : Nat} (hA : adOK B0 ad) (σ : Nat → Nat → Int32) (a : Int32) (b : Int32) (cL : ClassId) (f : Nat → Int64) (hO : okS σ) (hE : ∀ E z, ((Sum.inr E, z) : RT) = f6_press σ a b → ∃ n, (cd2 xOB xIA) E n) : vx_Met l yL_press wsL_press { frames := 8, cells := 3, slots := 18, locals := 140 } (va_Pc [.ref (ad (270)), .int a, .int b, .ref (B0+290)] (Hw1 D G ad B0 σ cL f)) (va_Qi (fun (r : Int32) (z : ((Nat → Nat → Int32) × (Nat → Int64))) => okS z.1 ∧ ((∃ v, ((Sum.inl v, z.1) : RT) = f6_press σ a b ∧ r = 0 ∧ z.2 0 = v.toInt64) ∨ (∃ E, ((Sum.inr E, z.1) : RT) = f6_press σ a b ∧ (cd2 xOB xIA) E r))) (fun z t => Ho D G ad z.1 t ∧ va_P D vwCl [(B0+290, .inl (cL, 1, .inr (.inl z.2)))] t.heap) (AW1 B0)) (vx_X (fun (_ : Unit) => False) (fun _ _ _ => True) (AW1 B0)) 3 18 (AW1 B0) := by
  refine vx_ofWH (cc := cL_press) (maxL := 5) (ret := (some .int)) (hh := [(0, 10, 13, 13), (0, 10, 17, 15)]) (by decide) rfl ?_
  intro p e s m args below meth c s₁ B hml hv
  obtain ⟨rfl, ⟨⟨hP, hK, hN⟩, hT, hL, adK, adV, hG, hR⟩, hNc, hPo, hKo⟩ := hv
  have hx := B.exec
  have hb := B.bytes
  have hr := B.returns
  have hts := atoms_spec (ws := wsL_press) B.pre
  have hown : s.vm.findClass RL = some m.cls := findClass_of_methodNamed B.named
  have hlocks := B.notSynchronized
  have htab : c.exceptionTable.toList = tableOf [(0, 10, 13, 13), (0, 10, 17, 15)] := vx_table (x := yL_press) B (hts _ List.mem_cons_self)
  have hP : va_P D vwCl (pool G ad σ) s.heap := hP
  have hS : va_S (AW1 B0) s.heap s.heap [] := va_S.rf
  have hl := lv_entry ([.ref (ad (270)), .int a, .int b, .ref (B0+290)]) (n := 5) (Nat.le_of_ble_eq_true rfl)
  rw [lg_entry_eq]
  generalize (lg_sl ([.ref (ad (270)), .int a, .int b, .ref (B0+290)]) ++ List.replicate (5 - (lg_sl ([.ref (ad (270)), .int a, .int b, .ref (B0+290)])).length) Slot.unset).toArray = ls at hl ⊢
  have hl : lv_has ls 5 [(0, .ref (ad (270))), (1, .int a), (2, .int b), (3, .ref (B0+290))] := hl
  refine lv_aload_n hx hb dL_press_0 rfl (lv_at hl 3 rfl) ?_
  refine lv_iconst (v := 0) hx hb dL_press_1 (by decide) ?_
  refine lv_aload_n hx hb dL_press_2 rfl (lv_at hl 0 rfl) ?_
  refine lv_iload_n hx hb dL_press_3 rfl (lv_at hl 1 rfl) ?_
  refine lv_iload_n hx hb dL_press_4 rfl (lv_at hl 2 rfl) ?_
  refine vx_calli (vx_runV (As := [.int a, .int b]) (rest := [.int 0, .ref (B0+290)]) ⟨hx, hb, hml, hown, hts⟩ (c6_press l hl0 hA σ a b hO) (cwV 2 hts gL_press_X6_press rfl rfl rfl hd_X6_pressV ⟨(Nat.le_of_ble_eq_true rfl), (Nat.le_of_ble_eq_true rfl)⟩) ⟨hx_blind, va_recv hK hP (ci := 8) (q0 := 270) rfl g_270, hx_pre hK hN hT hL hG hR va_S.rf hP⟩ rfl rfl hl.1 rfl (lv_room (Nat.le_of_ble_eq_true rfl)) dL_press_5 ⟨(Nat.le_of_ble_eq_true rfl), (Nat.le_of_ble_eq_true rfl)⟩) hS (fun q _ h => Or.inl h) (fun q h => Or.inl h) (fun q _ h => Or.inl h) (fun E9 ce9 q9 z9 t9 H locs ht9 hvm9 hw9 hB9 hz9 hk9 hS hce9 hcv9 hcl9 => ?_) (fun v9 σ9 t H locs ht hvm hw9 hB hz1 hk1 hS => ?_)
  · obtain ⟨eqx, okx⟩ := hw9
    obtain ⟨rfl, hBx⟩ := hB9
    have hP := ho_at ht9 hBx
    have hPo := hPo.kept (fun k q hk => hk9 q.1 (vx_lt hPo hk) (wo_out1 hk))
    obtain ⟨n9, hn9⟩ := hE _ _ eqx
    rcases hn9 with ⟨h1, h2⟩ | ⟨h1, h2⟩
    · rw [h1] at hcl9
      refine vx_catch (own := RL) (name := xOB) hown (tableOf []) ⟨0, 10, 13, 13⟩ (tableOf [(0, 10, 17, 15)]) htab (fun z hz => nomatch hz) rfl (by decide) (hts (.classLink RL 13 "java/lang/IndexOutOfBoundsException") (List.mem_of_getElem? (i := 1) rfl)) ((hL.2.1 xOB (by decide)).use rfl) hce9 hcv9 hcl9 ?_
      refine lv_astore (lv' := [(4, .ref q9), (0, .ref (ad (270))), (1, .int a), (2, .int b), (3, .ref (B0+290))]) hx hb dL_press_13 hl (by decide) rfl (fun ls hl => ?_)
      refine lv_iconst (v := 1) hx hb dL_press_15 (by decide) ?_
      exact vx_ret (W.widen (Nat.le_of_ble_eq_true rfl) (Nat.le_of_ble_eq_true rfl) (W.iret (v := 1) hx hb hr (fun t ht hW => ⟨⟨1, (z9.2, f), rfl, ⟨okx, Or.inr ⟨z9.1, eqx, Or.inl ⟨h1, rfl⟩⟩⟩, ⟨ho_of ht hP, by rw [ht]; exact hPo⟩⟩, hS.F ht⟩) hS.2.2 dL_press_16))
    · rw [h1] at hcl9
      refine vx_catch (own := RL) (name := xIA) hown (tableOf [(0, 10, 13, 13)]) ⟨0, 10, 17, 15⟩ (tableOf []) htab (fun z hz => by cases List.mem_singleton.mp hz; exact Or.inr ⟨by decide, xOB, (hts (.classLink RL 13 "java/lang/IndexOutOfBoundsException") (List.mem_of_getElem? (i := 1) rfl)), hNc.1⟩) rfl (by decide) (hts (.classLink RL 15 "java/lang/IllegalArgumentException") (List.mem_of_getElem? (i := 2) rfl)) ((hL.2.1 xIA (by decide)).use rfl) hce9 hcv9 hcl9 ?_
      refine lv_astore (lv' := [(4, .ref q9), (0, .ref (ad (270))), (1, .int a), (2, .int b), (3, .ref (B0+290))]) hx hb dL_press_17 hl (by decide) rfl (fun ls hl => ?_)
      refine lv_iconst (v := 2) hx hb dL_press_19 (by decide) ?_
      exact vx_ret (W.widen (Nat.le_of_ble_eq_true rfl) (Nat.le_of_ble_eq_true rfl) (W.iret (v := 2) hx hb hr (fun t ht hW => ⟨⟨2, (z9.2, f), rfl, ⟨okx, Or.inr ⟨z9.1, eqx, Or.inr (⟨h1, rfl⟩)⟩⟩, ⟨ho_of ht hP, by rw [ht]; exact hPo⟩⟩, hS.F ht⟩) hS.2.2 dL_press_20))
  · obtain ⟨eq9, ok9⟩ := hw9
    have hP := ho_at ht hB
    have hPo := hPo.kept (fun k q hk => hk1 q.1 (vx_lt hPo hk) (wo_out1 hk))
    refine lv_i2l (v := v9.toInt64) hx hb dL_press_8 rfl ?_
    refine va_last (tys := [(cL, .long)]) hx hb hKo (va_P.app hP hPo) (wp_D1 hA) hS 290 0 (wp_at (ad := ad) (G := G)) rfl (vp_in_iff.mpr (by decide)) dL_press_9 (fun H locs hP _ hS => ?_)
    obtain ⟨hP, hPo⟩ := wp_set hP
    refine lv_goto (tgt := 21) hx hb dL_press_10 (by decide) ?_
    obtain ⟨f9, ef9⟩ : ∃ z, z = vp_updL f (0 : Int32).toNatClampNeg v9.toInt64 := ⟨_, rfl⟩
    rw [← ef9] at hPo
    have hf9 : f9 0 = v9.toInt64 := by rw [ef9]; rfl
    refine lv_iconst (v := 0) hx hb dL_press_21 (by decide) ?_
    exact vx_ret (W.widen (Nat.le_of_ble_eq_true rfl) (Nat.le_of_ble_eq_true rfl) (W.iret (v := 0) hx hb hr (fun t ht hW => ⟨⟨0, (σ9, f9), rfl, ⟨ok9, Or.inl ⟨v9, eq9, rfl, hf9⟩⟩, ⟨ho_of ht hP, by rw [ht]; exact hPo⟩⟩, hS.F ht⟩) hS.2.2 dL_press_22))
set_option maxHeartbeats 4000000 in
set_option maxRecDepth 100000 in
theorem cL_push_met (l : Launch) (hl0 : l.stackTraces = false) {D : va_G} {G : CY} {ad : Nat → Nat} {B0 : Nat} (hA : adOK B0 ad) (σ : Nat → Nat → Int32) (a : Int32) (b : Int32) (c1 : Int32) (cL : ClassId) (f : Nat → Int64) (hO : okS σ) (hE : ∀ E z, ((Sum.inr E, z) : RT) = f6_push σ a b c1 → ∃ n, (cd2 xOB xIA) E n) : vx_Met l yL_push wsL_push { frames := 8, cells := 3, slots := 18, locals := 142 } (va_Pc [.ref (ad (270)), .int a, .int b, .int c1, .ref (B0+290)] (Hw1 D G ad B0 σ cL f)) (va_Qi (fun (r : Int32) (z : ((Nat → Nat → Int32) × (Nat → Int64))) => okS z.1 ∧ ((∃ v, ((Sum.inl v, z.1) : RT) = f6_push σ a b c1 ∧ r = 0 ∧ z.2 0 = v.toInt64) ∨ (∃ E, ((Sum.inr E, z.1) : RT) = f6_push σ a b c1 ∧ (cd2 xOB xIA) E r))) (fun z t => Ho D G ad z.1 t ∧ va_P D vwCl [(B0+290, .inl (cL, 1, .inr (.inl z.2)))] t.heap) (AW1 B0)) (vx_X (fun (_ : Unit) => False) (fun _ _ _ => True) (AW1 B0)) 3 18 (AW1 B0) := by
  refine vx_ofWH (cc := cL_push) (maxL := 6) (ret := (some .int)) (hh := [(0, 12, 15, 13), (0, 12, 19, 15)]) (by decide) rfl ?_
  intro p e s m args below meth c s₁ B hml hv
  obtain ⟨rfl, ⟨⟨hP, hK, hN⟩, hT, hL, adK, adV, hG, hR⟩, hNc, hPo, hKo⟩ := hv
  have hx := B.exec
  have hb := B.bytes
  have hr := B.returns
  have hts := atoms_spec (ws := wsL_push) B.pre
  have hown : s.vm.findClass RL = some m.cls := findClass_of_methodNamed B.named
  have hlocks := B.notSynchronized
  have htab : c.exceptionTable.toList = tableOf [(0, 12, 15, 13), (0, 12, 19, 15)] := vx_table (x := yL_push) B (hts _ List.mem_cons_self)
  have hP : va_P D vwCl (pool G ad σ) s.heap := hP
  have hS : va_S (AW1 B0) s.heap s.heap [] := va_S.rf
  have hl := lv_entry ([.ref (ad (270)), .int a, .int b, .int c1, .ref (B0+290)]) (n := 6) (Nat.le_of_ble_eq_true rfl)
  rw [lg_entry_eq]
  generalize (lg_sl ([.ref (ad (270)), .int a, .int b, .int c1, .ref (B0+290)]) ++ List.replicate (6 - (lg_sl ([.ref (ad (270)), .int a, .int b, .int c1, .ref (B0+290)])).length) Slot.unset).toArray = ls at hl ⊢
  have hl : lv_has ls 6 [(0, .ref (ad (270))), (1, .int a), (2, .int b), (3, .int c1), (4, .ref (B0+290))] := hl
  refine lv_aload hx hb dL_push_0 (lv_at hl 4 rfl) ?_
  refine lv_iconst (v := 0) hx hb dL_push_2 (by decide) ?_
  refine lv_aload_n hx hb dL_push_3 rfl (lv_at hl 0 rfl) ?_
  refine lv_iload_n hx hb dL_push_4 rfl (lv_at hl 1 rfl) ?_
  refine lv_iload_n hx hb dL_push_5 rfl (lv_at hl 2 rfl) ?_
  refine lv_iload_n hx hb dL_push_6 rfl (lv_at hl 3 rfl) ?_
  refine vx_calli (vx_runV (As := [.int a, .int b, .int c1]) (rest := [.int 0, .ref (B0+290)]) ⟨hx, hb, hml, hown, hts⟩ (c6_push l hl0 hA σ a b c1 hO) (cwV 3 hts gL_push_X6_push rfl rfl rfl hd_X6_pushV ⟨(Nat.le_of_ble_eq_true rfl), (Nat.le_of_ble_eq_true rfl)⟩) ⟨hx_blind, va_recv hK hP (ci := 8) (q0 := 270) rfl g_270, hx_pre hK hN hT hL hG hR va_S.rf hP⟩ rfl rfl hl.1 rfl (lv_room (Nat.le_of_ble_eq_true rfl)) dL_push_7 ⟨(Nat.le_of_ble_eq_true rfl), (Nat.le_of_ble_eq_true rfl)⟩) hS (fun q _ h => Or.inl h) (fun q h => Or.inl h) (fun q _ h => Or.inl h) (fun E9 ce9 q9 z9 t9 H locs ht9 hvm9 hw9 hB9 hz9 hk9 hS hce9 hcv9 hcl9 => ?_) (fun v9 σ9 t H locs ht hvm hw9 hB hz1 hk1 hS => ?_)
  · obtain ⟨eqx, okx⟩ := hw9
    obtain ⟨rfl, hBx⟩ := hB9
    have hP := ho_at ht9 hBx
    have hPo := hPo.kept (fun k q hk => hk9 q.1 (vx_lt hPo hk) (wo_out1 hk))
    obtain ⟨n9, hn9⟩ := hE _ _ eqx
    rcases hn9 with ⟨h1, h2⟩ | ⟨h1, h2⟩
    · rw [h1] at hcl9
      refine vx_catch (own := RL) (name := xOB) hown (tableOf []) ⟨0, 12, 15, 13⟩ (tableOf [(0, 12, 19, 15)]) htab (fun z hz => nomatch hz) rfl (by decide) (hts (.classLink RL 13 "java/lang/IndexOutOfBoundsException") (List.mem_of_getElem? (i := 1) rfl)) ((hL.2.1 xOB (by decide)).use rfl) hce9 hcv9 hcl9 ?_
      refine lv_astore (lv' := [(5, .ref q9), (0, .ref (ad (270))), (1, .int a), (2, .int b), (3, .int c1), (4, .ref (B0+290))]) hx hb dL_push_15 hl (by decide) rfl (fun ls hl => ?_)
      refine lv_iconst (v := 1) hx hb dL_push_17 (by decide) ?_
      exact vx_ret (W.widen (Nat.le_of_ble_eq_true rfl) (Nat.le_of_ble_eq_true rfl) (W.iret (v := 1) hx hb hr (fun t ht hW => ⟨⟨1, (z9.2, f), rfl, ⟨okx, Or.inr ⟨z9.1, eqx, Or.inl ⟨h1, rfl⟩⟩⟩, ⟨ho_of ht hP, by rw [ht]; exact hPo⟩⟩, hS.F ht⟩) hS.2.2 dL_push_18))
    · rw [h1] at hcl9
      refine vx_catch (own := RL) (name := xIA) hown (tableOf [(0, 12, 15, 13)]) ⟨0, 12, 19, 15⟩ (tableOf []) htab (fun z hz => by cases List.mem_singleton.mp hz; exact Or.inr ⟨by decide, xOB, (hts (.classLink RL 13 "java/lang/IndexOutOfBoundsException") (List.mem_of_getElem? (i := 1) rfl)), hNc.1⟩) rfl (by decide) (hts (.classLink RL 15 "java/lang/IllegalArgumentException") (List.mem_of_getElem? (i := 2) rfl)) ((hL.2.1 xIA (by decide)).use rfl) hce9 hcv9 hcl9 ?_
      refine lv_astore (lv' := [(5, .ref q9), (0, .ref (ad (270))), (1, .int a), (2, .int b), (3, .int c1), (4, .ref (B0+290))]) hx hb dL_push_19 hl (by decide) rfl (fun ls hl => ?_)
      refine lv_iconst (v := 2) hx hb dL_push_21 (by decide) ?_
      exact vx_ret (W.widen (Nat.le_of_ble_eq_true rfl) (Nat.le_of_ble_eq_true rfl) (W.iret (v := 2) hx hb hr (fun t ht hW => ⟨⟨2, (z9.2, f), rfl, ⟨okx, Or.inr ⟨z9.1, eqx, Or.inr (⟨h1, rfl⟩)⟩⟩, ⟨ho_of ht hP, by rw [ht]; exact hPo⟩⟩, hS.F ht⟩) hS.2.2 dL_push_22))
  · obtain ⟨eq9, ok9⟩ := hw9
    have hP := ho_at ht hB
    have hPo := hPo.kept (fun k q hk => hk1 q.1 (vx_lt hPo hk) (wo_out1 hk))
    refine lv_i2l (v := v9.toInt64) hx hb dL_push_10 rfl ?_
    refine va_last (tys := [(cL, .long)]) hx hb hKo (va_P.app hP hPo) (wp_D1 hA) hS 290 0 (wp_at (ad := ad) (G := G)) rfl (vp_in_iff.mpr (by decide)) dL_push_11 (fun H locs hP _ hS => ?_)
    obtain ⟨hP, hPo⟩ := wp_set hP
    refine lv_goto (tgt := 23) hx hb dL_push_12 (by decide) ?_
    obtain ⟨f9, ef9⟩ : ∃ z, z = vp_updL f (0 : Int32).toNatClampNeg v9.toInt64 := ⟨_, rfl⟩
    rw [← ef9] at hPo
    have hf9 : f9 0 = v9.toInt64 := by rw [ef9]; rfl
    refine lv_iconst (v := 0) hx hb dL_push_23 (by decide) ?_
    exact vx_ret (W.widen (Nat.le_of_ble_eq_true rfl) (Nat.le_of_ble_eq_true rfl) (W.iret (v := 0) hx hb hr (fun t ht hW => ⟨⟨0, (σ9, f9), rfl, ⟨ok9, Or.inl ⟨v9, eq9, rfl, hf9⟩⟩, ⟨ho_of ht hP, by rw [ht]; exact hPo⟩⟩, hS.F ht⟩) hS.2.2 dL_push_24))
set_option maxHeartbeats 4000000 in
set_option maxRecDepth 100000 in
theorem cL_addPlatform_met (l : Launch) (hl0 : l.stackTraces = false) {D : va_G} {G : CY} {ad : Nat → Nat} {B0 : Nat} (hA : adOK B0 ad) (σ : Nat → Nat → Int32) (a : Int32) (b : Int32) (c1 : Int32) (d : Int32) (e1 : Int32) (f1 : Int32) (cL : ClassId) (f : Nat → Int64) (hO : okS σ) (hE : ∀ E z, ((Sum.inr E, z) : RT) = f6_addPlatform σ a b c1 d e1 f1 → ∃ n, (cd2 xIA xIS) E n) : vx_Met l yL_addPlatform wsL_addPlatform { frames := 8, cells := 4, slots := 24, locals := 143 } (va_Pc [.ref (ad (270)), .int a, .int b, .int c1, .int d, .int e1, .int f1, .ref (B0+290)] (Hw1 D G ad B0 σ cL f)) (va_Qi (fun (r : Int32) (z : ((Nat → Nat → Int32) × (Nat → Int64))) => okS z.1 ∧ ((∃ v, ((Sum.inl v, z.1) : RT) = f6_addPlatform σ a b c1 d e1 f1 ∧ r = 0 ∧ z.2 0 = v.toInt64) ∨ (∃ E, ((Sum.inr E, z.1) : RT) = f6_addPlatform σ a b c1 d e1 f1 ∧ (cd2 xIA xIS) E r))) (fun z t => Ho D G ad z.1 t ∧ va_P D vwCl [(B0+290, .inl (cL, 1, .inr (.inl z.2)))] t.heap) (AW1 B0)) (vx_X (fun (_ : Unit) => False) (fun _ _ _ => True) (AW1 B0)) 4 24 (AW1 B0) := by
  refine vx_ofWH (cc := cL_addPlatform) (maxL := 9) (ret := (some .int)) (hh := [(0, 18, 21, 15), (0, 18, 25, 17)]) (by decide) rfl ?_
  intro p e s m args below meth c s₁ B hml hv
  obtain ⟨rfl, ⟨⟨hP, hK, hN⟩, hT, hL, adK, adV, hG, hR⟩, hNc, hPo, hKo⟩ := hv
  have hx := B.exec
  have hb := B.bytes
  have hr := B.returns
  have hts := atoms_spec (ws := wsL_addPlatform) B.pre
  have hown : s.vm.findClass RL = some m.cls := findClass_of_methodNamed B.named
  have hlocks := B.notSynchronized
  have htab : c.exceptionTable.toList = tableOf [(0, 18, 21, 15), (0, 18, 25, 17)] := vx_table (x := yL_addPlatform) B (hts _ List.mem_cons_self)
  have hP : va_P D vwCl (pool G ad σ) s.heap := hP
  have hS : va_S (AW1 B0) s.heap s.heap [] := va_S.rf
  have hl := lv_entry ([.ref (ad (270)), .int a, .int b, .int c1, .int d, .int e1, .int f1, .ref (B0+290)]) (n := 9) (Nat.le_of_ble_eq_true rfl)
  rw [lg_entry_eq]
  generalize (lg_sl ([.ref (ad (270)), .int a, .int b, .int c1, .int d, .int e1, .int f1, .ref (B0+290)]) ++ List.replicate (9 - (lg_sl ([.ref (ad (270)), .int a, .int b, .int c1, .int d, .int e1, .int f1, .ref (B0+290)])).length) Slot.unset).toArray = ls at hl ⊢
  have hl : lv_has ls 9 [(0, .ref (ad (270))), (1, .int a), (2, .int b), (3, .int c1), (4, .int d), (5, .int e1), (6, .int f1), (7, .ref (B0+290))] := hl
  refine lv_aload hx hb dL_addPlatform_0 (lv_at hl 7 rfl) ?_
  refine lv_iconst (v := 0) hx hb dL_addPlatform_2 (by decide) ?_
  refine lv_aload_n hx hb dL_addPlatform_3 rfl (lv_at hl 0 rfl) ?_
  refine lv_iload_n hx hb dL_addPlatform_4 rfl (lv_at hl 1 rfl) ?_
  refine lv_iload_n hx hb dL_addPlatform_5 rfl (lv_at hl 2 rfl) ?_
  refine lv_iload_n hx hb dL_addPlatform_6 rfl (lv_at hl 3 rfl) ?_
  refine lv_iload hx hb dL_addPlatform_7 (lv_at hl 4 rfl) ?_
  refine lv_iload hx hb dL_addPlatform_9 (lv_at hl 5 rfl) ?_
  refine lv_iload hx hb dL_addPlatform_11 (lv_at hl 6 rfl) ?_
  refine vx_calli (vx_runV (As := [.int a, .int b, .int c1, .int d, .int e1, .int f1]) (rest := [.int 0, .ref (B0+290)]) ⟨hx, hb, hml, hown, hts⟩ (c6_addPlatform l hl0 hA σ a b c1 d e1 f1 hO) (cwV 6 hts gL_addPlatform_X6_addPlatform rfl rfl rfl hd_X6_addPlatformV ⟨(Nat.le_of_ble_eq_true rfl), (Nat.le_of_ble_eq_true rfl)⟩) ⟨hx_blind, va_recv hK hP (ci := 8) (q0 := 270) rfl g_270, hx_pre hK hN hT hL hG hR va_S.rf hP⟩ rfl rfl hl.1 rfl (lv_room (Nat.le_of_ble_eq_true rfl)) dL_addPlatform_13 ⟨(Nat.le_of_ble_eq_true rfl), (Nat.le_of_ble_eq_true rfl)⟩) hS (fun q _ h => Or.inl h) (fun q h => Or.inl h) (fun q _ h => Or.inl h) (fun E9 ce9 q9 z9 t9 H locs ht9 hvm9 hw9 hB9 hz9 hk9 hS hce9 hcv9 hcl9 => ?_) (fun v9 σ9 t H locs ht hvm hw9 hB hz1 hk1 hS => ?_)
  · obtain ⟨eqx, okx⟩ := hw9
    obtain ⟨rfl, hBx⟩ := hB9
    have hP := ho_at ht9 hBx
    have hPo := hPo.kept (fun k q hk => hk9 q.1 (vx_lt hPo hk) (wo_out1 hk))
    obtain ⟨n9, hn9⟩ := hE _ _ eqx
    rcases hn9 with ⟨h1, h2⟩ | ⟨h1, h2⟩
    · rw [h1] at hcl9
      refine vx_catch (own := RL) (name := xIA) hown (tableOf []) ⟨0, 18, 21, 15⟩ (tableOf [(0, 18, 25, 17)]) htab (fun z hz => nomatch hz) rfl (by decide) (hts (.classLink RL 15 "java/lang/IllegalArgumentException") (List.mem_of_getElem? (i := 1) rfl)) ((hL.2.1 xIA (by decide)).use rfl) hce9 hcv9 hcl9 ?_
      refine lv_astore (lv' := [(8, .ref q9), (0, .ref (ad (270))), (1, .int a), (2, .int b), (3, .int c1), (4, .int d), (5, .int e1), (6, .int f1), (7, .ref (B0+290))]) hx hb dL_addPlatform_21 hl (by decide) rfl (fun ls hl => ?_)
      refine lv_iconst (v := 1) hx hb dL_addPlatform_23 (by decide) ?_
      exact vx_ret (W.widen (Nat.le_of_ble_eq_true rfl) (Nat.le_of_ble_eq_true rfl) (W.iret (v := 1) hx hb hr (fun t ht hW => ⟨⟨1, (z9.2, f), rfl, ⟨okx, Or.inr ⟨z9.1, eqx, Or.inl ⟨h1, rfl⟩⟩⟩, ⟨ho_of ht hP, by rw [ht]; exact hPo⟩⟩, hS.F ht⟩) hS.2.2 dL_addPlatform_24))
    · rw [h1] at hcl9
      refine vx_catch (own := RL) (name := xIS) hown (tableOf [(0, 18, 21, 15)]) ⟨0, 18, 25, 17⟩ (tableOf []) htab (fun z hz => by cases List.mem_singleton.mp hz; exact Or.inr ⟨by decide, xIA, (hts (.classLink RL 15 "java/lang/IllegalArgumentException") (List.mem_of_getElem? (i := 1) rfl)), hNc.2.2.1⟩) rfl (by decide) (hts (.classLink RL 17 "java/lang/IllegalStateException") (List.mem_of_getElem? (i := 2) rfl)) ((hL.2.1 xIS (by decide)).use rfl) hce9 hcv9 hcl9 ?_
      refine lv_astore (lv' := [(8, .ref q9), (0, .ref (ad (270))), (1, .int a), (2, .int b), (3, .int c1), (4, .int d), (5, .int e1), (6, .int f1), (7, .ref (B0+290))]) hx hb dL_addPlatform_25 hl (by decide) rfl (fun ls hl => ?_)
      refine lv_iconst (v := 2) hx hb dL_addPlatform_27 (by decide) ?_
      exact vx_ret (W.widen (Nat.le_of_ble_eq_true rfl) (Nat.le_of_ble_eq_true rfl) (W.iret (v := 2) hx hb hr (fun t ht hW => ⟨⟨2, (z9.2, f), rfl, ⟨okx, Or.inr ⟨z9.1, eqx, Or.inr (⟨h1, rfl⟩)⟩⟩, ⟨ho_of ht hP, by rw [ht]; exact hPo⟩⟩, hS.F ht⟩) hS.2.2 dL_addPlatform_28))
  · obtain ⟨eq9, ok9⟩ := hw9
    have hP := ho_at ht hB
    have hPo := hPo.kept (fun k q hk => hk1 q.1 (vx_lt hPo hk) (wo_out1 hk))
    refine lv_i2l (v := v9.toInt64) hx hb dL_addPlatform_16 rfl ?_
    refine va_last (tys := [(cL, .long)]) hx hb hKo (va_P.app hP hPo) (wp_D1 hA) hS 290 0 (wp_at (ad := ad) (G := G)) rfl (vp_in_iff.mpr (by decide)) dL_addPlatform_17 (fun H locs hP _ hS => ?_)
    obtain ⟨hP, hPo⟩ := wp_set hP
    refine lv_goto (tgt := 29) hx hb dL_addPlatform_18 (by decide) ?_
    obtain ⟨f9, ef9⟩ : ∃ z, z = vp_updL f (0 : Int32).toNatClampNeg v9.toInt64 := ⟨_, rfl⟩
    rw [← ef9] at hPo
    have hf9 : f9 0 = v9.toInt64 := by rw [ef9]; rfl
    refine lv_iconst (v := 0) hx hb dL_addPlatform_29 (by decide) ?_
    exact vx_ret (W.widen (Nat.le_of_ble_eq_true rfl) (Nat.le_of_ble_eq_true rfl) (W.iret (v := 0) hx hb hr (fun t ht hW => ⟨⟨0, (σ9, f9), rfl, ⟨ok9, Or.inl ⟨v9, eq9, rfl, hf9⟩⟩, ⟨ho_of ht hP, by rw [ht]; exact hPo⟩⟩, hS.F ht⟩) hS.2.2 dL_addPlatform_30))
set_option maxHeartbeats 4000000 in
set_option maxRecDepth 100000 in
theorem cL_removePlatform_met (l : Launch) (hl0 : l.stackTraces = false) {D : va_G} {G : CY} {ad : Nat → Nat} {B0 : Nat} (hA : adOK B0 ad) (σ : Nat → Nat → Int32) (a : Int32) (cL : ClassId) (f : Nat → Int64) (hO : okS σ) (hE : ∀ E z, ((Sum.inr E, z) : RT) = f6_removePlatform σ a → ∃ n, (cd1 xOB) E n) : vx_Met l yL_removePlatform wsL_removePlatform { frames := 8, cells := 1, slots := 6, locals := 138 } (va_Pc [.ref (ad (270)), .int a, .ref (B0+290)] (Hw1 D G ad B0 σ cL f)) (va_Qi (fun (r : Int32) (z : ((Nat → Nat → Int32) × (Nat → Int64))) => okS z.1 ∧ ((∃ v, ((Sum.inl v, z.1) : RT) = f6_removePlatform σ a ∧ r = 0 ∧ z.2 0 = v.toInt64) ∨ (∃ E, ((Sum.inr E, z.1) : RT) = f6_removePlatform σ a ∧ (cd1 xOB) E r))) (fun z t => Ho D G ad z.1 t ∧ va_P D vwCl [(B0+290, .inl (cL, 1, .inr (.inl z.2)))] t.heap) (AW1 B0)) (vx_X (fun (_ : Unit) => False) (fun _ _ _ => True) (AW1 B0)) 1 6 (AW1 B0) := by
  refine vx_ofWH (cc := cL_removePlatform) (maxL := 4) (ret := (some .int)) (hh := [(0, 9, 12, 13)]) (by decide) rfl ?_
  intro p e s m args below meth c s₁ B hml hv
  obtain ⟨rfl, ⟨⟨hP, hK, hN⟩, hT, hL, adK, adV, hG, hR⟩, hNc, hPo, hKo⟩ := hv
  have hx := B.exec
  have hb := B.bytes
  have hr := B.returns
  have hts := atoms_spec (ws := wsL_removePlatform) B.pre
  have hown : s.vm.findClass RL = some m.cls := findClass_of_methodNamed B.named
  have hlocks := B.notSynchronized
  have htab : c.exceptionTable.toList = tableOf [(0, 9, 12, 13)] := vx_table (x := yL_removePlatform) B (hts _ List.mem_cons_self)
  have hP : va_P D vwCl (pool G ad σ) s.heap := hP
  have hS : va_S (AW1 B0) s.heap s.heap [] := va_S.rf
  have hl := lv_entry ([.ref (ad (270)), .int a, .ref (B0+290)]) (n := 4) (Nat.le_of_ble_eq_true rfl)
  rw [lg_entry_eq]
  generalize (lg_sl ([.ref (ad (270)), .int a, .ref (B0+290)]) ++ List.replicate (4 - (lg_sl ([.ref (ad (270)), .int a, .ref (B0+290)])).length) Slot.unset).toArray = ls at hl ⊢
  have hl : lv_has ls 4 [(0, .ref (ad (270))), (1, .int a), (2, .ref (B0+290))] := hl
  refine lv_aload_n hx hb dL_removePlatform_0 rfl (lv_at hl 2 rfl) ?_
  refine lv_iconst (v := 0) hx hb dL_removePlatform_1 (by decide) ?_
  refine lv_aload_n hx hb dL_removePlatform_2 rfl (lv_at hl 0 rfl) ?_
  refine lv_iload_n hx hb dL_removePlatform_3 rfl (lv_at hl 1 rfl) ?_
  refine vx_calli (vx_runV (As := [.int a]) (rest := [.int 0, .ref (B0+290)]) ⟨hx, hb, hml, hown, hts⟩ (c6_removePlatform l hl0 hA σ a hO) (cwV 1 hts gL_removePlatform_X6_removePlatform rfl rfl rfl hd_X6_removePlatformV ⟨(Nat.le_of_ble_eq_true rfl), (Nat.le_of_ble_eq_true rfl)⟩) ⟨hx_blind, va_recv hK hP (ci := 8) (q0 := 270) rfl g_270, hx_pre hK hN hT hL hG hR va_S.rf hP⟩ rfl rfl hl.1 rfl (lv_room (Nat.le_of_ble_eq_true rfl)) dL_removePlatform_4 ⟨(Nat.le_of_ble_eq_true rfl), (Nat.le_of_ble_eq_true rfl)⟩) hS (fun q _ h => Or.inl h) (fun q h => Or.inl h) (fun q _ h => Or.inl h) (fun E9 ce9 q9 z9 t9 H locs ht9 hvm9 hw9 hB9 hz9 hk9 hS hce9 hcv9 hcl9 => ?_) (fun v9 σ9 t H locs ht hvm hw9 hB hz1 hk1 hS => ?_)
  · obtain ⟨eqx, okx⟩ := hw9
    obtain ⟨rfl, hBx⟩ := hB9
    have hP := ho_at ht9 hBx
    have hPo := hPo.kept (fun k q hk => hk9 q.1 (vx_lt hPo hk) (wo_out1 hk))
    obtain ⟨n9, hn9⟩ := hE _ _ eqx
    obtain ⟨h1, h2⟩ := hn9
    rw [h1] at hcl9
    refine vx_catch (own := RL) (name := xOB) hown (tableOf []) ⟨0, 9, 12, 13⟩ (tableOf []) htab (fun z hz => nomatch hz) rfl (by decide) (hts (.classLink RL 13 "java/lang/IndexOutOfBoundsException") (List.mem_of_getElem? (i := 1) rfl)) ((hL.2.1 xOB (by decide)).use rfl) hce9 hcv9 hcl9 ?_
    refine lv_astore_n (lv' := [(3, .ref q9), (0, .ref (ad (270))), (1, .int a), (2, .ref (B0+290))]) hx hb dL_removePlatform_12 rfl hl (by decide) rfl (fun ls hl => ?_)
    refine lv_iconst (v := 1) hx hb dL_removePlatform_13 (by decide) ?_
    exact vx_ret (W.widen (Nat.le_of_ble_eq_true rfl) (Nat.le_of_ble_eq_true rfl) (W.iret (v := 1) hx hb hr (fun t ht hW => ⟨⟨1, (z9.2, f), rfl, ⟨okx, Or.inr ⟨z9.1, eqx, ⟨h1, rfl⟩⟩⟩, ⟨ho_of ht hP, by rw [ht]; exact hPo⟩⟩, hS.F ht⟩) hS.2.2 dL_removePlatform_14))
  · obtain ⟨eq9, ok9⟩ := hw9
    have hP := ho_at ht hB
    have hPo := hPo.kept (fun k q hk => hk1 q.1 (vx_lt hPo hk) (wo_out1 hk))
    refine lv_i2l (v := v9.toInt64) hx hb dL_removePlatform_7 rfl ?_
    refine va_last (tys := [(cL, .long)]) hx hb hKo (va_P.app hP hPo) (wp_D1 hA) hS 290 0 (wp_at (ad := ad) (G := G)) rfl (vp_in_iff.mpr (by decide)) dL_removePlatform_8 (fun H locs hP _ hS => ?_)
    obtain ⟨hP, hPo⟩ := wp_set hP
    refine lv_goto (tgt := 15) hx hb dL_removePlatform_9 (by decide) ?_
    obtain ⟨f9, ef9⟩ : ∃ z, z = vp_updL f (0 : Int32).toNatClampNeg v9.toInt64 := ⟨_, rfl⟩
    rw [← ef9] at hPo
    have hf9 : f9 0 = v9.toInt64 := by rw [ef9]; rfl
    refine lv_iconst (v := 0) hx hb dL_removePlatform_15 (by decide) ?_
    exact vx_ret (W.widen (Nat.le_of_ble_eq_true rfl) (Nat.le_of_ble_eq_true rfl) (W.iret (v := 0) hx hb hr (fun t ht hW => ⟨⟨0, (σ9, f9), rfl, ⟨ok9, Or.inl ⟨v9, eq9, rfl, hf9⟩⟩, ⟨ho_of ht hP, by rw [ht]; exact hPo⟩⟩, hS.F ht⟩) hS.2.2 dL_removePlatform_16))
set_option maxHeartbeats 4000000 in
set_option maxRecDepth 100000 in
theorem cL_platform_met (l : Launch) (hl0 : l.stackTraces = false) {D : va_G} {G : CY} {ad : Nat → Nat} {B0 : Nat} (hA : adOK B0 ad) (σ : Nat → Nat → Int32) (a : Int32) (b : Int32) (cL : ClassId) (f : Nat → Int64) (hO : okS σ) (hE : ∀ E z, ((Sum.inr E, z) : RT) = f6_platform σ a b → ∃ n, (cd2 xOB xIA) E n) : vx_Met l yL_platform wsL_platform { frames := 8, cells := 3, slots := 18, locals := 139 } (va_Pc [.ref (ad (270)), .int a, .int b, .ref (B0+290)] (Hw1 D G ad B0 σ cL f)) (va_Qi (fun (r : Int32) (z : ((Nat → Nat → Int32) × (Nat → Int64))) => okS z.1 ∧ ((∃ v, ((Sum.inl v, z.1) : RT) = f6_platform σ a b ∧ r = 0 ∧ z.2 0 = v.toInt64) ∨ (∃ E, ((Sum.inr E, z.1) : RT) = f6_platform σ a b ∧ (cd2 xOB xIA) E r))) (fun z t => Ho D G ad z.1 t ∧ va_P D vwCl [(B0+290, .inl (cL, 1, .inr (.inl z.2)))] t.heap) (AW1 B0)) (vx_X (fun (_ : Unit) => False) (fun _ _ _ => True) (AW1 B0)) 3 18 (AW1 B0) := by
  refine vx_ofWH (cc := cL_platform) (maxL := 5) (ret := (some .int)) (hh := [(0, 10, 13, 13), (0, 10, 17, 15)]) (by decide) rfl ?_
  intro p e s m args below meth c s₁ B hml hv
  obtain ⟨rfl, ⟨⟨hP, hK, hN⟩, hT, hL, adK, adV, hG, hR⟩, hNc, hPo, hKo⟩ := hv
  have hx := B.exec
  have hb := B.bytes
  have hr := B.returns
  have hts := atoms_spec (ws := wsL_platform) B.pre
  have hown : s.vm.findClass RL = some m.cls := findClass_of_methodNamed B.named
  have hlocks := B.notSynchronized
  have htab : c.exceptionTable.toList = tableOf [(0, 10, 13, 13), (0, 10, 17, 15)] := vx_table (x := yL_platform) B (hts _ List.mem_cons_self)
  have hP : va_P D vwCl (pool G ad σ) s.heap := hP
  have hS : va_S (AW1 B0) s.heap s.heap [] := va_S.rf
  have hl := lv_entry ([.ref (ad (270)), .int a, .int b, .ref (B0+290)]) (n := 5) (Nat.le_of_ble_eq_true rfl)
  rw [lg_entry_eq]
  generalize (lg_sl ([.ref (ad (270)), .int a, .int b, .ref (B0+290)]) ++ List.replicate (5 - (lg_sl ([.ref (ad (270)), .int a, .int b, .ref (B0+290)])).length) Slot.unset).toArray = ls at hl ⊢
  have hl : lv_has ls 5 [(0, .ref (ad (270))), (1, .int a), (2, .int b), (3, .ref (B0+290))] := hl
  refine lv_aload_n hx hb dL_platform_0 rfl (lv_at hl 3 rfl) ?_
  refine lv_iconst (v := 0) hx hb dL_platform_1 (by decide) ?_
  refine lv_aload_n hx hb dL_platform_2 rfl (lv_at hl 0 rfl) ?_
  refine lv_iload_n hx hb dL_platform_3 rfl (lv_at hl 1 rfl) ?_
  refine lv_iload_n hx hb dL_platform_4 rfl (lv_at hl 2 rfl) ?_
  refine vx_calli (vx_runV (As := [.int a, .int b]) (rest := [.int 0, .ref (B0+290)]) ⟨hx, hb, hml, hown, hts⟩ (c6_platform l hl0 hA σ a b hO) (cwV 2 hts gL_platform_X6_platform rfl rfl rfl hd_X6_platformV ⟨(Nat.le_of_ble_eq_true rfl), (Nat.le_of_ble_eq_true rfl)⟩) ⟨hx_blind, va_recv hK hP (ci := 8) (q0 := 270) rfl g_270, hx_pre hK hN hT hL hG hR va_S.rf hP⟩ rfl rfl hl.1 rfl (lv_room (Nat.le_of_ble_eq_true rfl)) dL_platform_5 ⟨(Nat.le_of_ble_eq_true rfl), (Nat.le_of_ble_eq_true rfl)⟩) hS (fun q _ h => Or.inl h) (fun q h => Or.inl h) (fun q _ h => Or.inl h) (fun E9 ce9 q9 z9 t9 H locs ht9 hvm9 hw9 hB9 hz9 hk9 hS hce9 hcv9 hcl9 => ?_) (fun v9 σ9 t H locs ht hvm hw9 hB hz1 hk1 hS => ?_)
  · obtain ⟨eqx, okx⟩ := hw9
    obtain ⟨rfl, hBx⟩ := hB9
    have hP := ho_at ht9 hBx
    have hPo := hPo.kept (fun k q hk => hk9 q.1 (vx_lt hPo hk) (wo_out1 hk))
    obtain ⟨n9, hn9⟩ := hE _ _ eqx
    rcases hn9 with ⟨h1, h2⟩ | ⟨h1, h2⟩
    · rw [h1] at hcl9
      refine vx_catch (own := RL) (name := xOB) hown (tableOf []) ⟨0, 10, 13, 13⟩ (tableOf [(0, 10, 17, 15)]) htab (fun z hz => nomatch hz) rfl (by decide) (hts (.classLink RL 13 "java/lang/IndexOutOfBoundsException") (List.mem_of_getElem? (i := 1) rfl)) ((hL.2.1 xOB (by decide)).use rfl) hce9 hcv9 hcl9 ?_
      refine lv_astore (lv' := [(4, .ref q9), (0, .ref (ad (270))), (1, .int a), (2, .int b), (3, .ref (B0+290))]) hx hb dL_platform_13 hl (by decide) rfl (fun ls hl => ?_)
      refine lv_iconst (v := 1) hx hb dL_platform_15 (by decide) ?_
      exact vx_ret (W.widen (Nat.le_of_ble_eq_true rfl) (Nat.le_of_ble_eq_true rfl) (W.iret (v := 1) hx hb hr (fun t ht hW => ⟨⟨1, (z9.2, f), rfl, ⟨okx, Or.inr ⟨z9.1, eqx, Or.inl ⟨h1, rfl⟩⟩⟩, ⟨ho_of ht hP, by rw [ht]; exact hPo⟩⟩, hS.F ht⟩) hS.2.2 dL_platform_16))
    · rw [h1] at hcl9
      refine vx_catch (own := RL) (name := xIA) hown (tableOf [(0, 10, 13, 13)]) ⟨0, 10, 17, 15⟩ (tableOf []) htab (fun z hz => by cases List.mem_singleton.mp hz; exact Or.inr ⟨by decide, xOB, (hts (.classLink RL 13 "java/lang/IndexOutOfBoundsException") (List.mem_of_getElem? (i := 1) rfl)), hNc.1⟩) rfl (by decide) (hts (.classLink RL 15 "java/lang/IllegalArgumentException") (List.mem_of_getElem? (i := 2) rfl)) ((hL.2.1 xIA (by decide)).use rfl) hce9 hcv9 hcl9 ?_
      refine lv_astore (lv' := [(4, .ref q9), (0, .ref (ad (270))), (1, .int a), (2, .int b), (3, .ref (B0+290))]) hx hb dL_platform_17 hl (by decide) rfl (fun ls hl => ?_)
      refine lv_iconst (v := 2) hx hb dL_platform_19 (by decide) ?_
      exact vx_ret (W.widen (Nat.le_of_ble_eq_true rfl) (Nat.le_of_ble_eq_true rfl) (W.iret (v := 2) hx hb hr (fun t ht hW => ⟨⟨2, (z9.2, f), rfl, ⟨okx, Or.inr ⟨z9.1, eqx, Or.inr (⟨h1, rfl⟩)⟩⟩, ⟨ho_of ht hP, by rw [ht]; exact hPo⟩⟩, hS.F ht⟩) hS.2.2 dL_platform_20))
  · obtain ⟨eq9, ok9⟩ := hw9
    have hP := ho_at ht hB
    have hPo := hPo.kept (fun k q hk => hk1 q.1 (vx_lt hPo hk) (wo_out1 hk))
    refine lv_i2l (v := v9.toInt64) hx hb dL_platform_8 rfl ?_
    refine va_last (tys := [(cL, .long)]) hx hb hKo (va_P.app hP hPo) (wp_D1 hA) hS 290 0 (wp_at (ad := ad) (G := G)) rfl (vp_in_iff.mpr (by decide)) dL_platform_9 (fun H locs hP _ hS => ?_)
    obtain ⟨hP, hPo⟩ := wp_set hP
    refine lv_goto (tgt := 21) hx hb dL_platform_10 (by decide) ?_
    obtain ⟨f9, ef9⟩ : ∃ z, z = vp_updL f (0 : Int32).toNatClampNeg v9.toInt64 := ⟨_, rfl⟩
    rw [← ef9] at hPo
    have hf9 : f9 0 = v9.toInt64 := by rw [ef9]; rfl
    refine lv_iconst (v := 0) hx hb dL_platform_21 (by decide) ?_
    exact vx_ret (W.widen (Nat.le_of_ble_eq_true rfl) (Nat.le_of_ble_eq_true rfl) (W.iret (v := 0) hx hb hr (fun t ht hW => ⟨⟨0, (σ9, f9), rfl, ⟨ok9, Or.inl ⟨v9, eq9, rfl, hf9⟩⟩, ⟨ho_of ht hP, by rw [ht]; exact hPo⟩⟩, hS.F ht⟩) hS.2.2 dL_platform_22))
