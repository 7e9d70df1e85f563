/-! THE LAW'S WRAPPERS -/
set_option maxHeartbeats 4000000 in
set_option maxRecDepth 100000 in
theorem cL_count_met (l : Launch) (hl0 : l.stackTraces = false) {D : va_G} {G : CY} {ad : Nat → Nat} {B0 : Nat} (hA : adOK B0 ad) (σ : Nat → Nat → Int32) (a : Int32) (cL : ClassId) (f : Nat → Int64) (hO : okS σ) (hE : ∀ E z, ((Sum.inr E, z) : RT) = f6_count σ a → ∃ n, (cd1 xIA) E n) : vx_Met l yL_count wsL_count { frames := 8, cells := 2, slots := 12, locals := 137 } (va_Pc [.ref (ad (270)), .int a, .ref (B0+290)] (Hw1 D G ad B0 σ cL f)) (va_Qi (fun (r : Int32) (z : ((Nat → Nat → Int32) × (Nat → Int64))) => okS z.1 ∧ ((∃ v, ((Sum.inl v, z.1) : RT) = f6_count σ a ∧ r = 0 ∧ z.2 0 = v.toInt64) ∨ (∃ E, ((Sum.inr E, z.1) : RT) = f6_count σ a ∧ (cd1 xIA) E r))) (fun z t => Ho D G ad z.1 t ∧ va_P D vwCl [(B0+290, .inl (cL, 1, .inr (.inl z.2)))] t.heap) (AW1 B0)) (vx_X (fun (_ : Unit) => False) (fun _ _ _ => True) (AW1 B0)) 2 12 (AW1 B0) := by
  refine vx_ofWH (cc := cL_count) (maxL := 4) (ret := (some .int)) (hh := [(0, 9, 12, 15)]) (by decide) rfl ?_
  intro p e s m args below meth c s₁ B hml hv
  obtain ⟨rfl, ⟨⟨hP, hK, hN⟩, hT, hL, adK, adV, hG, hR⟩, hNc, hPo, hKo⟩ := hv
  have hx := B.exec
  have hb := B.bytes
  have hr := B.returns
  have hts := atoms_spec (ws := wsL_count) B.pre
  have hown : s.vm.findClass RL = some m.cls := findClass_of_methodNamed B.named
  have hlocks := B.notSynchronized
  have htab : c.exceptionTable.toList = tableOf [(0, 9, 12, 15)] := vx_table (x := yL_count) B (hts _ List.mem_cons_self)
  have hP : va_P D vwCl (pool G ad σ) s.heap := hP
  have hS : va_S (AW1 B0) s.heap s.heap [] := va_S.rf
  have hl := lv_entry ([.ref (ad (270)), .int a, .ref (B0+290)]) (n := 4) (Nat.le_of_ble_eq_true rfl)
  rw [lg_entry_eq]
  generalize (lg_sl ([.ref (ad (270)), .int a, .ref (B0+290)]) ++ List.replicate (4 - (lg_sl ([.ref (ad (270)), .int a, .ref (B0+290)])).length) Slot.unset).toArray = ls at hl ⊢
  have hl : lv_has ls 4 [(0, .ref (ad (270))), (1, .int a), (2, .ref (B0+290))] := hl
  refine lv_aload_n hx hb dL_count_0 rfl (lv_at hl 2 rfl) ?_
  refine lv_iconst (v := 0) hx hb dL_count_1 (by decide) ?_
  refine lv_aload_n hx hb dL_count_2 rfl (lv_at hl 0 rfl) ?_
  refine lv_iload_n hx hb dL_count_3 rfl (lv_at hl 1 rfl) ?_
  refine vx_calli (vx_runV (As := [.int a]) (rest := [.int 0, .ref (B0+290)]) ⟨hx, hb, hml, hown, hts⟩ (c6_count l hl0 hA σ a hO) (cwV 1 hts gL_count_X6_count rfl rfl rfl hd_X6_countV ⟨(Nat.le_of_ble_eq_true rfl), (Nat.le_of_ble_eq_true rfl)⟩) ⟨hx_blind, va_recv hK hP (ci := 8) (q0 := 270) rfl g_270, hx_pre hK hN hT hL hG hR va_S.rf hP⟩ rfl rfl hl.1 rfl (lv_room (Nat.le_of_ble_eq_true rfl)) dL_count_4 ⟨(Nat.le_of_ble_eq_true rfl), (Nat.le_of_ble_eq_true rfl)⟩) hS (fun q _ h => Or.inl h) (fun q h => Or.inl h) (fun q _ h => Or.inl h) (fun E9 ce9 q9 z9 t9 H locs ht9 hvm9 hw9 hB9 hz9 hk9 hS hce9 hcv9 hcl9 => ?_) (fun v9 σ9 t H locs ht hvm hw9 hB hz1 hk1 hS => ?_)
  · obtain ⟨eqx, okx⟩ := hw9
    obtain ⟨rfl, hBx⟩ := hB9
    have hP := ho_at ht9 hBx
    have hPo := hPo.kept (fun k q hk => hk9 q.1 (vx_lt hPo hk) (wo_out1 hk))
    obtain ⟨n9, hn9⟩ := hE _ _ eqx
    obtain ⟨h1, h2⟩ := hn9
    rw [h1] at hcl9
    refine vx_catch (own := RL) (name := xIA) hown (tableOf []) ⟨0, 9, 12, 15⟩ (tableOf []) htab (fun z hz => nomatch hz) rfl (by decide) (hts (.classLink RL 15 "java/lang/IllegalArgumentException") (List.mem_of_getElem? (i := 1) rfl)) ((hL.2.1 xIA (by decide)).use rfl) hce9 hcv9 hcl9 ?_
    refine lv_astore_n (lv' := [(3, .ref q9), (0, .ref (ad (270))), (1, .int a), (2, .ref (B0+290))]) hx hb dL_count_12 rfl hl (by decide) rfl (fun ls hl => ?_)
    refine lv_iconst (v := 1) hx hb dL_count_13 (by decide) ?_
    exact vx_ret (W.widen (Nat.le_of_ble_eq_true rfl) (Nat.le_of_ble_eq_true rfl) (W.iret (v := 1) hx hb hr (fun t ht hW => ⟨⟨1, (z9.2, f), rfl, ⟨okx, Or.inr ⟨z9.1, eqx, ⟨h1, rfl⟩⟩⟩, ⟨ho_of ht hP, by rw [ht]; exact hPo⟩⟩, hS.F ht⟩) hS.2.2 dL_count_14))
  · obtain ⟨eq9, ok9⟩ := hw9
    have hP := ho_at ht hB
    have hPo := hPo.kept (fun k q hk => hk1 q.1 (vx_lt hPo hk) (wo_out1 hk))
    refine lv_i2l (v := v9.toInt64) hx hb dL_count_7 rfl ?_
    refine va_last (tys := [(cL, .long)]) hx hb hKo (va_P.app hP hPo) (wp_D1 hA) hS 290 0 (wp_at (ad := ad) (G := G)) rfl (vp_in_iff.mpr (by decide)) dL_count_8 (fun H locs hP _ hS => ?_)
    obtain ⟨hP, hPo⟩ := wp_set hP
    refine lv_goto (tgt := 15) hx hb dL_count_9 (by decide) ?_
    obtain ⟨f9, ef9⟩ : ∃ z, z = vp_updL f (0 : Int32).toNatClampNeg v9.toInt64 := ⟨_, rfl⟩
    rw [← ef9] at hPo
    have hf9 : f9 0 = v9.toInt64 := by rw [ef9]; rfl
    refine lv_iconst (v := 0) hx hb dL_count_15 (by decide) ?_
    exact vx_ret (W.widen (Nat.le_of_ble_eq_true rfl) (Nat.le_of_ble_eq_true rfl) (W.iret (v := 0) hx hb hr (fun t ht hW => ⟨⟨0, (σ9, f9), rfl, ⟨ok9, Or.inl ⟨v9, eq9, rfl, hf9⟩⟩, ⟨ho_of ht hP, by rw [ht]; exact hPo⟩⟩, hS.F ht⟩) hS.2.2 dL_count_16))
set_option maxHeartbeats 4000000 in
set_option maxRecDepth 100000 in
theorem cL_set_met (l : Launch) (hl0 : l.stackTraces = false) {D : va_G} {G : CY} {ad : Nat → Nat} {B0 : Nat} (hA : adOK B0 ad) (σ : Nat → Nat → Int32) (a : Int32) (b : Int32) (cL : ClassId) (f : Nat → Int64) (hO : okS σ) (hE : ∀ E z, ((Sum.inr E, z) : RT) = f6_set σ a b → ∃ n, (cd2 xOB xIA) E n) : vx_Met l yL_set wsL_set { frames := 8, cells := 1, slots := 6, locals := 139 } (va_Pc [.ref (ad (270)), .int a, .int b, .ref (B0+290)] (Hw1 D G ad B0 σ cL f)) (va_Qi (fun (r : Int32) (z : ((Nat → Nat → Int32) × (Nat → Int64))) => okS z.1 ∧ ((∃ v, ((Sum.inl v, z.1) : RT) = f6_set σ a b ∧ r = 0 ∧ z.2 0 = v.toInt64) ∨ (∃ E, ((Sum.inr E, z.1) : RT) = f6_set σ a b ∧ (cd2 xOB xIA) E r))) (fun z t => Ho D G ad z.1 t ∧ va_P D vwCl [(B0+290, .inl (cL, 1, .inr (.inl z.2)))] t.heap) (AW1 B0)) (vx_X (fun (_ : Unit) => False) (fun _ _ _ => True) (AW1 B0)) 1 6 (AW1 B0) := by
  refine vx_ofWH (cc := cL_set) (maxL := 5) (ret := (some .int)) (hh := [(0, 10, 13, 13), (0, 10, 17, 15)]) (by decide) rfl ?_
  intro p e s m args below meth c s₁ B hml hv
  obtain ⟨rfl, ⟨⟨hP, hK, hN⟩, hT, hL, adK, adV, hG, hR⟩, hNc, hPo, hKo⟩ := hv
  have hx := B.exec
  have hb := B.bytes
  have hr := B.returns
  have hts := atoms_spec (ws := wsL_set) B.pre
  have hown : s.vm.findClass RL = some m.cls := findClass_of_methodNamed B.named
  have hlocks := B.notSynchronized
  have htab : c.exceptionTable.toList = tableOf [(0, 10, 13, 13), (0, 10, 17, 15)] := vx_table (x := yL_set) B (hts _ List.mem_cons_self)
  have hP : va_P D vwCl (pool G ad σ) s.heap := hP
  have hS : va_S (AW1 B0) s.heap s.heap [] := va_S.rf
  have hl := lv_entry ([.ref (ad (270)), .int a, .int b, .ref (B0+290)]) (n := 5) (Nat.le_of_ble_eq_true rfl)
  rw [lg_entry_eq]
  generalize (lg_sl ([.ref (ad (270)), .int a, .int b, .ref (B0+290)]) ++ List.replicate (5 - (lg_sl ([.ref (ad (270)), .int a, .int b, .ref (B0+290)])).length) Slot.unset).toArray = ls at hl ⊢
  have hl : lv_has ls 5 [(0, .ref (ad (270))), (1, .int a), (2, .int b), (3, .ref (B0+290))] := hl
  refine lv_aload_n hx hb dL_set_0 rfl (lv_at hl 3 rfl) ?_
  refine lv_iconst (v := 0) hx hb dL_set_1 (by decide) ?_
  refine lv_aload_n hx hb dL_set_2 rfl (lv_at hl 0 rfl) ?_
  refine lv_iload_n hx hb dL_set_3 rfl (lv_at hl 1 rfl) ?_
  refine lv_iload_n hx hb dL_set_4 rfl (lv_at hl 2 rfl) ?_
  refine vx_calli (vx_runV (As := [.int a, .int b]) (rest := [.int 0, .ref (B0+290)]) ⟨hx, hb, hml, hown, hts⟩ (c6_set l hl0 hA σ a b hO) (cwV 2 hts gL_set_X6_set rfl rfl rfl hd_X6_setV ⟨(Nat.le_of_ble_eq_true rfl), (Nat.le_of_ble_eq_true rfl)⟩) ⟨hx_blind, va_recv hK hP (ci := 8) (q0 := 270) rfl g_270, hx_pre hK hN hT hL hG hR va_S.rf hP⟩ rfl rfl hl.1 rfl (lv_room (Nat.le_of_ble_eq_true rfl)) dL_set_5 ⟨(Nat.le_of_ble_eq_true rfl), (Nat.le_of_ble_eq_true rfl)⟩) hS (fun q _ h => Or.inl h) (fun q h => Or.inl h) (fun q _ h => Or.inl h) (fun E9 ce9 q9 z9 t9 H locs ht9 hvm9 hw9 hB9 hz9 hk9 hS hce9 hcv9 hcl9 => ?_) (fun v9 σ9 t H locs ht hvm hw9 hB hz1 hk1 hS => ?_)
  · obtain ⟨eqx, okx⟩ := hw9
    obtain ⟨rfl, hBx⟩ := hB9
    have hP := ho_at ht9 hBx
    have hPo := hPo.kept (fun k q hk => hk9 q.1 (vx_lt hPo hk) (wo_out1 hk))
    obtain ⟨n9, hn9⟩ := hE _ _ eqx
    rcases hn9 with ⟨h1, h2⟩ | ⟨h1, h2⟩
    · rw [h1] at hcl9
      refine vx_catch (own := RL) (name := xOB) hown (tableOf []) ⟨0, 10, 13, 13⟩ (tableOf [(0, 10, 17, 15)]) htab (fun z hz => nomatch hz) rfl (by decide) (hts (.classLink RL 13 "java/lang/IndexOutOfBoundsException") (List.mem_of_getElem? (i := 1) rfl)) ((hL.2.1 xOB (by decide)).use rfl) hce9 hcv9 hcl9 ?_
      refine lv_astore (lv' := [(4, .ref q9), (0, .ref (ad (270))), (1, .int a), (2, .int b), (3, .ref (B0+290))]) hx hb dL_set_13 hl (by decide) rfl (fun ls hl => ?_)
      refine lv_iconst (v := 1) hx hb dL_set_15 (by decide) ?_
      exact vx_ret (W.widen (Nat.le_of_ble_eq_true rfl) (Nat.le_of_ble_eq_true rfl) (W.iret (v := 1) hx hb hr (fun t ht hW => ⟨⟨1, (z9.2, f), rfl, ⟨okx, Or.inr ⟨z9.1, eqx, Or.inl ⟨h1, rfl⟩⟩⟩, ⟨ho_of ht hP, by rw [ht]; exact hPo⟩⟩, hS.F ht⟩) hS.2.2 dL_set_16))
    · rw [h1] at hcl9
      refine vx_catch (own := RL) (name := xIA) hown (tableOf [(0, 10, 13, 13)]) ⟨0, 10, 17, 15⟩ (tableOf []) htab (fun z hz => by cases List.mem_singleton.mp hz; exact Or.inr ⟨by decide, xOB, (hts (.classLink RL 13 "java/lang/IndexOutOfBoundsException") (List.mem_of_getElem? (i := 1) rfl)), hNc.1⟩) rfl (by decide) (hts (.classLink RL 15 "java/lang/IllegalArgumentException") (List.mem_of_getElem? (i := 2) rfl)) ((hL.2.1 xIA (by decide)).use rfl) hce9 hcv9 hcl9 ?_
      refine lv_astore (lv' := [(4, .ref q9), (0, .ref (ad (270))), (1, .int a), (2, .int b), (3, .ref (B0+290))]) hx hb dL_set_17 hl (by decide) rfl (fun ls hl => ?_)
      refine lv_iconst (v := 2) hx hb dL_set_19 (by decide) ?_
      exact vx_ret (W.widen (Nat.le_of_ble_eq_true rfl) (Nat.le_of_ble_eq_true rfl) (W.iret (v := 2) hx hb hr (fun t ht hW => ⟨⟨2, (z9.2, f), rfl, ⟨okx, Or.inr ⟨z9.1, eqx, Or.inr (⟨h1, rfl⟩)⟩⟩, ⟨ho_of ht hP, by rw [ht]; exact hPo⟩⟩, hS.F ht⟩) hS.2.2 dL_set_20))
  · obtain ⟨eq9, ok9⟩ := hw9
    have hP := ho_at ht hB
    have hPo := hPo.kept (fun k q hk => hk1 q.1 (vx_lt hPo hk) (wo_out1 hk))
    refine lv_i2l (v := v9.toInt64) hx hb dL_set_8 rfl ?_
    refine va_last (tys := [(cL, .long)]) hx hb hKo (va_P.app hP hPo) (wp_D1 hA) hS 290 0 (wp_at (ad := ad) (G := G)) rfl (vp_in_iff.mpr (by decide)) dL_set_9 (fun H locs hP _ hS => ?_)
    obtain ⟨hP, hPo⟩ := wp_set hP
    refine lv_goto (tgt := 21) hx hb dL_set_10 (by decide) ?_
    obtain ⟨f9, ef9⟩ : ∃ z, z = vp_updL f (0 : Int32).toNatClampNeg v9.toInt64 := ⟨_, rfl⟩
    rw [← ef9] at hPo
    have hf9 : f9 0 = v9.toInt64 := by rw [ef9]; rfl
    refine lv_iconst (v := 0) hx hb dL_set_21 (by decide) ?_
    exact vx_ret (W.widen (Nat.le_of_ble_eq_true rfl) (Nat.le_of_ble_eq_true rfl) (W.iret (v := 0) hx hb hr (fun t ht hW => ⟨⟨0, (σ9, f9), rfl, ⟨ok9, Or.inl ⟨v9, eq9, rfl, hf9⟩⟩, ⟨ho_of ht hP, by rw [ht]; exact hPo⟩⟩, hS.F ht⟩) hS.2.2 dL_set_22))
set_option maxHeartbeats 4000000 in
set_option maxRecDepth 100000 in
theorem cL_tickUntilStanding_met (l : Launch) (hl0 : l.stackTraces = false) {D : va_G} {G : CY} {ad : Nat → Nat} {B0 : Nat} (hA : adOK B0 ad) (σ : Nat → Nat → Int32) (a : Int32) (b : Int32) (cL : ClassId) (f : Nat → Int64) (hO : okS σ) (hE : ∀ E z, ((Sum.inr E, z) : RT) = f6_tickUntilStanding σ a b → ∃ n, (cd3 xOB xIA xNS) E n) : vx_Met l yL_tickUntilStanding wsM_tickUntilStanding { frames := 8, cells := 3, slots := 18, locals := 196 } (va_Pc [.ref (ad (270)), .int a, .int b, .ref (B0+290)] (Hw1 D G ad B0 σ cL f)) (va_Qi (fun (r : Int32) (z : ((Nat → Nat → Int32) × (Nat → Int64))) => okS z.1 ∧ ((∃ v, ((Sum.inl v, z.1) : RT) = f6_tickUntilStanding σ a b ∧ r = 0 ∧ z.2 0 = v.toInt64) ∨ (∃ E, ((Sum.inr E, z.1) : RT) = f6_tickUntilStanding σ a b ∧ (cd3 xOB xIA xNS) E r))) (fun z t => Ho D G ad z.1 t ∧ va_P D vwCl [(B0+290, .inl (cL, 1, .inr (.inl z.2)))] t.heap) (AW1 B0)) (vx_X (fun (_ : Unit) => False) (fun _ _ _ => True) (AW1 B0)) 3 18 (AW1 B0) := by
  refine vx_ofWH (cc := cL_tickUntilStanding) (maxL := 5) (ret := (some .int)) (hh := [(0, 10, 13, 13), (0, 10, 17, 15), (0, 10, 21, 62)]) (by decide) rfl ?_
  intro p e s m args below meth c s₁ B hml hv
  obtain ⟨rfl, ⟨⟨hP, hK, hN⟩, hT, hL, adK, adV, hG, hR⟩, hNc, hPo, hKo⟩ := hv
  have hx := B.exec
  have hb := B.bytes
  have hr := B.returns
  have hts := atoms_spec (ws := wsM_tickUntilStanding) B.pre
  have hown : s.vm.findClass RL = some m.cls := findClass_of_methodNamed B.named
  have hlocks := B.notSynchronized
  have htab : c.exceptionTable.toList = tableOf [(0, 10, 13, 13), (0, 10, 17, 15), (0, 10, 21, 62)] := vx_table (x := yL_tickUntilStanding) B (hts _ List.mem_cons_self)
  have hP : va_P D vwCl (pool G ad σ) s.heap := hP
  have hS : va_S (AW1 B0) s.heap s.heap [] := va_S.rf
  have hl := lv_entry ([.ref (ad (270)), .int a, .int b, .ref (B0+290)]) (n := 5) (Nat.le_of_ble_eq_true rfl)
  rw [lg_entry_eq]
  generalize (lg_sl ([.ref (ad (270)), .int a, .int b, .ref (B0+290)]) ++ List.replicate (5 - (lg_sl ([.ref (ad (270)), .int a, .int b, .ref (B0+290)])).length) Slot.unset).toArray = ls at hl ⊢
  have hl : lv_has ls 5 [(0, .ref (ad (270))), (1, .int a), (2, .int b), (3, .ref (B0+290))] := hl
  refine lv_aload_n hx hb dL_tickUntilStanding_0 rfl (lv_at hl 3 rfl) ?_
  refine lv_iconst (v := 0) hx hb dL_tickUntilStanding_1 (by decide) ?_
  refine lv_aload_n hx hb dL_tickUntilStanding_2 rfl (lv_at hl 0 rfl) ?_
  refine lv_iload_n hx hb dL_tickUntilStanding_3 rfl (lv_at hl 1 rfl) ?_
  refine lv_iload_n hx hb dL_tickUntilStanding_4 rfl (lv_at hl 2 rfl) ?_
  refine vx_calli (vx_runV (As := [.int a, .int b]) (rest := [.int 0, .ref (B0+290)]) ⟨hx, hb, hml, hown, hts⟩ (c6_tickUntilStanding l hl0 hA σ a b hO) (cwV 2 hts gM_tickUntilStanding_X6_tickUntilStanding rfl rfl rfl hd_X6_tickUntilStandingV ⟨(Nat.le_of_ble_eq_true rfl), (Nat.le_of_ble_eq_true rfl)⟩) ⟨hx_blind, va_recv hK hP (ci := 8) (q0 := 270) rfl g_270, hx_pre hK hN hT hL hG hR va_S.rf hP⟩ rfl rfl hl.1 rfl (lv_room (Nat.le_of_ble_eq_true rfl)) dL_tickUntilStanding_5 ⟨(Nat.le_of_ble_eq_true rfl), (Nat.le_of_ble_eq_true rfl)⟩) hS (fun q _ h => Or.inl h) (fun q h => Or.inl h) (fun q _ h => Or.inl h) (fun E9 ce9 q9 z9 t9 H locs ht9 hvm9 hw9 hB9 hz9 hk9 hS hce9 hcv9 hcl9 => ?_) (fun v9 σ9 t H locs ht hvm hw9 hB hz1 hk1 hS => ?_)
  · obtain ⟨eqx, okx⟩ := hw9
    obtain ⟨rfl, hBx⟩ := hB9
    have hP := ho_at ht9 hBx
    have hPo := hPo.kept (fun k q hk => hk9 q.1 (vx_lt hPo hk) (wo_out1 hk))
    obtain ⟨n9, hn9⟩ := hE _ _ eqx
    rcases hn9 with ⟨h1, h2⟩ | ⟨h1, h2⟩ | ⟨h1, h2⟩
    · rw [h1] at hcl9
      refine vx_catch (own := RL) (name := xOB) hown (tableOf []) ⟨0, 10, 13, 13⟩ (tableOf [(0, 10, 17, 15), (0, 10, 21, 62)]) htab (fun z hz => nomatch hz) rfl (by decide) (hts (.classLink RL 13 "java/lang/IndexOutOfBoundsException") (List.mem_of_getElem? (i := 1) rfl)) ((hL.2.1 xOB (by decide)).use rfl) hce9 hcv9 hcl9 ?_
      refine lv_astore (lv' := [(4, .ref q9), (0, .ref (ad (270))), (1, .int a), (2, .int b), (3, .ref (B0+290))]) hx hb dL_tickUntilStanding_13 hl (by decide) rfl (fun ls hl => ?_)
      refine lv_iconst (v := 1) hx hb dL_tickUntilStanding_15 (by decide) ?_
      exact vx_ret (W.widen (Nat.le_of_ble_eq_true rfl) (Nat.le_of_ble_eq_true rfl) (W.iret (v := 1) hx hb hr (fun t ht hW => ⟨⟨1, (z9.2, f), rfl, ⟨okx, Or.inr ⟨z9.1, eqx, Or.inl ⟨h1, rfl⟩⟩⟩, ⟨ho_of ht hP, by rw [ht]; exact hPo⟩⟩, hS.F ht⟩) hS.2.2 dL_tickUntilStanding_16))
    · rw [h1] at hcl9
      refine vx_catch (own := RL) (name := xIA) hown (tableOf [(0, 10, 13, 13)]) ⟨0, 10, 17, 15⟩ (tableOf [(0, 10, 21, 62)]) htab (fun z hz => by cases List.mem_singleton.mp hz; exact Or.inr ⟨by decide, xOB, (hts (.classLink RL 13 "java/lang/IndexOutOfBoundsException") (List.mem_of_getElem? (i := 1) rfl)), hNc.1⟩) rfl (by decide) (hts (.classLink RL 15 "java/lang/IllegalArgumentException") (List.mem_of_getElem? (i := 2) rfl)) ((hL.2.1 xIA (by decide)).use rfl) hce9 hcv9 hcl9 ?_
      refine lv_astore (lv' := [(4, .ref q9), (0, .ref (ad (270))), (1, .int a), (2, .int b), (3, .ref (B0+290))]) hx hb dL_tickUntilStanding_17 hl (by decide) rfl (fun ls hl => ?_)
      refine lv_iconst (v := 2) hx hb dL_tickUntilStanding_19 (by decide) ?_
      exact vx_ret (W.widen (Nat.le_of_ble_eq_true rfl) (Nat.le_of_ble_eq_true rfl) (W.iret (v := 2) hx hb hr (fun t ht hW => ⟨⟨2, (z9.2, f), rfl, ⟨okx, Or.inr ⟨z9.1, eqx, Or.inr (Or.inl ⟨h1, rfl⟩)⟩⟩, ⟨ho_of ht hP, by rw [ht]; exact hPo⟩⟩, hS.F ht⟩) hS.2.2 dL_tickUntilStanding_20))
    · rw [h1] at hcl9
      refine vx_catch (own := RL) (name := xNS) hown (tableOf [(0, 10, 13, 13), (0, 10, 17, 15)]) ⟨0, 10, 21, 62⟩ (tableOf []) htab (fun z hz => by rcases List.mem_cons.mp hz with rfl | hz; exact Or.inr ⟨by decide, xOB, (hts (.classLink RL 13 "java/lang/IndexOutOfBoundsException") (List.mem_of_getElem? (i := 1) rfl)), hNc.2.2.2.1⟩; cases List.mem_singleton.mp hz; exact Or.inr ⟨by decide, xIA, (hts (.classLink RL 15 "java/lang/IllegalArgumentException") (List.mem_of_getElem? (i := 2) rfl)), hNc.2.2.2.2.1⟩) rfl (by decide) (hts (.classLink RL 62 "java/util/NoSuchElementException") (List.mem_of_getElem? (i := 3) rfl)) ((hL.2.1 xNS (by decide)).use rfl) hce9 hcv9 hcl9 ?_
      refine lv_astore (lv' := [(4, .ref q9), (0, .ref (ad (270))), (1, .int a), (2, .int b), (3, .ref (B0+290))]) hx hb dL_tickUntilStanding_21 hl (by decide) rfl (fun ls hl => ?_)
      refine lv_iconst (v := 3) hx hb dL_tickUntilStanding_23 (by decide) ?_
      exact vx_ret (W.widen (Nat.le_of_ble_eq_true rfl) (Nat.le_of_ble_eq_true rfl) (W.iret (v := 3) hx hb hr (fun t ht hW => ⟨⟨3, (z9.2, f), rfl, ⟨okx, Or.inr ⟨z9.1, eqx, Or.inr (Or.inr (⟨h1, rfl⟩))⟩⟩, ⟨ho_of ht hP, by rw [ht]; exact hPo⟩⟩, hS.F ht⟩) hS.2.2 dL_tickUntilStanding_24))
  · obtain ⟨eq9, ok9⟩ := hw9
    have hP := ho_at ht hB
    have hPo := hPo.kept (fun k q hk => hk1 q.1 (vx_lt hPo hk) (wo_out1 hk))
    refine lv_i2l (v := v9.toInt64) hx hb dL_tickUntilStanding_8 rfl ?_
    refine va_last (tys := [(cL, .long)]) hx hb hKo (va_P.app hP hPo) (wp_D1 hA) hS 290 0 (wp_at (ad := ad) (G := G)) rfl (vp_in_iff.mpr (by decide)) dL_tickUntilStanding_9 (fun H locs hP _ hS => ?_)
    obtain ⟨hP, hPo⟩ := wp_set hP
    refine lv_goto (tgt := 25) hx hb dL_tickUntilStanding_10 (by decide) ?_
    obtain ⟨f9, ef9⟩ : ∃ z, z = vp_updL f (0 : Int32).toNatClampNeg v9.toInt64 := ⟨_, rfl⟩
    rw [← ef9] at hPo
    have hf9 : f9 0 = v9.toInt64 := by rw [ef9]; rfl
    refine lv_iconst (v := 0) hx hb dL_tickUntilStanding_25 (by decide) ?_
    exact vx_ret (W.widen (Nat.le_of_ble_eq_true rfl) (Nat.le_of_ble_eq_true rfl) (W.iret (v := 0) hx hb hr (fun t ht hW => ⟨⟨0, (σ9, f9), rfl, ⟨ok9, Or.inl ⟨v9, eq9, rfl, hf9⟩⟩, ⟨ho_of ht hP, by rw [ht]; exact hPo⟩⟩, hS.F ht⟩) hS.2.2 dL_tickUntilStanding_26))
set_option maxHeartbeats 4000000 in
set_option maxRecDepth 100000 in
theorem cL_undo_met (l : Launch) (hl0 : l.stackTraces = false) {D : va_G} {G : CY} {ad : Nat → Nat} {B0 : Nat} (hA : adOK B0 ad) (σ : Nat → Nat → Int32)  (cL : ClassId) (f : Nat → Int64) (hO : okS σ) (hE : ∀ E z, ((Sum.inr E, z) : RT) = f6_undo σ → ∃ n, (cd1 xIS) E n) : vx_Met l yL_undo wsL_undo { frames := 7, cells := 1, slots := 6, locals := 144 } (va_Pc [.ref (ad (270)), .ref (B0+290)] (Hw1 D G ad B0 σ cL f)) (va_Qi (fun (r : Int32) (z : ((Nat → Nat → Int32) × (Nat → Int64))) => okS z.1 ∧ ((∃ v, ((Sum.inl v, z.1) : RT) = f6_undo σ ∧ r = 0 ∧ z.2 0 = v.toInt64) ∨ (∃ E, ((Sum.inr E, z.1) : RT) = f6_undo σ ∧ (cd1 xIS) E r))) (fun z t => Ho D G ad z.1 t ∧ va_P D vwCl [(B0+290, .inl (cL, 1, .inr (.inl z.2)))] t.heap) (AW1 B0)) (vx_X (fun (_ : Unit) => False) (fun _ _ _ => True) (AW1 B0)) 1 6 (AW1 B0) := by
  refine vx_ofWH (cc := cL_undo) (maxL := 3) (ret := (some .int)) (hh := [(0, 8, 11, 17)]) (by decide) rfl ?_
  intro p e s m args below meth c s₁ B hml hv
  obtain ⟨rfl, ⟨⟨hP, hK, hN⟩, hT, hL, adK, adV, hG, hR⟩, hNc, hPo, hKo⟩ := hv
  have hx := B.exec
  have hb := B.bytes
  have hr := B.returns
  have hts := atoms_spec (ws := wsL_undo) B.pre
  have hown : s.vm.findClass RL = some m.cls := findClass_of_methodNamed B.named
  have hlocks := B.notSynchronized
  have htab : c.exceptionTable.toList = tableOf [(0, 8, 11, 17)] := vx_table (x := yL_undo) B (hts _ List.mem_cons_self)
  have hP : va_P D vwCl (pool G ad σ) s.heap := hP
  have hS : va_S (AW1 B0) s.heap s.heap [] := va_S.rf
  have hl := lv_entry ([.ref (ad (270)), .ref (B0+290)]) (n := 3) (Nat.le_of_ble_eq_true rfl)
  rw [lg_entry_eq]
  generalize (lg_sl ([.ref (ad (270)), .ref (B0+290)]) ++ List.replicate (3 - (lg_sl ([.ref (ad (270)), .ref (B0+290)])).length) Slot.unset).toArray = ls at hl ⊢
  have hl : lv_has ls 3 [(0, .ref (ad (270))), (1, .ref (B0+290))] := hl
  refine lv_aload_n hx hb dL_undo_0 rfl (lv_at hl 1 rfl) ?_
  refine lv_iconst (v := 0) hx hb dL_undo_1 (by decide) ?_
  refine lv_aload_n hx hb dL_undo_2 rfl (lv_at hl 0 rfl) ?_
  refine vx_calli (vx_runV (As := []) (rest := [.int 0, .ref (B0+290)]) ⟨hx, hb, hml, hown, hts⟩ (c6_undo l hl0 hA σ  hO) (cwV 0 hts gL_undo_X6_undo rfl rfl rfl hd_X6_undoV ⟨(Nat.le_of_ble_eq_true rfl), (Nat.le_of_ble_eq_true rfl)⟩) ⟨hx_blind, va_recv hK hP (ci := 8) (q0 := 270) rfl g_270, hx_pre hK hN hT hL hG hR va_S.rf hP⟩ rfl rfl hl.1 rfl (lv_room (Nat.le_of_ble_eq_true rfl)) dL_undo_3 ⟨(Nat.le_of_ble_eq_true rfl), (Nat.le_of_ble_eq_true rfl)⟩) hS (fun q _ h => Or.inl h) (fun q h => Or.inl h) (fun q _ h => Or.inl h) (fun E9 ce9 q9 z9 t9 H locs ht9 hvm9 hw9 hB9 hz9 hk9 hS hce9 hcv9 hcl9 => ?_) (fun v9 σ9 t H locs ht hvm hw9 hB hz1 hk1 hS => ?_)
  · obtain ⟨eqx, okx⟩ := hw9
    obtain ⟨rfl, hBx⟩ := hB9
    have hP := ho_at ht9 hBx
    have hPo := hPo.kept (fun k q hk => hk9 q.1 (vx_lt hPo hk) (wo_out1 hk))
    obtain ⟨n9, hn9⟩ := hE _ _ eqx
    obtain ⟨h1, h2⟩ := hn9
    rw [h1] at hcl9
    refine vx_catch (own := RL) (name := xIS) hown (tableOf []) ⟨0, 8, 11, 17⟩ (tableOf []) htab (fun z hz => nomatch hz) rfl (by decide) (hts (.classLink RL 17 "java/lang/IllegalStateException") (List.mem_of_getElem? (i := 1) rfl)) ((hL.2.1 xIS (by decide)).use rfl) hce9 hcv9 hcl9 ?_
    refine lv_astore_n (lv' := [(2, .ref q9), (0, .ref (ad (270))), (1, .ref (B0+290))]) hx hb dL_undo_11 rfl hl (by decide) rfl (fun ls hl => ?_)
    refine lv_iconst (v := 1) hx hb dL_undo_12 (by decide) ?_
    exact vx_ret (W.widen (Nat.le_of_ble_eq_true rfl) (Nat.le_of_ble_eq_true rfl) (W.iret (v := 1) hx hb hr (fun t ht hW => ⟨⟨1, (z9.2, f), rfl, ⟨okx, Or.inr ⟨z9.1, eqx, ⟨h1, rfl⟩⟩⟩, ⟨ho_of ht hP, by rw [ht]; exact hPo⟩⟩, hS.F ht⟩) hS.2.2 dL_undo_13))
  · obtain ⟨eq9, ok9⟩ := hw9
    have hP := ho_at ht hB
    have hPo := hPo.kept (fun k q hk => hk1 q.1 (vx_lt hPo hk) (wo_out1 hk))
    refine lv_i2l (v := v9.toInt64) hx hb dL_undo_6 rfl ?_
    refine va_last (tys := [(cL, .long)]) hx hb hKo (va_P.app hP hPo) (wp_D1 hA) hS 290 0 (wp_at (ad := ad) (G := G)) rfl (vp_in_iff.mpr (by decide)) dL_undo_7 (fun H locs hP _ hS => ?_)
    obtain ⟨hP, hPo⟩ := wp_set hP
    refine lv_goto (tgt := 14) hx hb dL_undo_8 (by decide) ?_
    obtain ⟨f9, ef9⟩ : ∃ z, z = vp_updL f (0 : Int32).toNatClampNeg v9.toInt64 := ⟨_, rfl⟩
    rw [← ef9] at hPo
    have hf9 : f9 0 = v9.toInt64 := by rw [ef9]; rfl
    refine lv_iconst (v := 0) hx hb dL_undo_14 (by decide) ?_
    exact vx_ret (W.widen (Nat.le_of_ble_eq_true rfl) (Nat.le_of_ble_eq_true rfl) (W.iret (v := 0) hx hb hr (fun t ht hW => ⟨⟨0, (σ9, f9), rfl, ⟨ok9, Or.inl ⟨v9, eq9, rfl, hf9⟩⟩, ⟨ho_of ht hP, by rw [ht]; exact hPo⟩⟩, hS.F ht⟩) hS.2.2 dL_undo_15))
set_option maxHeartbeats 4000000 in
set_option maxRecDepth 100000 in
theorem cL_support_met (l : Launch) (hl0 : l.stackTraces = false) {D : va_G} {G : CY} {ad : Nat → Nat} {B0 : Nat} (hA : adOK B0 ad) (σ : Nat → Nat → Int32) (a : Int32) (cL : ClassId) (f : Nat → Int64) (hO : okS σ) (hE : ∀ E z, ((Sum.inr E, z) : RT) = f6_support σ a → ∃ n, (cd1 xOB) E n) : vx_Met l yL_support wsL_support { frames := 8, cells := 2, slots := 12, locals := 139 } (va_Pc [.ref (ad (270)), .int a, .ref (B0+290)] (Hw1 D G ad B0 σ cL f)) (va_Qi (fun (r : Int32) (z : ((Nat → Nat → Int32) × (Nat → Int64))) => okS z.1 ∧ ((∃ v, ((Sum.inl v, z.1) : RT) = f6_support σ a ∧ r = 0 ∧ z.2 0 = v.toInt64) ∨ (∃ E, ((Sum.inr E, z.1) : RT) = f6_support σ a ∧ (cd1 xOB) E r))) (fun z t => Ho D G ad z.1 t ∧ va_P D vwCl [(B0+290, .inl (cL, 1, .inr (.inl z.2)))] t.heap) (AW1 B0)) (vx_X (fun (_ : Unit) => False) (fun _ _ _ => True) (AW1 B0)) 2 12 (AW1 B0) := by
  refine vx_ofWH (cc := cL_support) (maxL := 4) (ret := (some .int)) (hh := [(0, 9, 12, 13)]) (by decide) rfl ?_
  intro p e s m args below meth c s₁ B hml hv
  obtain ⟨rfl, ⟨⟨hP, hK, hN⟩, hT, hL, adK, adV, hG, hR⟩, hNc, hPo, hKo⟩ := hv
  have hx := B.exec
  have hb := B.bytes
  have hr := B.returns
  have hts := atoms_spec (ws := wsL_support) B.pre
  have hown : s.vm.findClass RL = some m.cls := findClass_of_methodNamed B.named
  have hlocks := B.notSynchronized
  have htab : c.exceptionTable.toList = tableOf [(0, 9, 12, 13)] := vx_table (x := yL_support) B (hts _ List.mem_cons_self)
  have hP : va_P D vwCl (pool G ad σ) s.heap := hP
  have hS : va_S (AW1 B0) s.heap s.heap [] := va_S.rf
  have hl := lv_entry ([.ref (ad (270)), .int a, .ref (B0+290)]) (n := 4) (Nat.le_of_ble_eq_true rfl)
  rw [lg_entry_eq]
  generalize (lg_sl ([.ref (ad (270)), .int a, .ref (B0+290)]) ++ List.replicate (4 - (lg_sl ([.ref (ad (270)), .int a, .ref (B0+290)])).length) Slot.unset).toArray = ls at hl ⊢
  have hl : lv_has ls 4 [(0, .ref (ad (270))), (1, .int a), (2, .ref (B0+290))] := hl
  refine lv_aload_n hx hb dL_support_0 rfl (lv_at hl 2 rfl) ?_
  refine lv_iconst (v := 0) hx hb dL_support_1 (by decide) ?_
  refine lv_aload_n hx hb dL_support_2 rfl (lv_at hl 0 rfl) ?_
  refine lv_iload_n hx hb dL_support_3 rfl (lv_at hl 1 rfl) ?_
  refine vx_calli (vx_runV (As := [.int a]) (rest := [.int 0, .ref (B0+290)]) ⟨hx, hb, hml, hown, hts⟩ (c6_support l hl0 hA σ a hO) (cwV 1 hts gL_support_X6_support rfl rfl rfl hd_X6_supportV ⟨(Nat.le_of_ble_eq_true rfl), (Nat.le_of_ble_eq_true rfl)⟩) ⟨hx_blind, va_recv hK hP (ci := 8) (q0 := 270) rfl g_270, hx_pre hK hN hT hL hG hR va_S.rf hP⟩ rfl rfl hl.1 rfl (lv_room (Nat.le_of_ble_eq_true rfl)) dL_support_4 ⟨(Nat.le_of_ble_eq_true rfl), (Nat.le_of_ble_eq_true rfl)⟩) hS (fun q _ h => Or.inl h) (fun q h => Or.inl h) (fun q _ h => Or.inl h) (fun E9 ce9 q9 z9 t9 H locs ht9 hvm9 hw9 hB9 hz9 hk9 hS hce9 hcv9 hcl9 => ?_) (fun v9 σ9 t H locs ht hvm hw9 hB hz1 hk1 hS => ?_)
  · obtain ⟨eqx, okx⟩ := hw9
    obtain ⟨rfl, hBx⟩ := hB9
    have hP := ho_at ht9 hBx
    have hPo := hPo.kept (fun k q hk => hk9 q.1 (vx_lt hPo hk) (wo_out1 hk))
    obtain ⟨n9, hn9⟩ := hE _ _ eqx
    obtain ⟨h1, h2⟩ := hn9
    rw [h1] at hcl9
    refine vx_catch (own := RL) (name := xOB) hown (tableOf []) ⟨0, 9, 12, 13⟩ (tableOf []) htab (fun z hz => nomatch hz) rfl (by decide) (hts (.classLink RL 13 "java/lang/IndexOutOfBoundsException") (List.mem_of_getElem? (i := 1) rfl)) ((hL.2.1 xOB (by decide)).use rfl) hce9 hcv9 hcl9 ?_
    refine lv_astore_n (lv' := [(3, .ref q9), (0, .ref (ad (270))), (1, .int a), (2, .ref (B0+290))]) hx hb dL_support_12 rfl hl (by decide) rfl (fun ls hl => ?_)
    refine lv_iconst (v := 1) hx hb dL_support_13 (by decide) ?_
    exact vx_ret (W.widen (Nat.le_of_ble_eq_true rfl) (Nat.le_of_ble_eq_true rfl) (W.iret (v := 1) hx hb hr (fun t ht hW => ⟨⟨1, (z9.2, f), rfl, ⟨okx, Or.inr ⟨z9.1, eqx, ⟨h1, rfl⟩⟩⟩, ⟨ho_of ht hP, by rw [ht]; exact hPo⟩⟩, hS.F ht⟩) hS.2.2 dL_support_14))
  · obtain ⟨eq9, ok9⟩ := hw9
    have hP := ho_at ht hB
    have hPo := hPo.kept (fun k q hk => hk1 q.1 (vx_lt hPo hk) (wo_out1 hk))
    refine lv_i2l (v := v9.toInt64) hx hb dL_support_7 rfl ?_
    refine va_last (tys := [(cL, .long)]) hx hb hKo (va_P.app hP hPo) (wp_D1 hA) hS 290 0 (wp_at (ad := ad) (G := G)) rfl (vp_in_iff.mpr (by decide)) dL_support_8 (fun H locs hP _ hS => ?_)
    obtain ⟨hP, hPo⟩ := wp_set hP
    refine lv_goto (tgt := 15) hx hb dL_support_9 (by decide) ?_
    obtain ⟨f9, ef9⟩ : ∃ z, z = vp_updL f (0 : Int32).toNatClampNeg v9.toInt64 := ⟨_, rfl⟩
    rw [← ef9] at hPo
    have hf9 : f9 0 = v9.toInt64 := by rw [ef9]; rfl
    refine lv_iconst (v := 0) hx hb dL_support_15 (by decide) ?_
    exact vx_ret (W.widen (Nat.le_of_ble_eq_true rfl) (Nat.le_of_ble_eq_true rfl) (W.iret (v := 0) hx hb hr (fun t ht hW => ⟨⟨0, (σ9, f9), rfl, ⟨ok9, Or.inl ⟨v9, eq9, rfl, hf9⟩⟩, ⟨ho_of ht hP, by rw [ht]; exact hPo⟩⟩, hS.F ht⟩) hS.2.2 dL_support_16))
set_option maxHeartbeats 4000000 in
set_option maxRecDepth 100000 in
theorem cL_stands_met (l : Launch) (hl0 : l.stackTraces = false) {D : va_G} {G : CY} {ad : Nat → Nat} {B0 : Nat} (hA : adOK B0 ad) (σ : Nat → Nat → Int32) (a : Int32) (cL : ClassId) (f : Nat → Int64) (hO : okS σ) (hE : ∀ E z, ((Sum.inr E, z) : RT) = f6_stands σ a → ∃ n, (cd1 xOB) E n) : vx_Met l yL_stands wsL_stands { frames := 8, cells := 2, slots := 12, locals := 138 } (va_Pc [.ref (ad (270)), .int a, .ref (B0+290)] (Hw1 D G ad B0 σ cL f)) (va_Qi (fun (r : Int32) (z : ((Nat → Nat → Int32) × (Nat → Int64))) => okS z.1 ∧ ((∃ v, ((Sum.inl v, z.1) : RT) = f6_stands σ a ∧ r = 0 ∧ z.2 0 = (if v = 0 then 0 else 1)) ∨ (∃ E, ((Sum.inr E, z.1) : RT) = f6_stands σ a ∧ (cd1 xOB) E r))) (fun z t => Ho D G ad z.1 t ∧ va_P D vwCl [(B0+290, .inl (cL, 1, .inr (.inl z.2)))] t.heap) (AW1 B0)) (vx_X (fun (_ : Unit) => False) (fun _ _ _ => True) (AW1 B0)) 2 12 (AW1 B0) := by
  refine vx_ofWH (cc := cL_stands) (maxL := 4) (ret := (some .int)) (hh := [(0, 16, 19, 13)]) (by decide) rfl ?_
  intro p e s m args below meth c s₁ B hml hv
  obtain ⟨rfl, ⟨⟨hP, hK, hN⟩, hT, hL, adK, adV, hG, hR⟩, hNc, hPo, hKo⟩ := hv
  have hx := B.exec
  have hb := B.bytes
  have hr := B.returns
  have hts := atoms_spec (ws := wsL_stands) B.pre
  have hown : s.vm.findClass RL = some m.cls := findClass_of_methodNamed B.named
  have hlocks := B.notSynchronized
  have htab : c.exceptionTable.toList = tableOf [(0, 16, 19, 13)] := vx_table (x := yL_stands) B (hts _ List.mem_cons_self)
  have hP : va_P D vwCl (pool G ad σ) s.heap := hP
  have hS : va_S (AW1 B0) s.heap s.heap [] := va_S.rf
  have hl := lv_entry ([.ref (ad (270)), .int a, .ref (B0+290)]) (n := 4) (Nat.le_of_ble_eq_true rfl)
  rw [lg_entry_eq]
  generalize (lg_sl ([.ref (ad (270)), .int a, .ref (B0+290)]) ++ List.replicate (4 - (lg_sl ([.ref (ad (270)), .int a, .ref (B0+290)])).length) Slot.unset).toArray = ls at hl ⊢
  have hl : lv_has ls 4 [(0, .ref (ad (270))), (1, .int a), (2, .ref (B0+290))] := hl
  refine lv_aload_n hx hb dL_stands_0 rfl (lv_at hl 2 rfl) ?_
  refine lv_iconst (v := 0) hx hb dL_stands_1 (by decide) ?_
  refine lv_aload_n hx hb dL_stands_2 rfl (lv_at hl 0 rfl) ?_
  refine lv_iload_n hx hb dL_stands_3 rfl (lv_at hl 1 rfl) ?_
  refine vx_calli (vx_runV (As := [.int a]) (rest := [.int 0, .ref (B0+290)]) ⟨hx, hb, hml, hown, hts⟩ (c6_stands l hl0 hA σ a hO) (cwV 1 hts gL_stands_X6_stands rfl rfl rfl hd_X6_standsV ⟨(Nat.le_of_ble_eq_true rfl), (Nat.le_of_ble_eq_true rfl)⟩) ⟨hx_blind, va_recv hK hP (ci := 8) (q0 := 270) rfl g_270, hx_pre hK hN hT hL hG hR va_S.rf hP⟩ rfl rfl hl.1 rfl (lv_room (Nat.le_of_ble_eq_true rfl)) dL_stands_4 ⟨(Nat.le_of_ble_eq_true rfl), (Nat.le_of_ble_eq_true rfl)⟩) hS (fun q _ h => Or.inl h) (fun q h => Or.inl h) (fun q _ h => Or.inl h) (fun E9 ce9 q9 z9 t9 H locs ht9 hvm9 hw9 hB9 hz9 hk9 hS hce9 hcv9 hcl9 => ?_) (fun v9 σ9 t H locs ht hvm hw9 hB hz1 hk1 hS => ?_)
  · obtain ⟨eqx, okx⟩ := hw9
    obtain ⟨rfl, hBx⟩ := hB9
    have hP := ho_at ht9 hBx
    have hPo := hPo.kept (fun k q hk => hk9 q.1 (vx_lt hPo hk) (wo_out1 hk))
    obtain ⟨n9, hn9⟩ := hE _ _ eqx
    obtain ⟨h1, h2⟩ := hn9
    rw [h1] at hcl9
    refine vx_catch (own := RL) (name := xOB) hown (tableOf []) ⟨0, 16, 19, 13⟩ (tableOf []) htab (fun z hz => nomatch hz) rfl (by decide) (hts (.classLink RL 13 "java/lang/IndexOutOfBoundsException") (List.mem_of_getElem? (i := 1) rfl)) ((hL.2.1 xOB (by decide)).use rfl) hce9 hcv9 hcl9 ?_
    refine lv_astore_n (lv' := [(3, .ref q9), (0, .ref (ad (270))), (1, .int a), (2, .ref (B0+290))]) hx hb dL_stands_19 rfl hl (by decide) rfl (fun ls hl => ?_)
    refine lv_iconst (v := 1) hx hb dL_stands_20 (by decide) ?_
    exact vx_ret (W.widen (Nat.le_of_ble_eq_true rfl) (Nat.le_of_ble_eq_true rfl) (W.iret (v := 1) hx hb hr (fun t ht hW => ⟨⟨1, (z9.2, f), rfl, ⟨okx, Or.inr ⟨z9.1, eqx, ⟨h1, rfl⟩⟩⟩, ⟨ho_of ht hP, by rw [ht]; exact hPo⟩⟩, hS.F ht⟩) hS.2.2 dL_stands_21))
  · obtain ⟨eq9, ok9, bl9⟩ := hw9
    have hP := ho_at ht hB
    have hPo := hPo.kept (fun k q hk => hk1 q.1 (vx_lt hPo hk) (wo_out1 hk))
    refine lv_if_eq (tgt := 14) hx hb dL_stands_7 (by decide) (fun c9 => ?_) (fun c9 => ?_)
    · have hc9 := c9
      refine lv_lconst (v := 0) hx hb dL_stands_14 (by decide) ?_
      refine va_last (tys := [(cL, .long)]) hx hb hKo (va_P.app hP hPo) (wp_D1 hA) hS 290 0 (wp_at (ad := ad) (G := G)) rfl (vp_in_iff.mpr (by decide)) dL_stands_15 (fun H locs hP _ hS => ?_)
      obtain ⟨hP, hPo⟩ := wp_set hP
      refine lv_goto (tgt := 22) hx hb dL_stands_16 (by decide) ?_
      obtain ⟨f9, ef9⟩ : ∃ z, z = vp_updL f (0 : Int32).toNatClampNeg 0 := ⟨_, rfl⟩
      rw [← ef9] at hPo
      have hf9 : f9 0 = (if v9 = 0 then 0 else 1) := by rw [ef9]; rw [if_pos hc9]; rfl
      refine lv_iconst (v := 0) hx hb dL_stands_22 (by decide) ?_
      exact vx_ret (W.widen (Nat.le_of_ble_eq_true rfl) (Nat.le_of_ble_eq_true rfl) (W.iret (v := 0) hx hb hr (fun t ht hW => ⟨⟨0, (σ9, f9), rfl, ⟨ok9, Or.inl ⟨v9, eq9, rfl, hf9⟩⟩, ⟨ho_of ht hP, by rw [ht]; exact hPo⟩⟩, hS.F ht⟩) hS.2.2 dL_stands_23))
    · have hc9 := c9
      refine lv_lconst (v := 1) hx hb dL_stands_10 (by decide) ?_
      refine lv_goto (tgt := 15) hx hb dL_stands_11 (by decide) ?_
      refine va_last (tys := [(cL, .long)]) hx hb hKo (va_P.app hP hPo) (wp_D1 hA) hS 290 0 (wp_at (ad := ad) (G := G)) rfl (vp_in_iff.mpr (by decide)) dL_stands_15 (fun H locs hP _ hS => ?_)
      obtain ⟨hP, hPo⟩ := wp_set hP
      refine lv_goto (tgt := 22) hx hb dL_stands_16 (by decide) ?_
      obtain ⟨f9, ef9⟩ : ∃ z, z = vp_updL f (0 : Int32).toNatClampNeg 1 := ⟨_, rfl⟩
      rw [← ef9] at hPo
      have hf9 : f9 0 = (if v9 = 0 then 0 else 1) := by rw [ef9]; rw [if_neg hc9]; rfl
      refine lv_iconst (v := 0) hx hb dL_stands_22 (by decide) ?_
      exact vx_ret (W.widen (Nat.le_of_ble_eq_true rfl) (Nat.le_of_ble_eq_true rfl) (W.iret (v := 0) hx hb hr (fun t ht hW => ⟨⟨0, (σ9, f9), rfl, ⟨ok9, Or.inl ⟨v9, eq9, rfl, hf9⟩⟩, ⟨ho_of ht hP, by rw [ht]; exact hPo⟩⟩, hS.F ht⟩) hS.2.2 dL_stands_23))
set_option maxHeartbeats 4000000 in
set_option maxRecDepth 100000 in
theorem cL_below_met (l : Launch) (hl0 : l.stackTraces = false) {D : va_G} {G : CY} {ad : Nat → Nat} {B0 : Nat} (hA : adOK B0 ad) (σ : Nat → Nat → Int32) (a : Int32) (cL : ClassId) (f : Nat → Int64) (hO : okS σ) (hE : ∀ E z, ((Sum.inr E, z) : RT) = f6_below σ a → ∃ n, (cd1 xOB) E n) : vx_Met l yL_below wsL_below { frames := 8, cells := 2, slots := 12, locals := 139 } (va_Pc [.ref (ad (270)), .int a, .ref (B0+290)] (Hw1 D G ad B0 σ cL f)) (va_Qi (fun (r : Int32) (z : ((Nat → Nat → Int32) × (Nat → Int64))) => okS z.1 ∧ ((∃ v, ((Sum.inl v, z.1) : RT) = f6_below σ a ∧ r = 0 ∧ z.2 0 = v.toInt64) ∨ (∃ E, ((Sum.inr E, z.1) : RT) = f6_below σ a ∧ (cd1 xOB) E r))) (fun z t => Ho D G ad z.1 t ∧ va_P D vwCl [(B0+290, .inl (cL, 1, .inr (.inl z.2)))] t.heap) (AW1 B0)) (vx_X (fun (_ : Unit) => False) (fun _ _ _ => True) (AW1 B0)) 2 12 (AW1 B0) := by
  refine vx_ofWH (cc := cL_below) (maxL := 4) (ret := (some .int)) (hh := [(0, 9, 12, 13)]) (by decide) rfl ?_
  intro p e s m args below meth c s₁ B hml hv
  obtain ⟨rfl, ⟨⟨hP, hK, hN⟩, hT, hL, adK, adV, hG, hR⟩, hNc, hPo, hKo⟩ := hv
  have hx := B.exec
  have hb := B.bytes
  have hr := B.returns
  have hts := atoms_spec (ws := wsL_below) B.pre
  have hown : s.vm.findClass RL = some m.cls := findClass_of_methodNamed B.named
  have hlocks := B.notSynchronized
  have htab : c.exceptionTable.toList = tableOf [(0, 9, 12, 13)] := vx_table (x := yL_below) B (hts _ List.mem_cons_self)
  have hP : va_P D vwCl (pool G ad σ) s.heap := hP
  have hS : va_S (AW1 B0) s.heap s.heap [] := va_S.rf
  have hl := lv_entry ([.ref (ad (270)), .int a, .ref (B0+290)]) (n := 4) (Nat.le_of_ble_eq_true rfl)
  rw [lg_entry_eq]
  generalize (lg_sl ([.ref (ad (270)), .int a, .ref (B0+290)]) ++ List.replicate (4 - (lg_sl ([.ref (ad (270)), .int a, .ref (B0+290)])).length) Slot.unset).toArray = ls at hl ⊢
  have hl : lv_has ls 4 [(0, .ref (ad (270))), (1, .int a), (2, .ref (B0+290))] := hl
  refine lv_aload_n hx hb dL_below_0 rfl (lv_at hl 2 rfl) ?_
  refine lv_iconst (v := 0) hx hb dL_below_1 (by decide) ?_
  refine lv_aload_n hx hb dL_below_2 rfl (lv_at hl 0 rfl) ?_
  refine lv_iload_n hx hb dL_below_3 rfl (lv_at hl 1 rfl) ?_
  refine vx_calli (vx_runV (As := [.int a]) (rest := [.int 0, .ref (B0+290)]) ⟨hx, hb, hml, hown, hts⟩ (c6_below l hl0 hA σ a hO) (cwV 1 hts gL_below_X6_below rfl rfl rfl hd_X6_belowV ⟨(Nat.le_of_ble_eq_true rfl), (Nat.le_of_ble_eq_true rfl)⟩) ⟨hx_blind, va_recv hK hP (ci := 8) (q0 := 270) rfl g_270, hx_pre hK hN hT hL hG hR va_S.rf hP⟩ rfl rfl hl.1 rfl (lv_room (Nat.le_of_ble_eq_true rfl)) dL_below_4 ⟨(Nat.le_of_ble_eq_true rfl), (Nat.le_of_ble_eq_true rfl)⟩) hS (fun q _ h => Or.inl h) (fun q h => Or.inl h) (fun q _ h => Or.inl h) (fun E9 ce9 q9 z9 t9 H locs ht9 hvm9 hw9 hB9 hz9 hk9 hS hce9 hcv9 hcl9 => ?_) (fun v9 σ9 t H locs ht hvm hw9 hB hz1 hk1 hS => ?_)
  · obtain ⟨eqx, okx⟩ := hw9
    obtain ⟨rfl, hBx⟩ := hB9
    have hP := ho_at ht9 hBx
    have hPo := hPo.kept (fun k q hk => hk9 q.1 (vx_lt hPo hk) (wo_out1 hk))
    obtain ⟨n9, hn9⟩ := hE _ _ eqx
    obtain ⟨h1, h2⟩ := hn9
    rw [h1] at hcl9
    refine vx_catch (own := RL) (name := xOB) hown (tableOf []) ⟨0, 9, 12, 13⟩ (tableOf []) htab (fun z hz => nomatch hz) rfl (by decide) (hts (.classLink RL 13 "java/lang/IndexOutOfBoundsException") (List.mem_of_getElem? (i := 1) rfl)) ((hL.2.1 xOB (by decide)).use rfl) hce9 hcv9 hcl9 ?_
    refine lv_astore_n (lv' := [(3, .ref q9), (0, .ref (ad (270))), (1, .int a), (2, .ref (B0+290))]) hx hb dL_below_12 rfl hl (by decide) rfl (fun ls hl => ?_)
    refine lv_iconst (v := 1) hx hb dL_below_13 (by decide) ?_
    exact vx_ret (W.widen (Nat.le_of_ble_eq_true rfl) (Nat.le_of_ble_eq_true rfl) (W.iret (v := 1) hx hb hr (fun t ht hW => ⟨⟨1, (z9.2, f), rfl, ⟨okx, Or.inr ⟨z9.1, eqx, ⟨h1, rfl⟩⟩⟩, ⟨ho_of ht hP, by rw [ht]; exact hPo⟩⟩, hS.F ht⟩) hS.2.2 dL_below_14))
  · obtain ⟨eq9, ok9⟩ := hw9
    have hP := ho_at ht hB
    have hPo := hPo.kept (fun k q hk => hk1 q.1 (vx_lt hPo hk) (wo_out1 hk))
    refine lv_i2l (v := v9.toInt64) hx hb dL_below_7 rfl ?_
    refine va_last (tys := [(cL, .long)]) hx hb hKo (va_P.app hP hPo) (wp_D1 hA) hS 290 0 (wp_at (ad := ad) (G := G)) rfl (vp_in_iff.mpr (by decide)) dL_below_8 (fun H locs hP _ hS => ?_)
    obtain ⟨hP, hPo⟩ := wp_set hP
    refine lv_goto (tgt := 15) hx hb dL_below_9 (by decide) ?_
    obtain ⟨f9, ef9⟩ : ∃ z, z = vp_updL f (0 : Int32).toNatClampNeg v9.toInt64 := ⟨_, rfl⟩
    rw [← ef9] at hPo
    have hf9 : f9 0 = v9.toInt64 := by rw [ef9]; rfl
    refine lv_iconst (v := 0) hx hb dL_below_15 (by decide) ?_
    exact vx_ret (W.widen (Nat.le_of_ble_eq_true rfl) (Nat.le_of_ble_eq_true rfl) (W.iret (v := 0) hx hb hr (fun t ht hW => ⟨⟨0, (σ9, f9), rfl, ⟨ok9, Or.inl ⟨v9, eq9, rfl, hf9⟩⟩, ⟨ho_of ht hP, by rw [ht]; exact hPo⟩⟩, hS.F ht⟩) hS.2.2 dL_below_16))
set_option maxHeartbeats 4000000 in
set_option maxRecDepth 100000 in
theorem cL_isBlocked_met (l : Launch) (hl0 : l.stackTraces = false) {D : va_G} {G : CY} {ad : Nat → Nat} {B0 : Nat} (hA : adOK B0 ad) (σ : Nat → Nat → Int32) (a : Int32) (b : Int32) (c1 : Int32) (cL : ClassId) (f : Nat → Int64) (hO : okS σ) (hE : ∀ E z, ((Sum.inr E, z) : RT) = f6_isBlocked σ a b c1 → ∃ n, (cd2 xOB xIA) E n) : vx_Met l yL_isBlocked wsL_isBlocked { frames := 8, cells := 3, slots := 18, locals := 141 } (va_Pc [.ref (ad (270)), .int a, .int b, .int c1, .ref (B0+290)] (Hw1 D G ad B0 σ cL f)) (va_Qi (fun (r : Int32) (z : ((Nat → Nat → Int32) × (Nat → Int64))) => okS z.1 ∧ ((∃ v, ((Sum.inl v, z.1) : RT) = f6_isBlocked σ a b c1 ∧ r = 0 ∧ z.2 0 = (if v = 0 then 0 else 1)) ∨ (∃ E, ((Sum.inr E, z.1) : RT) = f6_isBlocked σ a b c1 ∧ (cd2 xOB xIA) E r))) (fun z t => Ho D G ad z.1 t ∧ va_P D vwCl [(B0+290, .inl (cL, 1, .inr (.inl z.2)))] t.heap) (AW1 B0)) (vx_X (fun (_ : Unit) => False) (fun _ _ _ => True) (AW1 B0)) 3 18 (AW1 B0) := by
  refine vx_ofWH (cc := cL_isBlocked) (maxL := 6) (ret := (some .int)) (hh := [(0, 19, 22, 13), (0, 19, 26, 15)]) (by decide) rfl ?_
  intro p e s m args below meth c s₁ B hml hv
  obtain ⟨rfl, ⟨⟨hP, hK, hN⟩, hT, hL, adK, adV, hG, hR⟩, hNc, hPo, hKo⟩ := hv
  have hx := B.exec
  have hb := B.bytes
  have hr := B.returns
  have hts := atoms_spec (ws := wsL_isBlocked) B.pre
  have hown : s.vm.findClass RL = some m.cls := findClass_of_methodNamed B.named
  have hlocks := B.notSynchronized
  have htab : c.exceptionTable.toList = tableOf [(0, 19, 22, 13), (0, 19, 26, 15)] := vx_table (x := yL_isBlocked) B (hts _ List.mem_cons_self)
  have hP : va_P D vwCl (pool G ad σ) s.heap := hP
  have hS : va_S (AW1 B0) s.heap s.heap [] := va_S.rf
  have hl := lv_entry ([.ref (ad (270)), .int a, .int b, .int c1, .ref (B0+290)]) (n := 6) (Nat.le_of_ble_eq_true rfl)
  rw [lg_entry_eq]
  generalize (lg_sl ([.ref (ad (270)), .int a, .int b, .int c1, .ref (B0+290)]) ++ List.replicate (6 - (lg_sl ([.ref (ad (270)), .int a, .int b, .int c1, .ref (B0+290)])).length) Slot.unset).toArray = ls at hl ⊢
  have hl : lv_has ls 6 [(0, .ref (ad (270))), (1, .int a), (2, .int b), (3, .int c1), (4, .ref (B0+290))] := hl
  refine lv_aload hx hb dL_isBlocked_0 (lv_at hl 4 rfl) ?_
  refine lv_iconst (v := 0) hx hb dL_isBlocked_2 (by decide) ?_
  refine lv_aload_n hx hb dL_isBlocked_3 rfl (lv_at hl 0 rfl) ?_
  refine lv_iload_n hx hb dL_isBlocked_4 rfl (lv_at hl 1 rfl) ?_
  refine lv_iload_n hx hb dL_isBlocked_5 rfl (lv_at hl 2 rfl) ?_
  refine lv_iload_n hx hb dL_isBlocked_6 rfl (lv_at hl 3 rfl) ?_
  refine vx_calli (vx_runV (As := [.int a, .int b, .int c1]) (rest := [.int 0, .ref (B0+290)]) ⟨hx, hb, hml, hown, hts⟩ (c6_isBlocked l hl0 hA σ a b c1 hO) (cwV 3 hts gL_isBlocked_X6_isBlocked rfl rfl rfl hd_X6_isBlockedV ⟨(Nat.le_of_ble_eq_true rfl), (Nat.le_of_ble_eq_true rfl)⟩) ⟨hx_blind, va_recv hK hP (ci := 8) (q0 := 270) rfl g_270, hx_pre hK hN hT hL hG hR va_S.rf hP⟩ rfl rfl hl.1 rfl (lv_room (Nat.le_of_ble_eq_true rfl)) dL_isBlocked_7 ⟨(Nat.le_of_ble_eq_true rfl), (Nat.le_of_ble_eq_true rfl)⟩) hS (fun q _ h => Or.inl h) (fun q h => Or.inl h) (fun q _ h => Or.inl h) (fun E9 ce9 q9 z9 t9 H locs ht9 hvm9 hw9 hB9 hz9 hk9 hS hce9 hcv9 hcl9 => ?_) (fun v9 σ9 t H locs ht hvm hw9 hB hz1 hk1 hS => ?_)
  · obtain ⟨eqx, okx⟩ := hw9
    obtain ⟨rfl, hBx⟩ := hB9
    have hP := ho_at ht9 hBx
    have hPo := hPo.kept (fun k q hk => hk9 q.1 (vx_lt hPo hk) (wo_out1 hk))
    obtain ⟨n9, hn9⟩ := hE _ _ eqx
    rcases hn9 with ⟨h1, h2⟩ | ⟨h1, h2⟩
    · rw [h1] at hcl9
      refine vx_catch (own := RL) (name := xOB) hown (tableOf []) ⟨0, 19, 22, 13⟩ (tableOf [(0, 19, 26, 15)]) htab (fun z hz => nomatch hz) rfl (by decide) (hts (.classLink RL 13 "java/lang/IndexOutOfBoundsException") (List.mem_of_getElem? (i := 1) rfl)) ((hL.2.1 xOB (by decide)).use rfl) hce9 hcv9 hcl9 ?_
      refine lv_astore (lv' := [(5, .ref q9), (0, .ref (ad (270))), (1, .int a), (2, .int b), (3, .int c1), (4, .ref (B0+290))]) hx hb dL_isBlocked_22 hl (by decide) rfl (fun ls hl => ?_)
      refine lv_iconst (v := 1) hx hb dL_isBlocked_24 (by decide) ?_
      exact vx_ret (W.widen (Nat.le_of_ble_eq_true rfl) (Nat.le_of_ble_eq_true rfl) (W.iret (v := 1) hx hb hr (fun t ht hW => ⟨⟨1, (z9.2, f), rfl, ⟨okx, Or.inr ⟨z9.1, eqx, Or.inl ⟨h1, rfl⟩⟩⟩, ⟨ho_of ht hP, by rw [ht]; exact hPo⟩⟩, hS.F ht⟩) hS.2.2 dL_isBlocked_25))
    · rw [h1] at hcl9
      refine vx_catch (own := RL) (name := xIA) hown (tableOf [(0, 19, 22, 13)]) ⟨0, 19, 26, 15⟩ (tableOf []) htab (fun z hz => by cases List.mem_singleton.mp hz; exact Or.inr ⟨by decide, xOB, (hts (.classLink RL 13 "java/lang/IndexOutOfBoundsException") (List.mem_of_getElem? (i := 1) rfl)), hNc.1⟩) rfl (by decide) (hts (.classLink RL 15 "java/lang/IllegalArgumentException") (List.mem_of_getElem? (i := 2) rfl)) ((hL.2.1 xIA (by decide)).use rfl) hce9 hcv9 hcl9 ?_
      refine lv_astore (lv' := [(5, .ref q9), (0, .ref (ad (270))), (1, .int a), (2, .int b), (3, .int c1), (4, .ref (B0+290))]) hx hb dL_isBlocked_26 hl (by decide) rfl (fun ls hl => ?_)
      refine lv_iconst (v := 2) hx hb dL_isBlocked_28 (by decide) ?_
      exact vx_ret (W.widen (Nat.le_of_ble_eq_true rfl) (Nat.le_of_ble_eq_true rfl) (W.iret (v := 2) hx hb hr (fun t ht hW => ⟨⟨2, (z9.2, f), rfl, ⟨okx, Or.inr ⟨z9.1, eqx, Or.inr (⟨h1, rfl⟩)⟩⟩, ⟨ho_of ht hP, by rw [ht]; exact hPo⟩⟩, hS.F ht⟩) hS.2.2 dL_isBlocked_29))
  · obtain ⟨eq9, ok9, bl9⟩ := hw9
    have hP := ho_at ht hB
    have hPo := hPo.kept (fun k q hk => hk1 q.1 (vx_lt hPo hk) (wo_out1 hk))
    refine lv_if_eq (tgt := 17) hx hb dL_isBlocked_10 (by decide) (fun c9 => ?_) (fun c9 => ?_)
    · have hc9 := c9
      refine lv_lconst (v := 0) hx hb dL_isBlocked_17 (by decide) ?_
      refine va_last (tys := [(cL, .long)]) hx hb hKo (va_P.app hP hPo) (wp_D1 hA) hS 290 0 (wp_at (ad := ad) (G := G)) rfl (vp_in_iff.mpr (by decide)) dL_isBlocked_18 (fun H locs hP _ hS => ?_)
      obtain ⟨hP, hPo⟩ := wp_set hP
      refine lv_goto (tgt := 30) hx hb dL_isBlocked_19 (by decide) ?_
      obtain ⟨f9, ef9⟩ : ∃ z, z = vp_updL f (0 : Int32).toNatClampNeg 0 := ⟨_, rfl⟩
      rw [← ef9] at hPo
      have hf9 : f9 0 = (if v9 = 0 then 0 else 1) := by rw [ef9]; rw [if_pos hc9]; rfl
      refine lv_iconst (v := 0) hx hb dL_isBlocked_30 (by decide) ?_
      exact vx_ret (W.widen (Nat.le_of_ble_eq_true rfl) (Nat.le_of_ble_eq_true rfl) (W.iret (v := 0) hx hb hr (fun t ht hW => ⟨⟨0, (σ9, f9), rfl, ⟨ok9, Or.inl ⟨v9, eq9, rfl, hf9⟩⟩, ⟨ho_of ht hP, by rw [ht]; exact hPo⟩⟩, hS.F ht⟩) hS.2.2 dL_isBlocked_31))
    · have hc9 := c9
      refine lv_lconst (v := 1) hx hb dL_isBlocked_13 (by decide) ?_
      refine lv_goto (tgt := 18) hx hb dL_isBlocked_14 (by decide) ?_
      refine va_last (tys := [(cL, .long)]) hx hb hKo (va_P.app hP hPo) (wp_D1 hA) hS 290 0 (wp_at (ad := ad) (G := G)) rfl (vp_in_iff.mpr (by decide)) dL_isBlocked_18 (fun H locs hP _ hS => ?_)
      obtain ⟨hP, hPo⟩ := wp_set hP
      refine lv_goto (tgt := 30) hx hb dL_isBlocked_19 (by decide) ?_
      obtain ⟨f9, ef9⟩ : ∃ z, z = vp_updL f (0 : Int32).toNatClampNeg 1 := ⟨_, rfl⟩
      rw [← ef9] at hPo
      have hf9 : f9 0 = (if v9 = 0 then 0 else 1) := by rw [ef9]; rw [if_neg hc9]; rfl
      refine lv_iconst (v := 0) hx hb dL_isBlocked_30 (by decide) ?_
      exact vx_ret (W.widen (Nat.le_of_ble_eq_true rfl) (Nat.le_of_ble_eq_true rfl) (W.iret (v := 0) hx hb hr (fun t ht hW => ⟨⟨0, (σ9, f9), rfl, ⟨ok9, Or.inl ⟨v9, eq9, rfl, hf9⟩⟩, ⟨ho_of ht hP, by rw [ht]; exact hPo⟩⟩, hS.F ht⟩) hS.2.2 dL_isBlocked_31))
set_option maxHeartbeats 4000000 in
set_option maxRecDepth 100000 in
theorem cL_clearance_met (l : Launch) (hl0 : l.stackTraces = false) {D : va_G} {G : CY} {ad : Nat → Nat} {B0 : Nat} (hA : adOK B0 ad) (σ : Nat → Nat → Int32) (a : Int32) (b : Int32) (cL : ClassId) (f : Nat → Int64) (hO : okS σ) (hE : ∀ E z, ((Sum.inr E, z) : RT) = f6_clearance σ a b → ∃ n, (cd2 xOB xIA) E n) : vx_Met l yL_clearance wsL_clearance { frames := 8, cells := 2, slots := 12, locals := 140 } (va_Pc [.ref (ad (270)), .int a, .int b, .ref (B0+290)] (Hw1 D G ad B0 σ cL f)) (va_Qi (fun (r : Int32) (z : ((Nat → Nat → Int32) × (Nat → Int64))) => okS z.1 ∧ ((∃ v, ((Sum.inl v, z.1) : RT) = f6_clearance σ a b ∧ r = 0 ∧ z.2 0 = v.toInt64) ∨ (∃ E, ((Sum.inr E, z.1) : RT) = f6_clearance σ a b ∧ (cd2 xOB xIA) E r))) (fun z t => Ho D G ad z.1 t ∧ va_P D vwCl [(B0+290, .inl (cL, 1, .inr (.inl z.2)))] t.heap) (AW1 B0)) (vx_X (fun (_ : Unit) => False) (fun _ _ _ => True) (AW1 B0)) 2 12 (AW1 B0) := by
  refine vx_ofWH (cc := cL_clearance) (maxL := 5) (ret := (some .int)) (hh := [(0, 10, 13, 13), (0, 10, 17, 15)]) (by decide) rfl ?_
  intro p e s m args below meth c s₁ B hml hv
  obtain ⟨rfl, ⟨⟨hP, hK, hN⟩, hT, hL, adK, adV, hG, hR⟩, hNc, hPo, hKo⟩ := hv
  have hx := B.exec
  have hb := B.bytes
  have hr := B.returns
  have hts := atoms_spec (ws := wsL_clearance) B.pre
  have hown : s.vm.findClass RL = some m.cls := findClass_of_methodNamed B.named
  have hlocks := B.notSynchronized
  have htab : c.exceptionTable.toList = tableOf [(0, 10, 13, 13), (0, 10, 17, 15)] := vx_table (x := yL_clearance) B (hts _ List.mem_cons_self)
  have hP : va_P D vwCl (pool G ad σ) s.heap := hP
  have hS : va_S (AW1 B0) s.heap s.heap [] := va_S.rf
  have hl := lv_entry ([.ref (ad (270)), .int a, .int b, .ref (B0+290)]) (n := 5) (Nat.le_of_ble_eq_true rfl)
  rw [lg_entry_eq]
  generalize (lg_sl ([.ref (ad (270)), .int a, .int b, .ref (B0+290)]) ++ List.replicate (5 - (lg_sl ([.ref (ad (270)), .int a, .int b, .ref (B0+290)])).length) Slot.unset).toArray = ls at hl ⊢
  have hl : lv_has ls 5 [(0, .ref (ad (270))), (1, .int a), (2, .int b), (3, .ref (B0+290))] := hl
  refine lv_aload_n hx hb dL_clearance_0 rfl (lv_at hl 3 rfl) ?_
  refine lv_iconst (v := 0) hx hb dL_clearance_1 (by decide) ?_
  refine lv_aload_n hx hb dL_clearance_2 rfl (lv_at hl 0 rfl) ?_
  refine lv_iload_n hx hb dL_clearance_3 rfl (lv_at hl 1 rfl) ?_
  refine lv_iload_n hx hb dL_clearance_4 rfl (lv_at hl 2 rfl) ?_
  refine vx_calli (vx_runV (As := [.int a, .int b]) (rest := [.int 0, .ref (B0+290)]) ⟨hx, hb, hml, hown, hts⟩ (c6_clearance l hl0 hA σ a b hO) (cwV 2 hts gL_clearance_X6_clearance rfl rfl rfl hd_X6_clearanceV ⟨(Nat.le_of_ble_eq_true rfl), (Nat.le_of_ble_eq_true rfl)⟩) ⟨hx_blind, va_recv hK hP (ci := 8) (q0 := 270) rfl g_270, hx_pre hK hN hT hL hG hR va_S.rf hP⟩ rfl rfl hl.1 rfl (lv_room (Nat.le_of_ble_eq_true rfl)) dL_clearance_5 ⟨(Nat.le_of_ble_eq_true rfl), (Nat.le_of_ble_eq_true rfl)⟩) hS (fun q _ h => Or.inl h) (fun q h => Or.inl h) (fun q _ h => Or.inl h) (fun E9 ce9 q9 z9 t9 H locs ht9 hvm9 hw9 hB9 hz9 hk9 hS hce9 hcv9 hcl9 => ?_) (fun v9 σ9 t H locs ht hvm hw9 hB hz1 hk1 hS => ?_)
  · obtain ⟨eqx, okx⟩ := hw9
    obtain ⟨rfl, hBx⟩ := hB9
    have hP := ho_at ht9 hBx
    have hPo := hPo.kept (fun k q hk => hk9 q.1 (vx_lt hPo hk) (wo_out1 hk))
    obtain ⟨n9, hn9⟩ := hE _ _ eqx
    rcases hn9 with ⟨h1, h2⟩ | ⟨h1, h2⟩
    · rw [h1] at hcl9
      refine vx_catch (own := RL) (name := xOB) hown (tableOf []) ⟨0, 10, 13, 13⟩ (tableOf [(0, 10, 17, 15)]) htab (fun z hz => nomatch hz) rfl (by decide) (hts (.classLink RL 13 "java/lang/IndexOutOfBoundsException") (List.mem_of_getElem? (i := 1) rfl)) ((hL.2.1 xOB (by decide)).use rfl) hce9 hcv9 hcl9 ?_
      refine lv_astore (lv' := [(4, .ref q9), (0, .ref (ad (270))), (1, .int a), (2, .int b), (3, .ref (B0+290))]) hx hb dL_clearance_13 hl (by decide) rfl (fun ls hl => ?_)
      refine lv_iconst (v := 1) hx hb dL_clearance_15 (by decide) ?_
      exact vx_ret (W.widen (Nat.le_of_ble_eq_true rfl) (Nat.le_of_ble_eq_true rfl) (W.iret (v := 1) hx hb hr (fun t ht hW => ⟨⟨1, (z9.2, f), rfl, ⟨okx, Or.inr ⟨z9.1, eqx, Or.inl ⟨h1, rfl⟩⟩⟩, ⟨ho_of ht hP, by rw [ht]; exact hPo⟩⟩, hS.F ht⟩) hS.2.2 dL_clearance_16))
    · rw [h1] at hcl9
      refine vx_catch (own := RL) (name := xIA) hown (tableOf [(0, 10, 13, 13)]) ⟨0, 10, 17, 15⟩ (tableOf []) htab (fun z hz => by cases List.mem_singleton.mp hz; exact Or.inr ⟨by decide, xOB, (hts (.classLink RL 13 "java/lang/IndexOutOfBoundsException") (List.mem_of_getElem? (i := 1) rfl)), hNc.1⟩) rfl (by decide) (hts (.classLink RL 15 "java/lang/IllegalArgumentException") (List.mem_of_getElem? (i := 2) rfl)) ((hL.2.1 xIA (by decide)).use rfl) hce9 hcv9 hcl9 ?_
      refine lv_astore (lv' := [(4, .ref q9), (0, .ref (ad (270))), (1, .int a), (2, .int b), (3, .ref (B0+290))]) hx hb dL_clearance_17 hl (by decide) rfl (fun ls hl => ?_)
      refine lv_iconst (v := 2) hx hb dL_clearance_19 (by decide) ?_
      exact vx_ret (W.widen (Nat.le_of_ble_eq_true rfl) (Nat.le_of_ble_eq_true rfl) (W.iret (v := 2) hx hb hr (fun t ht hW => ⟨⟨2, (z9.2, f), rfl, ⟨okx, Or.inr ⟨z9.1, eqx, Or.inr (⟨h1, rfl⟩)⟩⟩, ⟨ho_of ht hP, by rw [ht]; exact hPo⟩⟩, hS.F ht⟩) hS.2.2 dL_clearance_20))
  · obtain ⟨eq9, ok9⟩ := hw9
    have hP := ho_at ht hB
    have hPo := hPo.kept (fun k q hk => hk1 q.1 (vx_lt hPo hk) (wo_out1 hk))
    refine lv_i2l (v := v9.toInt64) hx hb dL_clearance_8 rfl ?_
    refine va_last (tys := [(cL, .long)]) hx hb hKo (va_P.app hP hPo) (wp_D1 hA) hS 290 0 (wp_at (ad := ad) (G := G)) rfl (vp_in_iff.mpr (by decide)) dL_clearance_9 (fun H locs hP _ hS => ?_)
    obtain ⟨hP, hPo⟩ := wp_set hP
    refine lv_goto (tgt := 21) hx hb dL_clearance_10 (by decide) ?_
    obtain ⟨f9, ef9⟩ : ∃ z, z = vp_updL f (0 : Int32).toNatClampNeg v9.toInt64 := ⟨_, rfl⟩
    rw [← ef9] at hPo
    have hf9 : f9 0 = v9.toInt64 := by rw [ef9]; rfl
    refine lv_iconst (v := 0) hx hb dL_clearance_21 (by decide) ?_
    exact vx_ret (W.widen (Nat.le_of_ble_eq_true rfl) (Nat.le_of_ble_eq_true rfl) (W.iret (v := 0) hx hb hr (fun t ht hW => ⟨⟨0, (σ9, f9), rfl, ⟨ok9, Or.inl ⟨v9, eq9, rfl, hf9⟩⟩, ⟨ho_of ht hP, by rw [ht]; exact hPo⟩⟩, hS.F ht⟩) hS.2.2 dL_clearance_22))
set_option maxHeartbeats 4000000 in
set_option maxRecDepth 100000 in
theorem cL_drop_met (l : Launch) (hl0 : l.stackTraces = false) {D : va_G} {G : CY} {ad : Nat → Nat} {B0 : Nat} (hA : adOK B0 ad) (σ : Nat → Nat → Int32) (a : Int32) (cL : ClassId) (f : Nat → Int64) (hO : okS σ) (hE : ∀ E z, ((Sum.inr E, z) : RT) = f6_drop σ a → ∃ n, (cd1 xOB) E n) : vx_Met l yL_drop wsL_drop { frames := 8, cells := 2, slots := 12, locals := 140 } (va_Pc [.ref (ad (270)), .int a, .ref (B0+290)] (Hw1 D G ad B0 σ cL f)) (va_Qi (fun (r : Int32) (z : ((Nat → Nat → Int32) × (Nat → Int64))) => okS z.1 ∧ ((∃ v, ((Sum.inl v, z.1) : RT) = f6_drop σ a ∧ r = 0 ∧ z.2 0 = v.toInt64) ∨ (∃ E, ((Sum.inr E, z.1) : RT) = f6_drop σ a ∧ (cd1 xOB) E r))) (fun z t => Ho D G ad z.1 t ∧ va_P D vwCl [(B0+290, .inl (cL, 1, .inr (.inl z.2)))] t.heap) (AW1 B0)) (vx_X (fun (_ : Unit) => False) (fun _ _ _ => True) (AW1 B0)) 2 12 (AW1 B0) := by
  refine vx_ofWH (cc := cL_drop) (maxL := 4) (ret := (some .int)) (hh := [(0, 9, 12, 13)]) (by decide) rfl ?_
  intro p e s m args below meth c s₁ B hml hv
  obtain ⟨rfl, ⟨⟨hP, hK, hN⟩, hT, hL, adK, adV, hG, hR⟩, hNc, hPo, hKo⟩ := hv
  have hx := B.exec
  have hb := B.bytes
  have hr := B.returns
  have hts := atoms_spec (ws := wsL_drop) B.pre
  have hown : s.vm.findClass RL = some m.cls := findClass_of_methodNamed B.named
  have hlocks := B.notSynchronized
  have htab : c.exceptionTable.toList = tableOf [(0, 9, 12, 13)] := vx_table (x := yL_drop) B (hts _ List.mem_cons_self)
  have hP : va_P D vwCl (pool G ad σ) s.heap := hP
  have hS : va_S (AW1 B0) s.heap s.heap [] := va_S.rf
  have hl := lv_entry ([.ref (ad (270)), .int a, .ref (B0+290)]) (n := 4) (Nat.le_of_ble_eq_true rfl)
  rw [lg_entry_eq]
  generalize (lg_sl ([.ref (ad (270)), .int a, .ref (B0+290)]) ++ List.replicate (4 - (lg_sl ([.ref (ad (270)), .int a, .ref (B0+290)])).length) Slot.unset).toArray = ls at hl ⊢
  have hl : lv_has ls 4 [(0, .ref (ad (270))), (1, .int a), (2, .ref (B0+290))] := hl
  refine lv_aload_n hx hb dL_drop_0 rfl (lv_at hl 2 rfl) ?_
  refine lv_iconst (v := 0) hx hb dL_drop_1 (by decide) ?_
  refine lv_aload_n hx hb dL_drop_2 rfl (lv_at hl 0 rfl) ?_
  refine lv_iload_n hx hb dL_drop_3 rfl (lv_at hl 1 rfl) ?_
  refine vx_calli (vx_runV (As := [.int a]) (rest := [.int 0, .ref (B0+290)]) ⟨hx, hb, hml, hown, hts⟩ (c6_drop l hl0 hA σ a hO) (cwV 1 hts gL_drop_X6_drop rfl rfl rfl hd_X6_dropV ⟨(Nat.le_of_ble_eq_true rfl), (Nat.le_of_ble_eq_true rfl)⟩) ⟨hx_blind, va_recv hK hP (ci := 8) (q0 := 270) rfl g_270, hx_pre hK hN hT hL hG hR va_S.rf hP⟩ rfl rfl hl.1 rfl (lv_room (Nat.le_of_ble_eq_true rfl)) dL_drop_4 ⟨(Nat.le_of_ble_eq_true rfl), (Nat.le_of_ble_eq_true rfl)⟩) hS (fun q _ h => Or.inl h) (fun q h => Or.inl h) (fun q _ h => Or.inl h) (fun E9 ce9 q9 z9 t9 H locs ht9 hvm9 hw9 hB9 hz9 hk9 hS hce9 hcv9 hcl9 => ?_) (fun v9 σ9 t H locs ht hvm hw9 hB hz1 hk1 hS => ?_)
  · obtain ⟨eqx, okx⟩ := hw9
    obtain ⟨rfl, hBx⟩ := hB9
    have hP := ho_at ht9 hBx
    have hPo := hPo.kept (fun k q hk => hk9 q.1 (vx_lt hPo hk) (wo_out1 hk))
    obtain ⟨n9, hn9⟩ := hE _ _ eqx
    obtain ⟨h1, h2⟩ := hn9
    rw [h1] at hcl9
    refine vx_catch (own := RL) (name := xOB) hown (tableOf []) ⟨0, 9, 12, 13⟩ (tableOf []) htab (fun z hz => nomatch hz) rfl (by decide) (hts (.classLink RL 13 "java/lang/IndexOutOfBoundsException") (List.mem_of_getElem? (i := 1) rfl)) ((hL.2.1 xOB (by decide)).use rfl) hce9 hcv9 hcl9 ?_
    refine lv_astore_n (lv' := [(3, .ref q9), (0, .ref (ad (270))), (1, .int a), (2, .ref (B0+290))]) hx hb dL_drop_12 rfl hl (by decide) rfl (fun ls hl => ?_)
    refine lv_iconst (v := 1) hx hb dL_drop_13 (by decide) ?_
    exact vx_ret (W.widen (Nat.le_of_ble_eq_true rfl) (Nat.le_of_ble_eq_true rfl) (W.iret (v := 1) hx hb hr (fun t ht hW => ⟨⟨1, (z9.2, f), rfl, ⟨okx, Or.inr ⟨z9.1, eqx, ⟨h1, rfl⟩⟩⟩, ⟨ho_of ht hP, by rw [ht]; exact hPo⟩⟩, hS.F ht⟩) hS.2.2 dL_drop_14))
  · obtain ⟨eq9, ok9⟩ := hw9
    have hP := ho_at ht hB
    have hPo := hPo.kept (fun k q hk => hk1 q.1 (vx_lt hPo hk) (wo_out1 hk))
    refine lv_i2l (v := v9.toInt64) hx hb dL_drop_7 rfl ?_
    refine va_last (tys := [(cL, .long)]) hx hb hKo (va_P.app hP hPo) (wp_D1 hA) hS 290 0 (wp_at (ad := ad) (G := G)) rfl (vp_in_iff.mpr (by decide)) dL_drop_8 (fun H locs hP _ hS => ?_)
    obtain ⟨hP, hPo⟩ := wp_set hP
    refine lv_goto (tgt := 15) hx hb dL_drop_9 (by decide) ?_
    obtain ⟨f9, ef9⟩ : ∃ z, z = vp_updL f (0 : Int32).toNatClampNeg v9.toInt64 := ⟨_, rfl⟩
    rw [← ef9] at hPo
    have hf9 : f9 0 = v9.toInt64 := by rw [ef9]; rfl
    refine lv_iconst (v := 0) hx hb dL_drop_15 (by decide) ?_
    exact vx_ret (W.widen (Nat.le_of_ble_eq_true rfl) (Nat.le_of_ble_eq_true rfl) (W.iret (v := 0) hx hb hr (fun t ht hW => ⟨⟨0, (σ9, f9), rfl, ⟨ok9, Or.inl ⟨v9, eq9, rfl, hf9⟩⟩, ⟨ho_of ht hP, by rw [ht]; exact hPo⟩⟩, hS.F ht⟩) hS.2.2 dL_drop_16))
