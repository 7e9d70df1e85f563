/-! THE LAW'S WRAPPERS -/
set_option maxHeartbeats 4000000 in
set_option maxRecDepth 100000 in
theorem cL_look_met (l : Launch) (hl0 : l.stackTraces = false) {D : va_G} {G : CY} {ad : Nat → Nat} {B0 : Nat} (hA : adOK B0 ad) (σ : Nat → Nat → Int32) (a : Int32) (b : Int32) (cL : ClassId) (f : Nat → Int64) (hO : okS σ) (hE : ∀ E z, ((Sum.inr E, z) : RT) = f6_look σ a b → ∃ n, (cd1 xIA) E n) : vx_Met l yL_look wsL_look { frames := 8, cells := 2, slots := 12, locals := 139 } (va_Pc [.ref (ad (270)), .int a, .int b, .ref (B0+290)] (Hw1 D G ad B0 σ cL f)) (va_Qi (fun (r : Int32) (z : ((Nat → Nat → Int32) × (Nat → Int64))) => okS z.1 ∧ ((∃ v, ((Sum.inl v, z.1) : RT) = f6_look σ a b ∧ r = 0 ∧ z.2 0 = v.toInt64) ∨ (∃ E, ((Sum.inr E, z.1) : RT) = f6_look σ a b ∧ (cd1 xIA) E r))) (fun z t => Ho D G ad z.1 t ∧ va_P D vwCl [(B0+290, .inl (cL, 1, .inr (.inl z.2)))] t.heap) (AW1 B0)) (vx_X (fun (_ : Unit) => False) (fun _ _ _ => True) (AW1 B0)) 2 12 (AW1 B0) := by
  refine vx_ofWH (cc := cL_look) (maxL := 5) (ret := (some .int)) (hh := [(0, 10, 13, 15)]) (by decide) rfl ?_
  intro p e s m args below meth c s₁ B hml hv
  obtain ⟨rfl, ⟨⟨hP, hK, hN⟩, hT, hL, adK, adV, hG, hR⟩, hNc, hPo, hKo⟩ := hv
  have hx := B.exec
  have hb := B.bytes
  have hr := B.returns
  have hts := atoms_spec (ws := wsL_look) B.pre
  have hown : s.vm.findClass RL = some m.cls := findClass_of_methodNamed B.named
  have hlocks := B.notSynchronized
  have htab : c.exceptionTable.toList = tableOf [(0, 10, 13, 15)] := vx_table (x := yL_look) B (hts _ List.mem_cons_self)
  have hP : va_P D vwCl (pool G ad σ) s.heap := hP
  have hS : va_S (AW1 B0) s.heap s.heap [] := va_S.rf
  have hl := lv_entry ([.ref (ad (270)), .int a, .int b, .ref (B0+290)]) (n := 5) (Nat.le_of_ble_eq_true rfl)
  rw [lg_entry_eq]
  generalize (lg_sl ([.ref (ad (270)), .int a, .int b, .ref (B0+290)]) ++ List.replicate (5 - (lg_sl ([.ref (ad (270)), .int a, .int b, .ref (B0+290)])).length) Slot.unset).toArray = ls at hl ⊢
  have hl : lv_has ls 5 [(0, .ref (ad (270))), (1, .int a), (2, .int b), (3, .ref (B0+290))] := hl
  refine lv_aload_n hx hb dL_look_0 rfl (lv_at hl 3 rfl) ?_
  refine lv_iconst (v := 0) hx hb dL_look_1 (by decide) ?_
  refine lv_aload_n hx hb dL_look_2 rfl (lv_at hl 0 rfl) ?_
  refine lv_iload_n hx hb dL_look_3 rfl (lv_at hl 1 rfl) ?_
  refine lv_iload_n hx hb dL_look_4 rfl (lv_at hl 2 rfl) ?_
  refine vx_calli (vx_runV (As := [.int a, .int b]) (rest := [.int 0, .ref (B0+290)]) ⟨hx, hb, hml, hown, hts⟩ (c6_look l hl0 hA σ a b hO) (cwV 2 hts gL_look_X6_look rfl rfl rfl hd_X6_lookV ⟨(Nat.le_of_ble_eq_true rfl), (Nat.le_of_ble_eq_true rfl)⟩) ⟨hx_blind, va_recv hK hP (ci := 8) (q0 := 270) rfl g_270, hx_pre hK hN hT hL hG hR va_S.rf hP⟩ rfl rfl hl.1 rfl (lv_room (Nat.le_of_ble_eq_true rfl)) dL_look_5 ⟨(Nat.le_of_ble_eq_true rfl), (Nat.le_of_ble_eq_true rfl)⟩) hS (fun q _ h => Or.inl h) (fun q h => Or.inl h) (fun q _ h => Or.inl h) (fun E9 ce9 q9 z9 t9 H locs ht9 hvm9 hw9 hB9 hz9 hk9 hS hce9 hcv9 hcl9 => ?_) (fun v9 σ9 t H locs ht hvm hw9 hB hz1 hk1 hS => ?_)
  · obtain ⟨eqx, okx⟩ := hw9
    obtain ⟨rfl, hBx⟩ := hB9
    have hP := ho_at ht9 hBx
    have hPo := hPo.kept (fun k q hk => hk9 q.1 (vx_lt hPo hk) (wo_out1 hk))
    obtain ⟨n9, hn9⟩ := hE _ _ eqx
    obtain ⟨h1, h2⟩ := hn9
    rw [h1] at hcl9
    refine vx_catch (own := RL) (name := xIA) hown (tableOf []) ⟨0, 10, 13, 15⟩ (tableOf []) htab (fun z hz => nomatch hz) rfl (by decide) (hts (.classLink RL 15 "java/lang/IllegalArgumentException") (List.mem_of_getElem? (i := 1) rfl)) ((hL.2.1 xIA (by decide)).use rfl) hce9 hcv9 hcl9 ?_
    refine lv_astore (lv' := [(4, .ref q9), (0, .ref (ad (270))), (1, .int a), (2, .int b), (3, .ref (B0+290))]) hx hb dL_look_13 hl (by decide) rfl (fun ls hl => ?_)
    refine lv_iconst (v := 1) hx hb dL_look_15 (by decide) ?_
    exact vx_ret (W.widen (Nat.le_of_ble_eq_true rfl) (Nat.le_of_ble_eq_true rfl) (W.iret (v := 1) hx hb hr (fun t ht hW => ⟨⟨1, (z9.2, f), rfl, ⟨okx, Or.inr ⟨z9.1, eqx, ⟨h1, rfl⟩⟩⟩, ⟨ho_of ht hP, by rw [ht]; exact hPo⟩⟩, hS.F ht⟩) hS.2.2 dL_look_16))
  · obtain ⟨eq9, ok9⟩ := hw9
    have hP := ho_at ht hB
    have hPo := hPo.kept (fun k q hk => hk1 q.1 (vx_lt hPo hk) (wo_out1 hk))
    refine lv_i2l (v := v9.toInt64) hx hb dL_look_8 rfl ?_
    refine va_last (tys := [(cL, .long)]) hx hb hKo (va_P.app hP hPo) (wp_D1 hA) hS 290 0 (wp_at (ad := ad) (G := G)) rfl (vp_in_iff.mpr (by decide)) dL_look_9 (fun H locs hP _ hS => ?_)
    obtain ⟨hP, hPo⟩ := wp_set hP
    refine lv_goto (tgt := 17) hx hb dL_look_10 (by decide) ?_
    obtain ⟨f9, ef9⟩ : ∃ z, z = vp_updL f (0 : Int32).toNatClampNeg v9.toInt64 := ⟨_, rfl⟩
    rw [← ef9] at hPo
    have hf9 : f9 0 = v9.toInt64 := by rw [ef9]; rfl
    refine lv_iconst (v := 0) hx hb dL_look_17 (by decide) ?_
    exact vx_ret (W.widen (Nat.le_of_ble_eq_true rfl) (Nat.le_of_ble_eq_true rfl) (W.iret (v := 0) hx hb hr (fun t ht hW => ⟨⟨0, (σ9, f9), rfl, ⟨ok9, Or.inl ⟨v9, eq9, rfl, hf9⟩⟩, ⟨ho_of ht hP, by rw [ht]; exact hPo⟩⟩, hS.F ht⟩) hS.2.2 dL_look_18))
set_option maxHeartbeats 4000000 in
set_option maxRecDepth 100000 in
theorem cL_ray_met (l : Launch) (hl0 : l.stackTraces = false) {D : va_G} {G : CY} {ad : Nat → Nat} {B0 : Nat} (hA : adOK B0 ad) (σ : Nat → Nat → Int32) (a : Int32) (b : Int32) (c1 : Int32) (cL : ClassId) (f : Nat → Int64) (hO : okS σ) (hE : ∀ E z, ((Sum.inr E, z) : RT) = f6_ray σ a b c1 → ∃ n, (cd1 xIA) E n) : vx_Met l yL_ray wsL_ray { frames := 8, cells := 3, slots := 18, locals := 143 } (va_Pc [.ref (ad (270)), .int a, .int b, .int c1, .ref (B0+290)] (Hw1 D G ad B0 σ cL f)) (va_Qi (fun (r : Int32) (z : ((Nat → Nat → Int32) × (Nat → Int64))) => okS z.1 ∧ ((∃ v, ((Sum.inl v, z.1) : RT) = f6_ray σ a b c1 ∧ r = 0 ∧ z.2 0 = v.toInt64) ∨ (∃ E, ((Sum.inr E, z.1) : RT) = f6_ray σ a b c1 ∧ (cd1 xIA) E r))) (fun z t => Ho D G ad z.1 t ∧ va_P D vwCl [(B0+290, .inl (cL, 1, .inr (.inl z.2)))] t.heap) (AW1 B0)) (vx_X (fun (_ : Unit) => False) (fun _ _ _ => True) (AW1 B0)) 3 18 (AW1 B0) := by
  refine vx_ofWH (cc := cL_ray) (maxL := 6) (ret := (some .int)) (hh := [(0, 12, 15, 15)]) (by decide) rfl ?_
  intro p e s m args below meth c s₁ B hml hv
  obtain ⟨rfl, ⟨⟨hP, hK, hN⟩, hT, hL, adK, adV, hG, hR⟩, hNc, hPo, hKo⟩ := hv
  have hx := B.exec
  have hb := B.bytes
  have hr := B.returns
  have hts := atoms_spec (ws := wsL_ray) B.pre
  have hown : s.vm.findClass RL = some m.cls := findClass_of_methodNamed B.named
  have hlocks := B.notSynchronized
  have htab : c.exceptionTable.toList = tableOf [(0, 12, 15, 15)] := vx_table (x := yL_ray) B (hts _ List.mem_cons_self)
  have hP : va_P D vwCl (pool G ad σ) s.heap := hP
  have hS : va_S (AW1 B0) s.heap s.heap [] := va_S.rf
  have hl := lv_entry ([.ref (ad (270)), .int a, .int b, .int c1, .ref (B0+290)]) (n := 6) (Nat.le_of_ble_eq_true rfl)
  rw [lg_entry_eq]
  generalize (lg_sl ([.ref (ad (270)), .int a, .int b, .int c1, .ref (B0+290)]) ++ List.replicate (6 - (lg_sl ([.ref (ad (270)), .int a, .int b, .int c1, .ref (B0+290)])).length) Slot.unset).toArray = ls at hl ⊢
  have hl : lv_has ls 6 [(0, .ref (ad (270))), (1, .int a), (2, .int b), (3, .int c1), (4, .ref (B0+290))] := hl
  refine lv_aload hx hb dL_ray_0 (lv_at hl 4 rfl) ?_
  refine lv_iconst (v := 0) hx hb dL_ray_2 (by decide) ?_
  refine lv_aload_n hx hb dL_ray_3 rfl (lv_at hl 0 rfl) ?_
  refine lv_iload_n hx hb dL_ray_4 rfl (lv_at hl 1 rfl) ?_
  refine lv_iload_n hx hb dL_ray_5 rfl (lv_at hl 2 rfl) ?_
  refine lv_iload_n hx hb dL_ray_6 rfl (lv_at hl 3 rfl) ?_
  refine vx_calli (vx_runV (As := [.int a, .int b, .int c1]) (rest := [.int 0, .ref (B0+290)]) ⟨hx, hb, hml, hown, hts⟩ (c6_ray l hl0 hA σ a b c1 hO) (cwV 3 hts gL_ray_X6_ray rfl rfl rfl hd_X6_rayV ⟨(Nat.le_of_ble_eq_true rfl), (Nat.le_of_ble_eq_true rfl)⟩) ⟨hx_blind, va_recv hK hP (ci := 8) (q0 := 270) rfl g_270, hx_pre hK hN hT hL hG hR va_S.rf hP⟩ rfl rfl hl.1 rfl (lv_room (Nat.le_of_ble_eq_true rfl)) dL_ray_7 ⟨(Nat.le_of_ble_eq_true rfl), (Nat.le_of_ble_eq_true rfl)⟩) hS (fun q _ h => Or.inl h) (fun q h => Or.inl h) (fun q _ h => Or.inl h) (fun E9 ce9 q9 z9 t9 H locs ht9 hvm9 hw9 hB9 hz9 hk9 hS hce9 hcv9 hcl9 => ?_) (fun v9 σ9 t H locs ht hvm hw9 hB hz1 hk1 hS => ?_)
  · obtain ⟨eqx, okx⟩ := hw9
    obtain ⟨rfl, hBx⟩ := hB9
    have hP := ho_at ht9 hBx
    have hPo := hPo.kept (fun k q hk => hk9 q.1 (vx_lt hPo hk) (wo_out1 hk))
    obtain ⟨n9, hn9⟩ := hE _ _ eqx
    obtain ⟨h1, h2⟩ := hn9
    rw [h1] at hcl9
    refine vx_catch (own := RL) (name := xIA) hown (tableOf []) ⟨0, 12, 15, 15⟩ (tableOf []) htab (fun z hz => nomatch hz) rfl (by decide) (hts (.classLink RL 15 "java/lang/IllegalArgumentException") (List.mem_of_getElem? (i := 1) rfl)) ((hL.2.1 xIA (by decide)).use rfl) hce9 hcv9 hcl9 ?_
    refine lv_astore (lv' := [(5, .ref q9), (0, .ref (ad (270))), (1, .int a), (2, .int b), (3, .int c1), (4, .ref (B0+290))]) hx hb dL_ray_15 hl (by decide) rfl (fun ls hl => ?_)
    refine lv_iconst (v := 1) hx hb dL_ray_17 (by decide) ?_
    exact vx_ret (W.widen (Nat.le_of_ble_eq_true rfl) (Nat.le_of_ble_eq_true rfl) (W.iret (v := 1) hx hb hr (fun t ht hW => ⟨⟨1, (z9.2, f), rfl, ⟨okx, Or.inr ⟨z9.1, eqx, ⟨h1, rfl⟩⟩⟩, ⟨ho_of ht hP, by rw [ht]; exact hPo⟩⟩, hS.F ht⟩) hS.2.2 dL_ray_18))
  · obtain ⟨eq9, ok9⟩ := hw9
    have hP := ho_at ht hB
    have hPo := hPo.kept (fun k q hk => hk1 q.1 (vx_lt hPo hk) (wo_out1 hk))
    refine lv_i2l (v := v9.toInt64) hx hb dL_ray_10 rfl ?_
    refine va_last (tys := [(cL, .long)]) hx hb hKo (va_P.app hP hPo) (wp_D1 hA) hS 290 0 (wp_at (ad := ad) (G := G)) rfl (vp_in_iff.mpr (by decide)) dL_ray_11 (fun H locs hP _ hS => ?_)
    obtain ⟨hP, hPo⟩ := wp_set hP
    refine lv_goto (tgt := 19) hx hb dL_ray_12 (by decide) ?_
    obtain ⟨f9, ef9⟩ : ∃ z, z = vp_updL f (0 : Int32).toNatClampNeg v9.toInt64 := ⟨_, rfl⟩
    rw [← ef9] at hPo
    have hf9 : f9 0 = v9.toInt64 := by rw [ef9]; rfl
    refine lv_iconst (v := 0) hx hb dL_ray_19 (by decide) ?_
    exact vx_ret (W.widen (Nat.le_of_ble_eq_true rfl) (Nat.le_of_ble_eq_true rfl) (W.iret (v := 0) hx hb hr (fun t ht hW => ⟨⟨0, (σ9, f9), rfl, ⟨ok9, Or.inl ⟨v9, eq9, rfl, hf9⟩⟩, ⟨ho_of ht hP, by rw [ht]; exact hPo⟩⟩, hS.F ht⟩) hS.2.2 dL_ray_20))
set_option maxHeartbeats 4000000 in
set_option maxRecDepth 100000 in
theorem cL_predict_met (l : Launch) (hl0 : l.stackTraces = false) {D : va_G} {G : CY} {ad : Nat → Nat} {B0 : Nat} (hA : adOK B0 ad) (σ : Nat → Nat → Int32) (a : Int32) (b : Int32) (c1 : Int32) (d : Int32) (cL : ClassId) (f : Nat → Int64) (hO : okS σ) (hE : ∀ E z, ((Sum.inr E, z) : RT) = f6_predict σ a b c1 d → ∃ n, (cd2 xOB xIA) E n) : vx_Met l yL_predict wsL_predict { frames := 8, cells := 2, slots := 12, locals := 198 } (va_Pc [.ref (ad (270)), .int a, .int b, .int c1, .int d, .ref (B0+290)] (Hw1 D G ad B0 σ cL f)) (va_Qi (fun (r : Int32) (z : ((Nat → Nat → Int32) × (Nat → Int64))) => okS z.1 ∧ ((∃ v, ((Sum.inl v, z.1) : RT) = f6_predict σ a b c1 d ∧ r = 0 ∧ z.2 0 = v.toInt64) ∨ (∃ E, ((Sum.inr E, z.1) : RT) = f6_predict σ a b c1 d ∧ (cd2 xOB xIA) E r))) (fun z t => Ho D G ad z.1 t ∧ va_P D vwCl [(B0+290, .inl (cL, 1, .inr (.inl z.2)))] t.heap) (AW1 B0)) (vx_X (fun (_ : Unit) => False) (fun _ _ _ => True) (AW1 B0)) 2 12 (AW1 B0) := by
  refine vx_ofWH (cc := cL_predict) (maxL := 7) (ret := (some .int)) (hh := [(0, 14, 17, 13), (0, 14, 21, 15)]) (by decide) rfl ?_
  intro p e s m args below meth c s₁ B hml hv
  obtain ⟨rfl, ⟨⟨hP, hK, hN⟩, hT, hL, adK, adV, hG, hR⟩, hNc, hPo, hKo⟩ := hv
  have hx := B.exec
  have hb := B.bytes
  have hr := B.returns
  have hts := atoms_spec (ws := wsL_predict) B.pre
  have hown : s.vm.findClass RL = some m.cls := findClass_of_methodNamed B.named
  have hlocks := B.notSynchronized
  have htab : c.exceptionTable.toList = tableOf [(0, 14, 17, 13), (0, 14, 21, 15)] := vx_table (x := yL_predict) B (hts _ List.mem_cons_self)
  have hP : va_P D vwCl (pool G ad σ) s.heap := hP
  have hS : va_S (AW1 B0) s.heap s.heap [] := va_S.rf
  have hl := lv_entry ([.ref (ad (270)), .int a, .int b, .int c1, .int d, .ref (B0+290)]) (n := 7) (Nat.le_of_ble_eq_true rfl)
  rw [lg_entry_eq]
  generalize (lg_sl ([.ref (ad (270)), .int a, .int b, .int c1, .int d, .ref (B0+290)]) ++ List.replicate (7 - (lg_sl ([.ref (ad (270)), .int a, .int b, .int c1, .int d, .ref (B0+290)])).length) Slot.unset).toArray = ls at hl ⊢
  have hl : lv_has ls 7 [(0, .ref (ad (270))), (1, .int a), (2, .int b), (3, .int c1), (4, .int d), (5, .ref (B0+290))] := hl
  refine lv_aload hx hb dL_predict_0 (lv_at hl 5 rfl) ?_
  refine lv_iconst (v := 0) hx hb dL_predict_2 (by decide) ?_
  refine lv_aload_n hx hb dL_predict_3 rfl (lv_at hl 0 rfl) ?_
  refine lv_iload_n hx hb dL_predict_4 rfl (lv_at hl 1 rfl) ?_
  refine lv_iload_n hx hb dL_predict_5 rfl (lv_at hl 2 rfl) ?_
  refine lv_iload_n hx hb dL_predict_6 rfl (lv_at hl 3 rfl) ?_
  refine lv_iload hx hb dL_predict_7 (lv_at hl 4 rfl) ?_
  refine vx_calli (vx_runV (As := [.int a, .int b, .int c1, .int d]) (rest := [.int 0, .ref (B0+290)]) ⟨hx, hb, hml, hown, hts⟩ (c6_predict l hl0 hA σ a b c1 d hO) (cwV 4 hts gL_predict_X6_predict rfl rfl rfl hd_X6_predictV ⟨(Nat.le_of_ble_eq_true rfl), (Nat.le_of_ble_eq_true rfl)⟩) ⟨hx_blind, va_recv hK hP (ci := 8) (q0 := 270) rfl g_270, hx_pre hK hN hT hL hG hR va_S.rf hP⟩ rfl rfl hl.1 rfl (lv_room (Nat.le_of_ble_eq_true rfl)) dL_predict_9 ⟨(Nat.le_of_ble_eq_true rfl), (Nat.le_of_ble_eq_true rfl)⟩) hS (fun q _ h => Or.inl h) (fun q h => Or.inl h) (fun q _ h => Or.inl h) (fun E9 ce9 q9 z9 t9 H locs ht9 hvm9 hw9 hB9 hz9 hk9 hS hce9 hcv9 hcl9 => ?_) (fun v9 σ9 t H locs ht hvm hw9 hB hz1 hk1 hS => ?_)
  · obtain ⟨eqx, okx⟩ := hw9
    obtain ⟨rfl, hBx⟩ := hB9
    have hP := ho_at ht9 hBx
    have hPo := hPo.kept (fun k q hk => hk9 q.1 (vx_lt hPo hk) (wo_out1 hk))
    obtain ⟨n9, hn9⟩ := hE _ _ eqx
    rcases hn9 with ⟨h1, h2⟩ | ⟨h1, h2⟩
    · rw [h1] at hcl9
      refine vx_catch (own := RL) (name := xOB) hown (tableOf []) ⟨0, 14, 17, 13⟩ (tableOf [(0, 14, 21, 15)]) htab (fun z hz => nomatch hz) rfl (by decide) (hts (.classLink RL 13 "java/lang/IndexOutOfBoundsException") (List.mem_of_getElem? (i := 1) rfl)) ((hL.2.1 xOB (by decide)).use rfl) hce9 hcv9 hcl9 ?_
      refine lv_astore (lv' := [(6, .ref q9), (0, .ref (ad (270))), (1, .int a), (2, .int b), (3, .int c1), (4, .int d), (5, .ref (B0+290))]) hx hb dL_predict_17 hl (by decide) rfl (fun ls hl => ?_)
      refine lv_iconst (v := 1) hx hb dL_predict_19 (by decide) ?_
      exact vx_ret (W.widen (Nat.le_of_ble_eq_true rfl) (Nat.le_of_ble_eq_true rfl) (W.iret (v := 1) hx hb hr (fun t ht hW => ⟨⟨1, (z9.2, f), rfl, ⟨okx, Or.inr ⟨z9.1, eqx, Or.inl ⟨h1, rfl⟩⟩⟩, ⟨ho_of ht hP, by rw [ht]; exact hPo⟩⟩, hS.F ht⟩) hS.2.2 dL_predict_20))
    · rw [h1] at hcl9
      refine vx_catch (own := RL) (name := xIA) hown (tableOf [(0, 14, 17, 13)]) ⟨0, 14, 21, 15⟩ (tableOf []) htab (fun z hz => by cases List.mem_singleton.mp hz; exact Or.inr ⟨by decide, xOB, (hts (.classLink RL 13 "java/lang/IndexOutOfBoundsException") (List.mem_of_getElem? (i := 1) rfl)), hNc.1⟩) rfl (by decide) (hts (.classLink RL 15 "java/lang/IllegalArgumentException") (List.mem_of_getElem? (i := 2) rfl)) ((hL.2.1 xIA (by decide)).use rfl) hce9 hcv9 hcl9 ?_
      refine lv_astore (lv' := [(6, .ref q9), (0, .ref (ad (270))), (1, .int a), (2, .int b), (3, .int c1), (4, .int d), (5, .ref (B0+290))]) hx hb dL_predict_21 hl (by decide) rfl (fun ls hl => ?_)
      refine lv_iconst (v := 2) hx hb dL_predict_23 (by decide) ?_
      exact vx_ret (W.widen (Nat.le_of_ble_eq_true rfl) (Nat.le_of_ble_eq_true rfl) (W.iret (v := 2) hx hb hr (fun t ht hW => ⟨⟨2, (z9.2, f), rfl, ⟨okx, Or.inr ⟨z9.1, eqx, Or.inr (⟨h1, rfl⟩)⟩⟩, ⟨ho_of ht hP, by rw [ht]; exact hPo⟩⟩, hS.F ht⟩) hS.2.2 dL_predict_24))
  · obtain ⟨eq9, ok9⟩ := hw9
    have hP := ho_at ht hB
    have hPo := hPo.kept (fun k q hk => hk1 q.1 (vx_lt hPo hk) (wo_out1 hk))
    refine lv_i2l (v := v9.toInt64) hx hb dL_predict_12 rfl ?_
    refine va_last (tys := [(cL, .long)]) hx hb hKo (va_P.app hP hPo) (wp_D1 hA) hS 290 0 (wp_at (ad := ad) (G := G)) rfl (vp_in_iff.mpr (by decide)) dL_predict_13 (fun H locs hP _ hS => ?_)
    obtain ⟨hP, hPo⟩ := wp_set hP
    refine lv_goto (tgt := 25) hx hb dL_predict_14 (by decide) ?_
    obtain ⟨f9, ef9⟩ : ∃ z, z = vp_updL f (0 : Int32).toNatClampNeg v9.toInt64 := ⟨_, rfl⟩
    rw [← ef9] at hPo
    have hf9 : f9 0 = v9.toInt64 := by rw [ef9]; rfl
    refine lv_iconst (v := 0) hx hb dL_predict_25 (by decide) ?_
    exact vx_ret (W.widen (Nat.le_of_ble_eq_true rfl) (Nat.le_of_ble_eq_true rfl) (W.iret (v := 0) hx hb hr (fun t ht hW => ⟨⟨0, (σ9, f9), rfl, ⟨ok9, Or.inl ⟨v9, eq9, rfl, hf9⟩⟩, ⟨ho_of ht hP, by rw [ht]; exact hPo⟩⟩, hS.F ht⟩) hS.2.2 dL_predict_26))
set_option maxHeartbeats 4000000 in
set_option maxRecDepth 100000 in
theorem cL_apex_met (l : Launch) (hl0 : l.stackTraces = false) {D : va_G} {G : CY} {ad : Nat → Nat} {B0 : Nat} (hA : adOK B0 ad) (σ : Nat → Nat → Int32) (a : Int32) (b : Int32) (c1 : Int32) (cL : ClassId) (f : Nat → Int64) (hO : okS σ) (hE : ∀ E z, ((Sum.inr E, z) : RT) = f6_apex σ a b c1 → ∃ n, (cd2 xOB xIA) E n) : vx_Met l yL_apex wsL_apex { frames := 8, cells := 2, slots := 12, locals := 199 } (va_Pc [.ref (ad (270)), .int a, .int b, .int c1, .ref (B0+290)] (Hw1 D G ad B0 σ cL f)) (va_Qi (fun (r : Int32) (z : ((Nat → Nat → Int32) × (Nat → Int64))) => okS z.1 ∧ ((∃ v, ((Sum.inl v, z.1) : RT) = f6_apex σ a b c1 ∧ r = 0 ∧ z.2 0 = v.toInt64) ∨ (∃ E, ((Sum.inr E, z.1) : RT) = f6_apex σ a b c1 ∧ (cd2 xOB xIA) E r))) (fun z t => Ho D G ad z.1 t ∧ va_P D vwCl [(B0+290, .inl (cL, 1, .inr (.inl z.2)))] t.heap) (AW1 B0)) (vx_X (fun (_ : Unit) => False) (fun _ _ _ => True) (AW1 B0)) 2 12 (AW1 B0) := by
  refine vx_ofWH (cc := cL_apex) (maxL := 6) (ret := (some .int)) (hh := [(0, 12, 15, 13), (0, 12, 19, 15)]) (by decide) rfl ?_
  intro p e s m args below meth c s₁ B hml hv
  obtain ⟨rfl, ⟨⟨hP, hK, hN⟩, hT, hL, adK, adV, hG, hR⟩, hNc, hPo, hKo⟩ := hv
  have hx := B.exec
  have hb := B.bytes
  have hr := B.returns
  have hts := atoms_spec (ws := wsL_apex) B.pre
  have hown : s.vm.findClass RL = some m.cls := findClass_of_methodNamed B.named
  have hlocks := B.notSynchronized
  have htab : c.exceptionTable.toList = tableOf [(0, 12, 15, 13), (0, 12, 19, 15)] := vx_table (x := yL_apex) B (hts _ List.mem_cons_self)
  have hP : va_P D vwCl (pool G ad σ) s.heap := hP
  have hS : va_S (AW1 B0) s.heap s.heap [] := va_S.rf
  have hl := lv_entry ([.ref (ad (270)), .int a, .int b, .int c1, .ref (B0+290)]) (n := 6) (Nat.le_of_ble_eq_true rfl)
  rw [lg_entry_eq]
  generalize (lg_sl ([.ref (ad (270)), .int a, .int b, .int c1, .ref (B0+290)]) ++ List.replicate (6 - (lg_sl ([.ref (ad (270)), .int a, .int b, .int c1, .ref (B0+290)])).length) Slot.unset).toArray = ls at hl ⊢
  have hl : lv_has ls 6 [(0, .ref (ad (270))), (1, .int a), (2, .int b), (3, .int c1), (4, .ref (B0+290))] := hl
  refine lv_aload hx hb dL_apex_0 (lv_at hl 4 rfl) ?_
  refine lv_iconst (v := 0) hx hb dL_apex_2 (by decide) ?_
  refine lv_aload_n hx hb dL_apex_3 rfl (lv_at hl 0 rfl) ?_
  refine lv_iload_n hx hb dL_apex_4 rfl (lv_at hl 1 rfl) ?_
  refine lv_iload_n hx hb dL_apex_5 rfl (lv_at hl 2 rfl) ?_
  refine lv_iload_n hx hb dL_apex_6 rfl (lv_at hl 3 rfl) ?_
  refine vx_calli (vx_runV (As := [.int a, .int b, .int c1]) (rest := [.int 0, .ref (B0+290)]) ⟨hx, hb, hml, hown, hts⟩ (c6_apex l hl0 hA σ a b c1 hO) (cwV 3 hts gL_apex_X6_apex rfl rfl rfl hd_X6_apexV ⟨(Nat.le_of_ble_eq_true rfl), (Nat.le_of_ble_eq_true rfl)⟩) ⟨hx_blind, va_recv hK hP (ci := 8) (q0 := 270) rfl g_270, hx_pre hK hN hT hL hG hR va_S.rf hP⟩ rfl rfl hl.1 rfl (lv_room (Nat.le_of_ble_eq_true rfl)) dL_apex_7 ⟨(Nat.le_of_ble_eq_true rfl), (Nat.le_of_ble_eq_true rfl)⟩) hS (fun q _ h => Or.inl h) (fun q h => Or.inl h) (fun q _ h => Or.inl h) (fun E9 ce9 q9 z9 t9 H locs ht9 hvm9 hw9 hB9 hz9 hk9 hS hce9 hcv9 hcl9 => ?_) (fun v9 σ9 t H locs ht hvm hw9 hB hz1 hk1 hS => ?_)
  · obtain ⟨eqx, okx⟩ := hw9
    obtain ⟨rfl, hBx⟩ := hB9
    have hP := ho_at ht9 hBx
    have hPo := hPo.kept (fun k q hk => hk9 q.1 (vx_lt hPo hk) (wo_out1 hk))
    obtain ⟨n9, hn9⟩ := hE _ _ eqx
    rcases hn9 with ⟨h1, h2⟩ | ⟨h1, h2⟩
    · rw [h1] at hcl9
      refine vx_catch (own := RL) (name := xOB) hown (tableOf []) ⟨0, 12, 15, 13⟩ (tableOf [(0, 12, 19, 15)]) htab (fun z hz => nomatch hz) rfl (by decide) (hts (.classLink RL 13 "java/lang/IndexOutOfBoundsException") (List.mem_of_getElem? (i := 1) rfl)) ((hL.2.1 xOB (by decide)).use rfl) hce9 hcv9 hcl9 ?_
      refine lv_astore (lv' := [(5, .ref q9), (0, .ref (ad (270))), (1, .int a), (2, .int b), (3, .int c1), (4, .ref (B0+290))]) hx hb dL_apex_15 hl (by decide) rfl (fun ls hl => ?_)
      refine lv_iconst (v := 1) hx hb dL_apex_17 (by decide) ?_
      exact vx_ret (W.widen (Nat.le_of_ble_eq_true rfl) (Nat.le_of_ble_eq_true rfl) (W.iret (v := 1) hx hb hr (fun t ht hW => ⟨⟨1, (z9.2, f), rfl, ⟨okx, Or.inr ⟨z9.1, eqx, Or.inl ⟨h1, rfl⟩⟩⟩, ⟨ho_of ht hP, by rw [ht]; exact hPo⟩⟩, hS.F ht⟩) hS.2.2 dL_apex_18))
    · rw [h1] at hcl9
      refine vx_catch (own := RL) (name := xIA) hown (tableOf [(0, 12, 15, 13)]) ⟨0, 12, 19, 15⟩ (tableOf []) htab (fun z hz => by cases List.mem_singleton.mp hz; exact Or.inr ⟨by decide, xOB, (hts (.classLink RL 13 "java/lang/IndexOutOfBoundsException") (List.mem_of_getElem? (i := 1) rfl)), hNc.1⟩) rfl (by decide) (hts (.classLink RL 15 "java/lang/IllegalArgumentException") (List.mem_of_getElem? (i := 2) rfl)) ((hL.2.1 xIA (by decide)).use rfl) hce9 hcv9 hcl9 ?_
      refine lv_astore (lv' := [(5, .ref q9), (0, .ref (ad (270))), (1, .int a), (2, .int b), (3, .int c1), (4, .ref (B0+290))]) hx hb dL_apex_19 hl (by decide) rfl (fun ls hl => ?_)
      refine lv_iconst (v := 2) hx hb dL_apex_21 (by decide) ?_
      exact vx_ret (W.widen (Nat.le_of_ble_eq_true rfl) (Nat.le_of_ble_eq_true rfl) (W.iret (v := 2) hx hb hr (fun t ht hW => ⟨⟨2, (z9.2, f), rfl, ⟨okx, Or.inr ⟨z9.1, eqx, Or.inr (⟨h1, rfl⟩)⟩⟩, ⟨ho_of ht hP, by rw [ht]; exact hPo⟩⟩, hS.F ht⟩) hS.2.2 dL_apex_22))
  · obtain ⟨eq9, ok9⟩ := hw9
    have hP := ho_at ht hB
    have hPo := hPo.kept (fun k q hk => hk1 q.1 (vx_lt hPo hk) (wo_out1 hk))
    refine lv_i2l (v := v9.toInt64) hx hb dL_apex_10 rfl ?_
    refine va_last (tys := [(cL, .long)]) hx hb hKo (va_P.app hP hPo) (wp_D1 hA) hS 290 0 (wp_at (ad := ad) (G := G)) rfl (vp_in_iff.mpr (by decide)) dL_apex_11 (fun H locs hP _ hS => ?_)
    obtain ⟨hP, hPo⟩ := wp_set hP
    refine lv_goto (tgt := 23) hx hb dL_apex_12 (by decide) ?_
    obtain ⟨f9, ef9⟩ : ∃ z, z = vp_updL f (0 : Int32).toNatClampNeg v9.toInt64 := ⟨_, rfl⟩
    rw [← ef9] at hPo
    have hf9 : f9 0 = v9.toInt64 := by rw [ef9]; rfl
    refine lv_iconst (v := 0) hx hb dL_apex_23 (by decide) ?_
    exact vx_ret (W.widen (Nat.le_of_ble_eq_true rfl) (Nat.le_of_ble_eq_true rfl) (W.iret (v := 0) hx hb hr (fun t ht hW => ⟨⟨0, (σ9, f9), rfl, ⟨ok9, Or.inl ⟨v9, eq9, rfl, hf9⟩⟩, ⟨ho_of ht hP, by rw [ht]; exact hPo⟩⟩, hS.F ht⟩) hS.2.2 dL_apex_24))
set_option maxHeartbeats 4000000 in
set_option maxRecDepth 100000 in
theorem cL_statistic_met (l : Launch) (hl0 : l.stackTraces = false) {D : va_G} {G : CY} {ad : Nat → Nat} {B0 : Nat} (hA : adOK B0 ad) (σ : Nat → Nat → Int32) (a : Int32) (b : Int32) (cL : ClassId) (f : Nat → Int64) (hO : okS σ) (hE : ∀ E z, ((Sum.inr E, z) : RT) = f6_statistic σ a b → ∃ n, (cd2 xOB xIA) E n) : vx_Met l yL_statistic wsL_statistic { frames := 8, cells := 3, slots := 18, locals := 139 } (va_Pc [.ref (ad (270)), .int a, .int b, .ref (B0+290)] (Hw1 D G ad B0 σ cL f)) (va_Qi (fun (r : Int32) (z : ((Nat → Nat → Int32) × (Nat → Int64))) => okS z.1 ∧ ((∃ v, ((Sum.inl v, z.1) : RT) = f6_statistic σ a b ∧ r = 0 ∧ z.2 0 = v.toInt64) ∨ (∃ E, ((Sum.inr E, z.1) : RT) = f6_statistic σ a b ∧ (cd2 xOB xIA) E r))) (fun z t => Ho D G ad z.1 t ∧ va_P D vwCl [(B0+290, .inl (cL, 1, .inr (.inl z.2)))] t.heap) (AW1 B0)) (vx_X (fun (_ : Unit) => False) (fun _ _ _ => True) (AW1 B0)) 3 18 (AW1 B0) := by
  refine vx_ofWH (cc := cL_statistic) (maxL := 5) (ret := (some .int)) (hh := [(0, 10, 13, 13), (0, 10, 17, 15)]) (by decide) rfl ?_
  intro p e s m args below meth c s₁ B hml hv
  obtain ⟨rfl, ⟨⟨hP, hK, hN⟩, hT, hL, adK, adV, hG, hR⟩, hNc, hPo, hKo⟩ := hv
  have hx := B.exec
  have hb := B.bytes
  have hr := B.returns
  have hts := atoms_spec (ws := wsL_statistic) B.pre
  have hown : s.vm.findClass RL = some m.cls := findClass_of_methodNamed B.named
  have hlocks := B.notSynchronized
  have htab : c.exceptionTable.toList = tableOf [(0, 10, 13, 13), (0, 10, 17, 15)] := vx_table (x := yL_statistic) B (hts _ List.mem_cons_self)
  have hP : va_P D vwCl (pool G ad σ) s.heap := hP
  have hS : va_S (AW1 B0) s.heap s.heap [] := va_S.rf
  have hl := lv_entry ([.ref (ad (270)), .int a, .int b, .ref (B0+290)]) (n := 5) (Nat.le_of_ble_eq_true rfl)
  rw [lg_entry_eq]
  generalize (lg_sl ([.ref (ad (270)), .int a, .int b, .ref (B0+290)]) ++ List.replicate (5 - (lg_sl ([.ref (ad (270)), .int a, .int b, .ref (B0+290)])).length) Slot.unset).toArray = ls at hl ⊢
  have hl : lv_has ls 5 [(0, .ref (ad (270))), (1, .int a), (2, .int b), (3, .ref (B0+290))] := hl
  refine lv_aload_n hx hb dL_statistic_0 rfl (lv_at hl 3 rfl) ?_
  refine lv_iconst (v := 0) hx hb dL_statistic_1 (by decide) ?_
  refine lv_aload_n hx hb dL_statistic_2 rfl (lv_at hl 0 rfl) ?_
  refine lv_iload_n hx hb dL_statistic_3 rfl (lv_at hl 1 rfl) ?_
  refine lv_iload_n hx hb dL_statistic_4 rfl (lv_at hl 2 rfl) ?_
  refine vx_calli (vx_runV (As := [.int a, .int b]) (rest := [.int 0, .ref (B0+290)]) ⟨hx, hb, hml, hown, hts⟩ (c6_statistic l hl0 hA σ a b hO) (cwV 2 hts gL_statistic_X6_statistic rfl rfl rfl hd_X6_statisticV ⟨(Nat.le_of_ble_eq_true rfl), (Nat.le_of_ble_eq_true rfl)⟩) ⟨hx_blind, va_recv hK hP (ci := 8) (q0 := 270) rfl g_270, hx_pre hK hN hT hL hG hR va_S.rf hP⟩ rfl rfl hl.1 rfl (lv_room (Nat.le_of_ble_eq_true rfl)) dL_statistic_5 ⟨(Nat.le_of_ble_eq_true rfl), (Nat.le_of_ble_eq_true rfl)⟩) hS (fun q _ h => Or.inl h) (fun q h => Or.inl h) (fun q _ h => Or.inl h) (fun E9 ce9 q9 z9 t9 H locs ht9 hvm9 hw9 hB9 hz9 hk9 hS hce9 hcv9 hcl9 => ?_) (fun v9 σ9 t H locs ht hvm hw9 hB hz1 hk1 hS => ?_)
  · obtain ⟨eqx, okx⟩ := hw9
    obtain ⟨rfl, hBx⟩ := hB9
    have hP := ho_at ht9 hBx
    have hPo := hPo.kept (fun k q hk => hk9 q.1 (vx_lt hPo hk) (wo_out1 hk))
    obtain ⟨n9, hn9⟩ := hE _ _ eqx
    rcases hn9 with ⟨h1, h2⟩ | ⟨h1, h2⟩
    · rw [h1] at hcl9
      refine vx_catch (own := RL) (name := xOB) hown (tableOf []) ⟨0, 10, 13, 13⟩ (tableOf [(0, 10, 17, 15)]) htab (fun z hz => nomatch hz) rfl (by decide) (hts (.classLink RL 13 "java/lang/IndexOutOfBoundsException") (List.mem_of_getElem? (i := 1) rfl)) ((hL.2.1 xOB (by decide)).use rfl) hce9 hcv9 hcl9 ?_
      refine lv_astore (lv' := [(4, .ref q9), (0, .ref (ad (270))), (1, .int a), (2, .int b), (3, .ref (B0+290))]) hx hb dL_statistic_13 hl (by decide) rfl (fun ls hl => ?_)
      refine lv_iconst (v := 1) hx hb dL_statistic_15 (by decide) ?_
      exact vx_ret (W.widen (Nat.le_of_ble_eq_true rfl) (Nat.le_of_ble_eq_true rfl) (W.iret (v := 1) hx hb hr (fun t ht hW => ⟨⟨1, (z9.2, f), rfl, ⟨okx, Or.inr ⟨z9.1, eqx, Or.inl ⟨h1, rfl⟩⟩⟩, ⟨ho_of ht hP, by rw [ht]; exact hPo⟩⟩, hS.F ht⟩) hS.2.2 dL_statistic_16))
    · rw [h1] at hcl9
      refine vx_catch (own := RL) (name := xIA) hown (tableOf [(0, 10, 13, 13)]) ⟨0, 10, 17, 15⟩ (tableOf []) htab (fun z hz => by cases List.mem_singleton.mp hz; exact Or.inr ⟨by decide, xOB, (hts (.classLink RL 13 "java/lang/IndexOutOfBoundsException") (List.mem_of_getElem? (i := 1) rfl)), hNc.1⟩) rfl (by decide) (hts (.classLink RL 15 "java/lang/IllegalArgumentException") (List.mem_of_getElem? (i := 2) rfl)) ((hL.2.1 xIA (by decide)).use rfl) hce9 hcv9 hcl9 ?_
      refine lv_astore (lv' := [(4, .ref q9), (0, .ref (ad (270))), (1, .int a), (2, .int b), (3, .ref (B0+290))]) hx hb dL_statistic_17 hl (by decide) rfl (fun ls hl => ?_)
      refine lv_iconst (v := 2) hx hb dL_statistic_19 (by decide) ?_
      exact vx_ret (W.widen (Nat.le_of_ble_eq_true rfl) (Nat.le_of_ble_eq_true rfl) (W.iret (v := 2) hx hb hr (fun t ht hW => ⟨⟨2, (z9.2, f), rfl, ⟨okx, Or.inr ⟨z9.1, eqx, Or.inr (⟨h1, rfl⟩)⟩⟩, ⟨ho_of ht hP, by rw [ht]; exact hPo⟩⟩, hS.F ht⟩) hS.2.2 dL_statistic_20))
  · obtain ⟨eq9, ok9⟩ := hw9
    have hP := ho_at ht hB
    have hPo := hPo.kept (fun k q hk => hk1 q.1 (vx_lt hPo hk) (wo_out1 hk))
    refine lv_i2l (v := v9.toInt64) hx hb dL_statistic_8 rfl ?_
    refine va_last (tys := [(cL, .long)]) hx hb hKo (va_P.app hP hPo) (wp_D1 hA) hS 290 0 (wp_at (ad := ad) (G := G)) rfl (vp_in_iff.mpr (by decide)) dL_statistic_9 (fun H locs hP _ hS => ?_)
    obtain ⟨hP, hPo⟩ := wp_set hP
    refine lv_goto (tgt := 21) hx hb dL_statistic_10 (by decide) ?_
    obtain ⟨f9, ef9⟩ : ∃ z, z = vp_updL f (0 : Int32).toNatClampNeg v9.toInt64 := ⟨_, rfl⟩
    rw [← ef9] at hPo
    have hf9 : f9 0 = v9.toInt64 := by rw [ef9]; rfl
    refine lv_iconst (v := 0) hx hb dL_statistic_21 (by decide) ?_
    exact vx_ret (W.widen (Nat.le_of_ble_eq_true rfl) (Nat.le_of_ble_eq_true rfl) (W.iret (v := 0) hx hb hr (fun t ht hW => ⟨⟨0, (σ9, f9), rfl, ⟨ok9, Or.inl ⟨v9, eq9, rfl, hf9⟩⟩, ⟨ho_of ht hP, by rw [ht]; exact hPo⟩⟩, hS.F ht⟩) hS.2.2 dL_statistic_22))
set_option maxHeartbeats 4000000 in
set_option maxRecDepth 100000 in
theorem cL_meanMoves_met (l : Launch) (hl0 : l.stackTraces = false) {D : va_G} {G : CY} {ad : Nat → Nat} {B0 : Nat} (hA : adOK B0 ad) (σ : Nat → Nat → Int32) (a : Int32) (cL : ClassId) (f : Nat → UInt64) (hO : okS σ) (hE : ∀ E z, ((Sum.inr E, z) : RTF) = f6_meanMoves σ a → ∃ n, (cd2 xOB xAR) E n) (hEf : ∀ v z, ((Sum.inl v, z) : RTF) = f6_meanMoves σ a → v.toNat % 2147483648 ≤ 2139095040) : vx_Met l yL_meanMoves wsL_meanMoves { frames := 8, cells := 2, slots := 12, locals := 139 } (va_Pc [.ref (ad (270)), .int a, .ref (B0+291)] (Hw2 D G ad B0 σ cL f)) (va_Qi (fun (r : Int32) (z : ((Nat → Nat → Int32) × (Nat → UInt64))) => okS z.1 ∧ ((∃ v, ((Sum.inl v, z.1) : RTF) = f6_meanMoves σ a ∧ r = 0 ∧ z.2 0 = FP.f2d v) ∨ (∃ E, ((Sum.inr E, z.1) : RTF) = f6_meanMoves σ a ∧ (cd2 xOB xAR) E r))) (fun z t => Ho D G ad z.1 t ∧ va_P D vwCl [(B0+291, .inl (cL, 1, .inr (.inr (.inr (.inl z.2)))))] t.heap) (AW2 B0)) (vx_X (fun (_ : Unit) => False) (fun _ _ _ => True) (AW2 B0)) 2 12 (AW2 B0) := by
  refine vx_ofWH (cc := cL_meanMoves) (maxL := 4) (ret := (some .int)) (hh := [(0, 9, 12, 13), (0, 9, 15, 107)]) (by decide) rfl ?_
  intro p e s m args below meth c s₁ B hml hv
  obtain ⟨rfl, ⟨⟨hP, hK, hN⟩, hT, hL, adK, adV, hG, hR⟩, hNc, hPo, hKo⟩ := hv
  have hx := B.exec
  have hb := B.bytes
  have hr := B.returns
  have hts := atoms_spec (ws := wsL_meanMoves) B.pre
  have hown : s.vm.findClass RL = some m.cls := findClass_of_methodNamed B.named
  have hlocks := B.notSynchronized
  have htab : c.exceptionTable.toList = tableOf [(0, 9, 12, 13), (0, 9, 15, 107)] := vx_table (x := yL_meanMoves) B (hts _ List.mem_cons_self)
  have hP : va_P D vwCl (pool G ad σ) s.heap := hP
  have hS : va_S (AW2 B0) s.heap s.heap [] := va_S.rf
  have hl := lv_entry ([.ref (ad (270)), .int a, .ref (B0+291)]) (n := 4) (Nat.le_of_ble_eq_true rfl)
  rw [lg_entry_eq]
  generalize (lg_sl ([.ref (ad (270)), .int a, .ref (B0+291)]) ++ List.replicate (4 - (lg_sl ([.ref (ad (270)), .int a, .ref (B0+291)])).length) Slot.unset).toArray = ls at hl ⊢
  have hl : lv_has ls 4 [(0, .ref (ad (270))), (1, .int a), (2, .ref (B0+291))] := hl
  refine lv_aload_n hx hb dL_meanMoves_0 rfl (lv_at hl 2 rfl) ?_
  refine lv_iconst (v := 0) hx hb dL_meanMoves_1 (by decide) ?_
  refine lv_aload_n hx hb dL_meanMoves_2 rfl (lv_at hl 0 rfl) ?_
  refine lv_iload_n hx hb dL_meanMoves_3 rfl (lv_at hl 1 rfl) ?_
  refine vx_callf (vx_runV (As := [.int a]) (rest := [.int 0, .ref (B0+291)]) ⟨hx, hb, hml, hown, hts⟩ (c6_meanMoves l hl0 hA σ a hO) (cwV 1 hts gL_meanMoves_X6_meanMoves rfl rfl rfl hd_X6_meanMovesV ⟨(Nat.le_of_ble_eq_true rfl), (Nat.le_of_ble_eq_true rfl)⟩) ⟨hx_blind, va_recv hK hP (ci := 8) (q0 := 270) rfl g_270, hx_pre hK hN hT hL hG hR va_S.rf hP⟩ rfl rfl hl.1 rfl (lv_room (Nat.le_of_ble_eq_true rfl)) dL_meanMoves_4 ⟨(Nat.le_of_ble_eq_true rfl), (Nat.le_of_ble_eq_true rfl)⟩) hS (fun q _ h => Or.inl h) (fun q h => Or.inl h) (fun q _ h => Or.inl h) (fun E9 ce9 q9 z9 t9 H locs ht9 hvm9 hw9 hB9 hz9 hk9 hS hce9 hcv9 hcl9 => ?_) (fun v9 σ9 t H locs ht hvm hw9 hB hz1 hk1 hS => ?_)
  · obtain ⟨eqx, okx⟩ := hw9
    obtain ⟨rfl, hBx⟩ := hB9
    have hP := ho_at ht9 hBx
    have hPo := hPo.kept (fun k q hk => hk9 q.1 (vx_lt hPo hk) (wo_out2 hk))
    obtain ⟨n9, hn9⟩ := hE _ _ eqx
    rcases hn9 with ⟨h1, h2⟩ | ⟨h1, h2⟩
    · rw [h1] at hcl9
      refine vx_catch (own := RL) (name := xOB) hown (tableOf []) ⟨0, 9, 12, 13⟩ (tableOf [(0, 9, 15, 107)]) htab (fun z hz => nomatch hz) rfl (by decide) (hts (.classLink RL 13 "java/lang/IndexOutOfBoundsException") (List.mem_of_getElem? (i := 1) rfl)) ((hL.2.1 xOB (by decide)).use rfl) hce9 hcv9 hcl9 ?_
      refine lv_astore_n (lv' := [(3, .ref q9), (0, .ref (ad (270))), (1, .int a), (2, .ref (B0+291))]) hx hb dL_meanMoves_12 rfl hl (by decide) rfl (fun ls hl => ?_)
      refine lv_iconst (v := 1) hx hb dL_meanMoves_13 (by decide) ?_
      exact vx_ret (W.widen (Nat.le_of_ble_eq_true rfl) (Nat.le_of_ble_eq_true rfl) (W.iret (v := 1) hx hb hr (fun t ht hW => ⟨⟨1, (z9.2, f), rfl, ⟨okx, Or.inr ⟨z9.1, eqx, Or.inl ⟨h1, rfl⟩⟩⟩, ⟨ho_of ht hP, by rw [ht]; exact hPo⟩⟩, hS.F ht⟩) hS.2.2 dL_meanMoves_14))
    · rw [h1] at hcl9
      refine vx_catch (own := RL) (name := xAR) hown (tableOf [(0, 9, 12, 13)]) ⟨0, 9, 15, 107⟩ (tableOf []) htab (fun z hz => by cases List.mem_singleton.mp hz; exact Or.inr ⟨by decide, xOB, (hts (.classLink RL 13 "java/lang/IndexOutOfBoundsException") (List.mem_of_getElem? (i := 1) rfl)), hNc.2.2.2.2.2.1⟩) rfl (by decide) (hts (.classLink RL 107 "java/lang/ArithmeticException") (List.mem_of_getElem? (i := 2) rfl)) ((hL.2.1 xAR (by decide)).use rfl) hce9 hcv9 hcl9 ?_
      refine lv_astore_n (lv' := [(3, .ref q9), (0, .ref (ad (270))), (1, .int a), (2, .ref (B0+291))]) hx hb dL_meanMoves_15 rfl hl (by decide) rfl (fun ls hl => ?_)
      refine lv_iconst (v := 2) hx hb dL_meanMoves_16 (by decide) ?_
      exact vx_ret (W.widen (Nat.le_of_ble_eq_true rfl) (Nat.le_of_ble_eq_true rfl) (W.iret (v := 2) hx hb hr (fun t ht hW => ⟨⟨2, (z9.2, f), rfl, ⟨okx, Or.inr ⟨z9.1, eqx, Or.inr (⟨h1, rfl⟩)⟩⟩, ⟨ho_of ht hP, by rw [ht]; exact hPo⟩⟩, hS.F ht⟩) hS.2.2 dL_meanMoves_17))
  · obtain ⟨eq9, ok9⟩ := hw9
    have hP := ho_at ht hB
    have hPo := hPo.kept (fun k q hk => hk1 q.1 (vx_lt hPo hk) (wo_out2 hk))
    refine lv_f2d hx hb dL_meanMoves_7 (fl_vn64 (fl_f2d (hEf _ _ eq9))) ?_
    refine va_dast (tys := [(cL, .double)]) hx hb hKo (va_P.app hP hPo) (wp_D2 hA) hS 290 0 (wp_at (ad := ad) (G := G)) rfl (vp_in_iff.mpr (by decide)) dL_meanMoves_8 (fun H locs hP _ hS => ?_)
    obtain ⟨hP, hPo⟩ := wp_set hP
    refine lv_goto (tgt := 18) hx hb dL_meanMoves_9 (by decide) ?_
    obtain ⟨f9, ef9⟩ : ∃ z, z = vf_upd f (0 : Int32).toNatClampNeg (FP.f2d v9) := ⟨_, rfl⟩
    rw [← ef9] at hPo
    have hf9 : f9 0 = FP.f2d v9 := by rw [ef9]; rfl
    refine lv_iconst (v := 0) hx hb dL_meanMoves_18 (by decide) ?_
    exact vx_ret (W.widen (Nat.le_of_ble_eq_true rfl) (Nat.le_of_ble_eq_true rfl) (W.iret (v := 0) hx hb hr (fun t ht hW => ⟨⟨0, (σ9, f9), rfl, ⟨ok9, Or.inl ⟨v9, eq9, rfl, hf9⟩⟩, ⟨ho_of ht hP, by rw [ht]; exact hPo⟩⟩, hS.F ht⟩) hS.2.2 dL_meanMoves_19))
set_option maxHeartbeats 4000000 in
set_option maxRecDepth 100000 in
theorem cL_append_met (l : Launch) (hl0 : l.stackTraces = false) {D : va_G} {G : CY} {ad : Nat → Nat} {B0 : Nat} (hA : adOK B0 ad) (σ : Nat → Nat → Int32) (a : Int32) (hO : okS σ) (hE : ∀ E z, ((Sum.inr E, z) : RT) = f6_append σ a → ∃ n, (cd1 xIS) E n) : vx_Met l yL_append wsL_append { frames := 7, cells := 1, slots := 6, locals := 117 } (va_Pc [.ref (ad (270)), .int a] (Hw0 D G ad B0 σ)) (va_Qi (fun (r : Int32) (z : (Nat → Nat → Int32)) => okS z ∧ ((∃ v, ((Sum.inl v, z) : RT) = f6_append σ a ∧ r = 0) ∨ (∃ E, ((Sum.inr E, z) : RT) = f6_append σ a ∧ (cd1 xIS) E r))) (fun z t => Ho D G ad z t) (AA B0)) (vx_X (fun (_ : Unit) => False) (fun _ _ _ => True) (AA B0)) 1 6 (AA B0) := by
  refine vx_ofWH (cc := cL_append) (maxL := 3) (ret := (some .int)) (hh := [(0, 5, 8, 17)]) (by decide) rfl ?_
  intro p e s m args below meth c s₁ B hml hv
  obtain ⟨rfl, ⟨⟨hP, hK, hN⟩, hT, hL, adK, adV, hG, hR⟩, hNc⟩ := hv
  have hx := B.exec
  have hb := B.bytes
  have hr := B.returns
  have hts := atoms_spec (ws := wsL_append) B.pre
  have hown : s.vm.findClass RL = some m.cls := findClass_of_methodNamed B.named
  have hlocks := B.notSynchronized
  have htab : c.exceptionTable.toList = tableOf [(0, 5, 8, 17)] := vx_table (x := yL_append) B (hts _ List.mem_cons_self)
  have hP : va_P D vwCl (pool G ad σ) s.heap := hP
  have hS : va_S (AA B0) s.heap s.heap [] := va_S.rf
  have hl := lv_entry ([.ref (ad (270)), .int a]) (n := 3) (Nat.le_of_ble_eq_true rfl)
  rw [lg_entry_eq]
  generalize (lg_sl ([.ref (ad (270)), .int a]) ++ List.replicate (3 - (lg_sl ([.ref (ad (270)), .int a])).length) Slot.unset).toArray = ls at hl ⊢
  have hl : lv_has ls 3 [(0, .ref (ad (270))), (1, .int a)] := hl
  refine lv_aload_n hx hb dL_append_0 rfl (lv_at hl 0 rfl) ?_
  refine lv_iload_n hx hb dL_append_1 rfl (lv_at hl 1 rfl) ?_
  refine vx_callv (vx_runV (As := [.int a]) (rest := []) ⟨hx, hb, hml, hown, hts⟩ (c6_append l hl0 hA σ a hO) (cwV 1 hts gL_append_X6_append rfl rfl rfl hd_X6_appendV ⟨(Nat.le_of_ble_eq_true rfl), (Nat.le_of_ble_eq_true rfl)⟩) ⟨hx_blind, va_recv hK hP (ci := 8) (q0 := 270) rfl g_270, hx_pre hK hN hT hL hG hR va_S.rf hP⟩ rfl rfl hl.1 rfl (lv_room (Nat.le_of_ble_eq_true rfl)) dL_append_2 ⟨(Nat.le_of_ble_eq_true rfl), (Nat.le_of_ble_eq_true rfl)⟩) hS (fun q _ h => h) (fun _ h => h) (fun q _ h => h) (fun E9 ce9 q9 z9 t9 H locs ht9 hvm9 hw9 hB9 hz9 hk9 hS hce9 hcv9 hcl9 => ?_) (fun σ9 t H locs ht hvm hw9 hB hz1 hk1 hS => ?_)
  · obtain ⟨eqx, okx⟩ := hw9
    obtain ⟨rfl, hBx⟩ := hB9
    have hP := ho_at ht9 hBx
    obtain ⟨n9, hn9⟩ := hE _ _ eqx
    obtain ⟨h1, h2⟩ := hn9
    rw [h1] at hcl9
    refine vx_catch (own := RL) (name := xIS) hown (tableOf []) ⟨0, 5, 8, 17⟩ (tableOf []) htab (fun z hz => nomatch hz) rfl (by decide) (hts (.classLink RL 17 "java/lang/IllegalStateException") (List.mem_of_getElem? (i := 1) rfl)) ((hL.2.1 xIS (by decide)).use rfl) hce9 hcv9 hcl9 ?_
    refine lv_astore_n (lv' := [(2, .ref q9), (0, .ref (ad (270))), (1, .int a)]) hx hb dL_append_8 rfl hl (by decide) rfl (fun ls hl => ?_)
    refine lv_iconst (v := 1) hx hb dL_append_9 (by decide) ?_
    exact vx_ret (W.widen (Nat.le_of_ble_eq_true rfl) (Nat.le_of_ble_eq_true rfl) (W.iret (v := 1) hx hb hr (fun t ht hW => ⟨⟨1, z9.2, rfl, ⟨okx, Or.inr ⟨z9.1, eqx, ⟨h1, rfl⟩⟩⟩, ho_of ht hP⟩, hS.F ht⟩) hS.2.2 dL_append_10))
  · obtain ⟨eq9, ok9⟩ := hw9
    have hP := ho_at ht hB
    refine lv_goto (tgt := 11) hx hb dL_append_5 (by decide) ?_
    obtain ⟨v9, ev9⟩ : ∃ z : Int32, z = 0 := ⟨_, rfl⟩
    rw [← ev9] at eq9
    refine lv_iconst (v := 0) hx hb dL_append_11 (by decide) ?_
    exact vx_ret (W.widen (Nat.le_of_ble_eq_true rfl) (Nat.le_of_ble_eq_true rfl) (W.iret (v := 0) hx hb hr (fun t ht hW => ⟨⟨0, σ9, rfl, ⟨ok9, Or.inl ⟨v9, eq9, rfl⟩⟩, ho_of ht hP⟩, hS.F ht⟩) hS.2.2 dL_append_12))
set_option maxHeartbeats 4000000 in
set_option maxRecDepth 100000 in
theorem cL_readTiles_met (l : Launch) (hl0 : l.stackTraces = false) {D : va_G} {G : CY} {ad : Nat → Nat} {B0 : Nat} (hA : adOK B0 ad) (σ : Nat → Nat → Int32) (a : Int32) (b : Int32) (cL : ClassId) (f : Nat → Int64) (hO : okS σ) (hE : ∀ E z, ((Sum.inr E, z) : RT) = f6_readTiles σ a b → ∃ n, (cd3 xOB xIA xIS) E n) : vx_Met l yL_readTiles wsL_readTiles { frames := 8, cells := 3, slots := 18, locals := 174 } (va_Pc [.ref (ad (270)), .int a, .int b, .ref (B0+290)] (Hw1 D G ad B0 σ cL f)) (va_Qi (fun (r : Int32) (z : ((Nat → Nat → Int32) × (Nat → Int64))) => okS z.1 ∧ ((∃ v, ((Sum.inl v, z.1) : RT) = f6_readTiles σ a b ∧ r = 0 ∧ z.2 0 = v.toInt64) ∨ (∃ E, ((Sum.inr E, z.1) : RT) = f6_readTiles σ a b ∧ (cd3 xOB xIA xIS) E r))) (fun z t => Ho D G ad z.1 t ∧ va_P D vwCl [(B0+290, .inl (cL, 1, .inr (.inl z.2)))] t.heap) (AW1 B0)) (vx_X (fun (_ : Unit) => False) (fun _ _ _ => True) (AW1 B0)) 3 18 (AW1 B0) := by
  refine vx_ofWH (cc := cL_readTiles) (maxL := 5) (ret := (some .int)) (hh := [(0, 10, 13, 13), (0, 10, 17, 15), (0, 10, 21, 17)]) (by decide) rfl ?_
  intro p e s m args below meth c s₁ B hml hv
  obtain ⟨rfl, ⟨⟨hP, hK, hN⟩, hT, hL, adK, adV, hG, hR⟩, hNc, hPo, hKo⟩ := hv
  have hx := B.exec
  have hb := B.bytes
  have hr := B.returns
  have hts := atoms_spec (ws := wsL_readTiles) B.pre
  have hown : s.vm.findClass RL = some m.cls := findClass_of_methodNamed B.named
  have hlocks := B.notSynchronized
  have htab : c.exceptionTable.toList = tableOf [(0, 10, 13, 13), (0, 10, 17, 15), (0, 10, 21, 17)] := vx_table (x := yL_readTiles) B (hts _ List.mem_cons_self)
  have hP : va_P D vwCl (pool G ad σ) s.heap := hP
  have hS : va_S (AW1 B0) s.heap s.heap [] := va_S.rf
  have hl := lv_entry ([.ref (ad (270)), .int a, .int b, .ref (B0+290)]) (n := 5) (Nat.le_of_ble_eq_true rfl)
  rw [lg_entry_eq]
  generalize (lg_sl ([.ref (ad (270)), .int a, .int b, .ref (B0+290)]) ++ List.replicate (5 - (lg_sl ([.ref (ad (270)), .int a, .int b, .ref (B0+290)])).length) Slot.unset).toArray = ls at hl ⊢
  have hl : lv_has ls 5 [(0, .ref (ad (270))), (1, .int a), (2, .int b), (3, .ref (B0+290))] := hl
  refine lv_aload_n hx hb dL_readTiles_0 rfl (lv_at hl 3 rfl) ?_
  refine lv_iconst (v := 0) hx hb dL_readTiles_1 (by decide) ?_
  refine lv_aload_n hx hb dL_readTiles_2 rfl (lv_at hl 0 rfl) ?_
  refine lv_iload_n hx hb dL_readTiles_3 rfl (lv_at hl 1 rfl) ?_
  refine lv_iload_n hx hb dL_readTiles_4 rfl (lv_at hl 2 rfl) ?_
  refine vx_calli (vx_runV (As := [.int a, .int b]) (rest := [.int 0, .ref (B0+290)]) ⟨hx, hb, hml, hown, hts⟩ (c6_readTiles l hl0 hA σ a b hO) (cwV 2 hts gL_readTiles_X6_readTiles rfl rfl rfl hd_X6_readTilesV ⟨(Nat.le_of_ble_eq_true rfl), (Nat.le_of_ble_eq_true rfl)⟩) ⟨hx_blind, va_recv hK hP (ci := 8) (q0 := 270) rfl g_270, hx_pre hK hN hT hL hG hR va_S.rf hP⟩ rfl rfl hl.1 rfl (lv_room (Nat.le_of_ble_eq_true rfl)) dL_readTiles_5 ⟨(Nat.le_of_ble_eq_true rfl), (Nat.le_of_ble_eq_true rfl)⟩) hS (fun q _ h => Or.inl h) (fun q h => Or.inl h) (fun q _ h => Or.inl h) (fun E9 ce9 q9 z9 t9 H locs ht9 hvm9 hw9 hB9 hz9 hk9 hS hce9 hcv9 hcl9 => ?_) (fun v9 σ9 t H locs ht hvm hw9 hB hz1 hk1 hS => ?_)
  · obtain ⟨eqx, okx⟩ := hw9
    obtain ⟨rfl, hBx⟩ := hB9
    have hP := ho_at ht9 hBx
    have hPo := hPo.kept (fun k q hk => hk9 q.1 (vx_lt hPo hk) (wo_out1 hk))
    obtain ⟨n9, hn9⟩ := hE _ _ eqx
    rcases hn9 with ⟨h1, h2⟩ | ⟨h1, h2⟩ | ⟨h1, h2⟩
    · rw [h1] at hcl9
      refine vx_catch (own := RL) (name := xOB) hown (tableOf []) ⟨0, 10, 13, 13⟩ (tableOf [(0, 10, 17, 15), (0, 10, 21, 17)]) htab (fun z hz => nomatch hz) rfl (by decide) (hts (.classLink RL 13 "java/lang/IndexOutOfBoundsException") (List.mem_of_getElem? (i := 1) rfl)) ((hL.2.1 xOB (by decide)).use rfl) hce9 hcv9 hcl9 ?_
      refine lv_astore (lv' := [(4, .ref q9), (0, .ref (ad (270))), (1, .int a), (2, .int b), (3, .ref (B0+290))]) hx hb dL_readTiles_13 hl (by decide) rfl (fun ls hl => ?_)
      refine lv_iconst (v := 1) hx hb dL_readTiles_15 (by decide) ?_
      exact vx_ret (W.widen (Nat.le_of_ble_eq_true rfl) (Nat.le_of_ble_eq_true rfl) (W.iret (v := 1) hx hb hr (fun t ht hW => ⟨⟨1, (z9.2, f), rfl, ⟨okx, Or.inr ⟨z9.1, eqx, Or.inl ⟨h1, rfl⟩⟩⟩, ⟨ho_of ht hP, by rw [ht]; exact hPo⟩⟩, hS.F ht⟩) hS.2.2 dL_readTiles_16))
    · rw [h1] at hcl9
      refine vx_catch (own := RL) (name := xIA) hown (tableOf [(0, 10, 13, 13)]) ⟨0, 10, 17, 15⟩ (tableOf [(0, 10, 21, 17)]) htab (fun z hz => by cases List.mem_singleton.mp hz; exact Or.inr ⟨by decide, xOB, (hts (.classLink RL 13 "java/lang/IndexOutOfBoundsException") (List.mem_of_getElem? (i := 1) rfl)), hNc.1⟩) rfl (by decide) (hts (.classLink RL 15 "java/lang/IllegalArgumentException") (List.mem_of_getElem? (i := 2) rfl)) ((hL.2.1 xIA (by decide)).use rfl) hce9 hcv9 hcl9 ?_
      refine lv_astore (lv' := [(4, .ref q9), (0, .ref (ad (270))), (1, .int a), (2, .int b), (3, .ref (B0+290))]) hx hb dL_readTiles_17 hl (by decide) rfl (fun ls hl => ?_)
      refine lv_iconst (v := 2) hx hb dL_readTiles_19 (by decide) ?_
      exact vx_ret (W.widen (Nat.le_of_ble_eq_true rfl) (Nat.le_of_ble_eq_true rfl) (W.iret (v := 2) hx hb hr (fun t ht hW => ⟨⟨2, (z9.2, f), rfl, ⟨okx, Or.inr ⟨z9.1, eqx, Or.inr (Or.inl ⟨h1, rfl⟩)⟩⟩, ⟨ho_of ht hP, by rw [ht]; exact hPo⟩⟩, hS.F ht⟩) hS.2.2 dL_readTiles_20))
    · rw [h1] at hcl9
      refine vx_catch (own := RL) (name := xIS) hown (tableOf [(0, 10, 13, 13), (0, 10, 17, 15)]) ⟨0, 10, 21, 17⟩ (tableOf []) htab (fun z hz => by rcases List.mem_cons.mp hz with rfl | hz; exact Or.inr ⟨by decide, xOB, (hts (.classLink RL 13 "java/lang/IndexOutOfBoundsException") (List.mem_of_getElem? (i := 1) rfl)), hNc.2.1⟩; cases List.mem_singleton.mp hz; exact Or.inr ⟨by decide, xIA, (hts (.classLink RL 15 "java/lang/IllegalArgumentException") (List.mem_of_getElem? (i := 2) rfl)), hNc.2.2.1⟩) rfl (by decide) (hts (.classLink RL 17 "java/lang/IllegalStateException") (List.mem_of_getElem? (i := 3) rfl)) ((hL.2.1 xIS (by decide)).use rfl) hce9 hcv9 hcl9 ?_
      refine lv_astore (lv' := [(4, .ref q9), (0, .ref (ad (270))), (1, .int a), (2, .int b), (3, .ref (B0+290))]) hx hb dL_readTiles_21 hl (by decide) rfl (fun ls hl => ?_)
      refine lv_iconst (v := 3) hx hb dL_readTiles_23 (by decide) ?_
      exact vx_ret (W.widen (Nat.le_of_ble_eq_true rfl) (Nat.le_of_ble_eq_true rfl) (W.iret (v := 3) hx hb hr (fun t ht hW => ⟨⟨3, (z9.2, f), rfl, ⟨okx, Or.inr ⟨z9.1, eqx, Or.inr (Or.inr (⟨h1, rfl⟩))⟩⟩, ⟨ho_of ht hP, by rw [ht]; exact hPo⟩⟩, hS.F ht⟩) hS.2.2 dL_readTiles_24))
  · obtain ⟨eq9, ok9⟩ := hw9
    have hP := ho_at ht hB
    have hPo := hPo.kept (fun k q hk => hk1 q.1 (vx_lt hPo hk) (wo_out1 hk))
    refine lv_i2l (v := v9.toInt64) hx hb dL_readTiles_8 rfl ?_
    refine va_last (tys := [(cL, .long)]) hx hb hKo (va_P.app hP hPo) (wp_D1 hA) hS 290 0 (wp_at (ad := ad) (G := G)) rfl (vp_in_iff.mpr (by decide)) dL_readTiles_9 (fun H locs hP _ hS => ?_)
    obtain ⟨hP, hPo⟩ := wp_set hP
    refine lv_goto (tgt := 25) hx hb dL_readTiles_10 (by decide) ?_
    obtain ⟨f9, ef9⟩ : ∃ z, z = vp_updL f (0 : Int32).toNatClampNeg v9.toInt64 := ⟨_, rfl⟩
    rw [← ef9] at hPo
    have hf9 : f9 0 = v9.toInt64 := by rw [ef9]; rfl
    refine lv_iconst (v := 0) hx hb dL_readTiles_25 (by decide) ?_
    exact vx_ret (W.widen (Nat.le_of_ble_eq_true rfl) (Nat.le_of_ble_eq_true rfl) (W.iret (v := 0) hx hb hr (fun t ht hW => ⟨⟨0, (σ9, f9), rfl, ⟨ok9, Or.inl ⟨v9, eq9, rfl, hf9⟩⟩, ⟨ho_of ht hP, by rw [ht]; exact hPo⟩⟩, hS.F ht⟩) hS.2.2 dL_readTiles_26))
set_option maxHeartbeats 4000000 in
set_option maxRecDepth 100000 in
theorem cL_play_met (l : Launch) (hl0 : l.stackTraces = false) {D : va_G} {G : CY} {ad : Nat → Nat} {B0 : Nat} (hA : adOK B0 ad) (σ : Nat → Nat → Int32) (a : Int32) (cL : ClassId) (f : Nat → Int64) (hO : okS σ) (hE : ∀ E z, ((Sum.inr E, z) : RT) = f6_play σ a → ∃ n, (cd3 xOB xIA xUO) E n) : vx_Met l yL_play wsL_play { frames := 8, cells := 3, slots := 18, locals := 198 } (va_Pc [.ref (ad (270)), .int a, .ref (B0+290)] (Hw1 D G ad B0 σ cL f)) (va_Qi (fun (r : Int32) (z : ((Nat → Nat → Int32) × (Nat → Int64))) => okS z.1 ∧ ((∃ v, ((Sum.inl v, z.1) : RT) = f6_play σ a ∧ r = 0 ∧ z.2 0 = v.toInt64) ∨ (∃ E, ((Sum.inr E, z.1) : RT) = f6_play σ a ∧ (cd3 xOB xIA xUO) E r))) (fun z t => Ho D G ad z.1 t ∧ va_P D vwCl [(B0+290, .inl (cL, 1, .inr (.inl z.2)))] t.heap) (AW1 B0)) (vx_X (fun (_ : Unit) => False) (fun _ _ _ => True) (AW1 B0)) 3 18 (AW1 B0) := by
  refine vx_ofWH (cc := cL_play) (maxL := 4) (ret := (some .int)) (hh := [(0, 9, 12, 13), (0, 9, 15, 15), (0, 9, 18, 119)]) (by decide) rfl ?_
  intro p e s m args below meth c s₁ B hml hv
  obtain ⟨rfl, ⟨⟨hP, hK, hN⟩, hT, hL, adK, adV, hG, hR⟩, hNc, hPo, hKo⟩ := hv
  have hx := B.exec
  have hb := B.bytes
  have hr := B.returns
  have hts := atoms_spec (ws := wsL_play) B.pre
  have hown : s.vm.findClass RL = some m.cls := findClass_of_methodNamed B.named
  have hlocks := B.notSynchronized
  have htab : c.exceptionTable.toList = tableOf [(0, 9, 12, 13), (0, 9, 15, 15), (0, 9, 18, 119)] := vx_table (x := yL_play) B (hts _ List.mem_cons_self)
  have hP : va_P D vwCl (pool G ad σ) s.heap := hP
  have hS : va_S (AW1 B0) s.heap s.heap [] := va_S.rf
  have hl := lv_entry ([.ref (ad (270)), .int a, .ref (B0+290)]) (n := 4) (Nat.le_of_ble_eq_true rfl)
  rw [lg_entry_eq]
  generalize (lg_sl ([.ref (ad (270)), .int a, .ref (B0+290)]) ++ List.replicate (4 - (lg_sl ([.ref (ad (270)), .int a, .ref (B0+290)])).length) Slot.unset).toArray = ls at hl ⊢
  have hl : lv_has ls 4 [(0, .ref (ad (270))), (1, .int a), (2, .ref (B0+290))] := hl
  refine lv_aload_n hx hb dL_play_0 rfl (lv_at hl 2 rfl) ?_
  refine lv_iconst (v := 0) hx hb dL_play_1 (by decide) ?_
  refine lv_aload_n hx hb dL_play_2 rfl (lv_at hl 0 rfl) ?_
  refine lv_iload_n hx hb dL_play_3 rfl (lv_at hl 1 rfl) ?_
  refine vx_calli (vx_runV (As := [.int a]) (rest := [.int 0, .ref (B0+290)]) ⟨hx, hb, hml, hown, hts⟩ (c6_play l hl0 hA σ a hO) (cwV 1 hts gL_play_X6_play rfl rfl rfl hd_X6_playV ⟨(Nat.le_of_ble_eq_true rfl), (Nat.le_of_ble_eq_true rfl)⟩) ⟨hx_blind, va_recv hK hP (ci := 8) (q0 := 270) rfl g_270, hx_pre hK hN hT hL hG hR va_S.rf hP⟩ rfl rfl hl.1 rfl (lv_room (Nat.le_of_ble_eq_true rfl)) dL_play_4 ⟨(Nat.le_of_ble_eq_true rfl), (Nat.le_of_ble_eq_true rfl)⟩) hS (fun q _ h => Or.inl h) (fun q h => Or.inl h) (fun q _ h => Or.inl h) (fun E9 ce9 q9 z9 t9 H locs ht9 hvm9 hw9 hB9 hz9 hk9 hS hce9 hcv9 hcl9 => ?_) (fun v9 σ9 t H locs ht hvm hw9 hB hz1 hk1 hS => ?_)
  · obtain ⟨eqx, okx⟩ := hw9
    obtain ⟨rfl, hBx⟩ := hB9
    have hP := ho_at ht9 hBx
    have hPo := hPo.kept (fun k q hk => hk9 q.1 (vx_lt hPo hk) (wo_out1 hk))
    obtain ⟨n9, hn9⟩ := hE _ _ eqx
    rcases hn9 with ⟨h1, h2⟩ | ⟨h1, h2⟩ | ⟨h1, h2⟩
    · rw [h1] at hcl9
      refine vx_catch (own := RL) (name := xOB) hown (tableOf []) ⟨0, 9, 12, 13⟩ (tableOf [(0, 9, 15, 15), (0, 9, 18, 119)]) htab (fun z hz => nomatch hz) rfl (by decide) (hts (.classLink RL 13 "java/lang/IndexOutOfBoundsException") (List.mem_of_getElem? (i := 1) rfl)) ((hL.2.1 xOB (by decide)).use rfl) hce9 hcv9 hcl9 ?_
      refine lv_astore_n (lv' := [(3, .ref q9), (0, .ref (ad (270))), (1, .int a), (2, .ref (B0+290))]) hx hb dL_play_12 rfl hl (by decide) rfl (fun ls hl => ?_)
      refine lv_iconst (v := 1) hx hb dL_play_13 (by decide) ?_
      exact vx_ret (W.widen (Nat.le_of_ble_eq_true rfl) (Nat.le_of_ble_eq_true rfl) (W.iret (v := 1) hx hb hr (fun t ht hW => ⟨⟨1, (z9.2, f), rfl, ⟨okx, Or.inr ⟨z9.1, eqx, Or.inl ⟨h1, rfl⟩⟩⟩, ⟨ho_of ht hP, by rw [ht]; exact hPo⟩⟩, hS.F ht⟩) hS.2.2 dL_play_14))
    · rw [h1] at hcl9
      refine vx_catch (own := RL) (name := xIA) hown (tableOf [(0, 9, 12, 13)]) ⟨0, 9, 15, 15⟩ (tableOf [(0, 9, 18, 119)]) htab (fun z hz => by cases List.mem_singleton.mp hz; exact Or.inr ⟨by decide, xOB, (hts (.classLink RL 13 "java/lang/IndexOutOfBoundsException") (List.mem_of_getElem? (i := 1) rfl)), hNc.1⟩) rfl (by decide) (hts (.classLink RL 15 "java/lang/IllegalArgumentException") (List.mem_of_getElem? (i := 2) rfl)) ((hL.2.1 xIA (by decide)).use rfl) hce9 hcv9 hcl9 ?_
      refine lv_astore_n (lv' := [(3, .ref q9), (0, .ref (ad (270))), (1, .int a), (2, .ref (B0+290))]) hx hb dL_play_15 rfl hl (by decide) rfl (fun ls hl => ?_)
      refine lv_iconst (v := 2) hx hb dL_play_16 (by decide) ?_
      exact vx_ret (W.widen (Nat.le_of_ble_eq_true rfl) (Nat.le_of_ble_eq_true rfl) (W.iret (v := 2) hx hb hr (fun t ht hW => ⟨⟨2, (z9.2, f), rfl, ⟨okx, Or.inr ⟨z9.1, eqx, Or.inr (Or.inl ⟨h1, rfl⟩)⟩⟩, ⟨ho_of ht hP, by rw [ht]; exact hPo⟩⟩, hS.F ht⟩) hS.2.2 dL_play_17))
    · rw [h1] at hcl9
      refine vx_catch (own := RL) (name := xUO) hown (tableOf [(0, 9, 12, 13), (0, 9, 15, 15)]) ⟨0, 9, 18, 119⟩ (tableOf []) htab (fun z hz => by rcases List.mem_cons.mp hz with rfl | hz; exact Or.inr ⟨by decide, xOB, (hts (.classLink RL 13 "java/lang/IndexOutOfBoundsException") (List.mem_of_getElem? (i := 1) rfl)), hNc.2.2.2.2.2.2.1⟩; cases List.mem_singleton.mp hz; exact Or.inr ⟨by decide, xIA, (hts (.classLink RL 15 "java/lang/IllegalArgumentException") (List.mem_of_getElem? (i := 2) rfl)), hNc.2.2.2.2.2.2.2⟩) rfl (by decide) (hts (.classLink RL 119 "java/lang/UnsupportedOperationException") (List.mem_of_getElem? (i := 3) rfl)) ((hL.2.1 xUO (by decide)).use rfl) hce9 hcv9 hcl9 ?_
      refine lv_astore_n (lv' := [(3, .ref q9), (0, .ref (ad (270))), (1, .int a), (2, .ref (B0+290))]) hx hb dL_play_18 rfl hl (by decide) rfl (fun ls hl => ?_)
      refine lv_iconst (v := 3) hx hb dL_play_19 (by decide) ?_
      exact vx_ret (W.widen (Nat.le_of_ble_eq_true rfl) (Nat.le_of_ble_eq_true rfl) (W.iret (v := 3) hx hb hr (fun t ht hW => ⟨⟨3, (z9.2, f), rfl, ⟨okx, Or.inr ⟨z9.1, eqx, Or.inr (Or.inr (⟨h1, rfl⟩))⟩⟩, ⟨ho_of ht hP, by rw [ht]; exact hPo⟩⟩, hS.F ht⟩) hS.2.2 dL_play_20))
  · obtain ⟨eq9, ok9⟩ := hw9
    have hP := ho_at ht hB
    have hPo := hPo.kept (fun k q hk => hk1 q.1 (vx_lt hPo hk) (wo_out1 hk))
    refine lv_i2l (v := v9.toInt64) hx hb dL_play_7 rfl ?_
    refine va_last (tys := [(cL, .long)]) hx hb hKo (va_P.app hP hPo) (wp_D1 hA) hS 290 0 (wp_at (ad := ad) (G := G)) rfl (vp_in_iff.mpr (by decide)) dL_play_8 (fun H locs hP _ hS => ?_)
    obtain ⟨hP, hPo⟩ := wp_set hP
    refine lv_goto (tgt := 21) hx hb dL_play_9 (by decide) ?_
    obtain ⟨f9, ef9⟩ : ∃ z, z = vp_updL f (0 : Int32).toNatClampNeg v9.toInt64 := ⟨_, rfl⟩
    rw [← ef9] at hPo
    have hf9 : f9 0 = v9.toInt64 := by rw [ef9]; rfl
    refine lv_iconst (v := 0) hx hb dL_play_21 (by decide) ?_
    exact vx_ret (W.widen (Nat.le_of_ble_eq_true rfl) (Nat.le_of_ble_eq_true rfl) (W.iret (v := 0) hx hb hr (fun t ht hW => ⟨⟨0, (σ9, f9), rfl, ⟨ok9, Or.inl ⟨v9, eq9, rfl, hf9⟩⟩, ⟨ho_of ht hP, by rw [ht]; exact hPo⟩⟩, hS.F ht⟩) hS.2.2 dL_play_22))
set_option maxHeartbeats 4000000 in
set_option maxRecDepth 100000 in
theorem cL_restore_met (l : Launch) (hl0 : l.stackTraces = false) {D : va_G} {G : CY} {ad : Nat → Nat} {B0 : Nat} (hA : adOK B0 ad) (σ : Nat → Nat → Int32)  (hO : okS σ) (hE : ∀ E z, ((Sum.inr E, z) : RT) = f6_restore σ → ∃ n, (cd1 xIS) E n) : vx_Met l yL_restore wsL_restore { frames := 7, cells := 1, slots := 6, locals := 123 } (va_Pc [.ref (ad (270))] (Hw0 D G ad B0 σ)) (va_Qi (fun (r : Int32) (z : (Nat → Nat → Int32)) => okS z ∧ ((∃ v, ((Sum.inl v, z) : RT) = f6_restore σ ∧ r = 0) ∨ (∃ E, ((Sum.inr E, z) : RT) = f6_restore σ ∧ (cd1 xIS) E r))) (fun z t => Ho D G ad z t) (AA B0)) (vx_X (fun (_ : Unit) => False) (fun _ _ _ => True) (AA B0)) 1 6 (AA B0) := by
  refine vx_ofWH (cc := cL_restore) (maxL := 2) (ret := (some .int)) (hh := [(0, 4, 7, 17)]) (by decide) rfl ?_
  intro p e s m args below meth c s₁ B hml hv
  obtain ⟨rfl, ⟨⟨hP, hK, hN⟩, hT, hL, adK, adV, hG, hR⟩, hNc⟩ := hv
  have hx := B.exec
  have hb := B.bytes
  have hr := B.returns
  have hts := atoms_spec (ws := wsL_restore) B.pre
  have hown : s.vm.findClass RL = some m.cls := findClass_of_methodNamed B.named
  have hlocks := B.notSynchronized
  have htab : c.exceptionTable.toList = tableOf [(0, 4, 7, 17)] := vx_table (x := yL_restore) B (hts _ List.mem_cons_self)
  have hP : va_P D vwCl (pool G ad σ) s.heap := hP
  have hS : va_S (AA B0) s.heap s.heap [] := va_S.rf
  have hl := lv_entry ([.ref (ad (270))]) (n := 2) (Nat.le_of_ble_eq_true rfl)
  rw [lg_entry_eq]
  generalize (lg_sl ([.ref (ad (270))]) ++ List.replicate (2 - (lg_sl ([.ref (ad (270))])).length) Slot.unset).toArray = ls at hl ⊢
  have hl : lv_has ls 2 [(0, .ref (ad (270)))] := hl
  refine lv_aload_n hx hb dL_restore_0 rfl (lv_at hl 0 rfl) ?_
  refine vx_callv (vx_runV (As := []) (rest := []) ⟨hx, hb, hml, hown, hts⟩ (c6_restore l hl0 hA σ  hO) (cwV 0 hts gL_restore_X6_restore rfl rfl rfl hd_X6_restoreV ⟨(Nat.le_of_ble_eq_true rfl), (Nat.le_of_ble_eq_true rfl)⟩) ⟨hx_blind, va_recv hK hP (ci := 8) (q0 := 270) rfl g_270, hx_pre hK hN hT hL hG hR va_S.rf hP⟩ rfl rfl hl.1 rfl (lv_room (Nat.le_of_ble_eq_true rfl)) dL_restore_1 ⟨(Nat.le_of_ble_eq_true rfl), (Nat.le_of_ble_eq_true rfl)⟩) hS (fun q _ h => h) (fun _ h => h) (fun q _ h => h) (fun E9 ce9 q9 z9 t9 H locs ht9 hvm9 hw9 hB9 hz9 hk9 hS hce9 hcv9 hcl9 => ?_) (fun σ9 t H locs ht hvm hw9 hB hz1 hk1 hS => ?_)
  · obtain ⟨eqx, okx⟩ := hw9
    obtain ⟨rfl, hBx⟩ := hB9
    have hP := ho_at ht9 hBx
    obtain ⟨n9, hn9⟩ := hE _ _ eqx
    obtain ⟨h1, h2⟩ := hn9
    rw [h1] at hcl9
    refine vx_catch (own := RL) (name := xIS) hown (tableOf []) ⟨0, 4, 7, 17⟩ (tableOf []) htab (fun z hz => nomatch hz) rfl (by decide) (hts (.classLink RL 17 "java/lang/IllegalStateException") (List.mem_of_getElem? (i := 1) rfl)) ((hL.2.1 xIS (by decide)).use rfl) hce9 hcv9 hcl9 ?_
    refine lv_astore_n (lv' := [(1, .ref q9), (0, .ref (ad (270)))]) hx hb dL_restore_7 rfl hl (by decide) rfl (fun ls hl => ?_)
    refine lv_iconst (v := 1) hx hb dL_restore_8 (by decide) ?_
    exact vx_ret (W.widen (Nat.le_of_ble_eq_true rfl) (Nat.le_of_ble_eq_true rfl) (W.iret (v := 1) hx hb hr (fun t ht hW => ⟨⟨1, z9.2, rfl, ⟨okx, Or.inr ⟨z9.1, eqx, ⟨h1, rfl⟩⟩⟩, ho_of ht hP⟩, hS.F ht⟩) hS.2.2 dL_restore_9))
  · obtain ⟨eq9, ok9⟩ := hw9
    have hP := ho_at ht hB
    refine lv_goto (tgt := 10) hx hb dL_restore_4 (by decide) ?_
    obtain ⟨v9, ev9⟩ : ∃ z : Int32, z = 0 := ⟨_, rfl⟩
    rw [← ev9] at eq9
    refine lv_iconst (v := 0) hx hb dL_restore_10 (by decide) ?_
    exact vx_ret (W.widen (Nat.le_of_ble_eq_true rfl) (Nat.le_of_ble_eq_true rfl) (W.iret (v := 0) hx hb hr (fun t ht hW => ⟨⟨0, σ9, rfl, ⟨ok9, Or.inl ⟨v9, eq9, rfl⟩⟩, ho_of ht hP⟩, hS.F ht⟩) hS.2.2 dL_restore_11))
