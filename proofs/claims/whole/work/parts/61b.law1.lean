/-! THE LAW'S CASES -/
set_option maxHeartbeats 2000000 in
set_option maxRecDepth 100000 in
theorem law_0 {p : Program} {l : Launch} {e : Env} {R : Room} {s : State} {m : MethodId} {args : Array Value} {below : List Frame} {meth : Method} {c : Code} {Q : State → Prop} (hl0 : l.stackTraces = false) {D : va_G} {G : CY} {B0 b L i cells slots : Nat} {xs : Nat → Int32} {cL cD : ClassId} {K : Int} {σ : Nat → Nat → Int32} {f : Nat → Int64} {g : Nat → UInt64} {H : Heap} {locs : List Loc} {ls : Array Slot}
    (hx : p.tables.exec = Jvm.exec) (hb : c.code = code) (hml : c.maxLocals = 8) (hown : s.vm.findClass RL = some m.cls) (hts : ∀ w ∈ lw_tbl, w.before args s = true) (hLA : LA D G B0 cL cD b L xs s) (hLI : LI D G B0 cL cD K σ f g H) (hS : va_S (AC B0) s.heap H locs) (hl : lv_has ls 8 [(5, .int (nI i)), (4, .ref (B0+291)), (3, .ref (B0+290)), (2, .ref (adH B0 279)), (1, .ref (adH B0 270)), (0, .ref b)]) (hi : i + 7 ≤ L) (hL : L ≤ 3584) (hK8 : K ≤ 800000000) (hfr : 20 ≤ R.frames) (hlo : 400 ≤ R.locals) (hce : cells + 4 ≤ R.cells) (hsl : slots + 24 ≤ R.slots)
    (cont : ∀ (σ2 : Nat → Nat → Int32) (f2 : Nat → Int64) (g2 : Nat → UInt64) (H2 : Heap) (locs2 : List Loc) (ls2 : Array Slot), LI D G B0 cL cD (K+500000) σ2 f2 g2 H2 → va_S (AC B0) s.heap H2 locs2 → lv_has ls2 8 [(5, .int (nI i)), (4, .ref (B0+291)), (3, .ref (B0+290)), (2, .ref (adH B0 279)), (1, .ref (adH B0 270)), (0, .ref b)] → W p l e R s m args below meth c H2 locs2 (cells + 4) (slots + 24) Q (F0 m 2317 ls2 [])) : W p l e R s m args below meth c H locs cells slots Q (F0 m 196 ls []) := by
  obtain ⟨hK, hN, hT, hLw, ⟨adK, adV, hG, hR⟩, hNc, hKo, hKd, hX, hbl, hsz⟩ := id hLA
  obtain ⟨hP, hPo, hPd, hTop, hO⟩ := hLI
  have hA := adH_ok B0
  have hbA : ¬ AC B0 b := fun z => by have z : B0 ≤ b := z; omega
  refine lv_aload_n hx hb dL_law_196 rfl (lv_at hl 4 rfl) ?_
  refine lv_aload_n hx hb dL_law_197 rfl (lv_at hl 5 rfl) ?_
  refine lv_iload hx hb dL_law_198 (lv_at hl 0 rfl) ?_
  refine lv_iconst (v := 1) hx hb dL_law_200 (by decide) ?_
  refine lv_iadd hx hb dL_law_201 ?_
  refine va_sld hx hb hX hbl hbA hS (in_scr hi hL (k := 1) (by decide)) dL_law_202 ?_
  refine lv_aload_n hx hb dL_law_203 rfl (lv_at hl 5 rfl) ?_
  refine lv_iload hx hb dL_law_204 (lv_at hl 0 rfl) ?_
  refine lv_iconst (v := 2) hx hb dL_law_206 (by decide) ?_
  refine lv_iadd hx hb dL_law_207 ?_
  refine va_sld hx hb hX hbl hbA hS (in_scr hi hL (k := 2) (by decide)) dL_law_208 ?_
  refine lv_aload_n hx hb dL_law_209 rfl (lv_at hl 5 rfl) ?_
  refine lv_iload hx hb dL_law_210 (lv_at hl 0 rfl) ?_
  refine lv_iconst (v := 3) hx hb dL_law_212 (by decide) ?_
  refine lv_iadd hx hb dL_law_213 ?_
  refine va_sld hx hb hX hbl hbA hS (in_scr hi hL (k := 3) (by decide)) dL_law_214 ?_
  refine lv_aload_n hx hb dL_law_215 rfl (lv_at hl 2 rfl) ?_
  have hPM := t_setTile (a := (xs (nI i + 1).toNatClampNeg)) (b := (xs (nI i + 2).toNatClampNeg)) (c1 := (xs (nI i + 3).toNatClampNeg)) hTop
  refine vx_calli (vx_runSX (As := [.ref (adH B0 270), .int (xs (nI i + 1).toNatClampNeg), .int (xs (nI i + 2).toNatClampNeg), .int (xs (nI i + 3).toNatClampNeg), .ref (B0+290)]) (rest := []) ⟨hx, hb, hml, hown, hts⟩ (cL_setTile_met l hl0 hA σ (xs (nI i + 1).toNatClampNeg) (xs (nI i + 2).toNatClampNeg) (xs (nI i + 3).toNatClampNeg) cL f hO hPM.hE) (vx_cwSW 5 hts gL_law_L_setTile rfl rfl rfl hd_L_setTileS ⟨Nat.le_trans (by decide) hfr, Nat.le_trans (by decide) hlo⟩) ⟨hw1_blind, hw1_pre hK hN hT hLw hG hR hNc hsz hS hP hPo hKo⟩ rfl rfl hl.1 rfl (lv_room (Nat.le_of_ble_eq_true rfl)) dL_law_216 ⟨by omega, by omega⟩) hS (fun q _ h => aw1_ac h) (fun q h => aw1_ac h) (fun q _ h => aw1_ac h) (fun _ _ _ _ _ _ _ _ _ hw9 _ _ _ _ _ _ _ => hw9.elim) (fun r6 z1 t H locs ht hvm hw6 hB hz1 hk1 hS => ?_)
  obtain ⟨ok6, hw6⟩ := hw6
  obtain ⟨σ1, eσ1⟩ : ∃ z, z = z1.1 := ⟨_, rfl⟩
  obtain ⟨hB1, hB2⟩ := hB
  rw [← eσ1] at ok6 hw6 hB1
  have hP : va_P D vwCl (pool G (adH B0) σ1) H := ho_at ht hB1
  have hPo : va_P D vwCl [(B0+290, .inl (cL, 1, .inr (.inl z1.2)))] H := by rw [← ht]; exact hB2
  have hPd := hPd.kept (fun k q hk => hk1 q.1 (vx_lt hPd hk) (wo_o21 hk))
  refine lv_istore (lv' := [(6, .int r6), (5, .int (nI i)), (4, .ref (B0+291)), (3, .ref (B0+290)), (2, .ref (adH B0 279)), (1, .ref (adH B0 270)), (0, .ref b)]) hx hb dL_law_219 hl (by decide) rfl (fun ls hl => ?_)
  refine lv_aload_n hx hb dL_law_221 rfl (lv_at hl 4 rfl) ?_
  refine lv_aload_n hx hb dL_law_222 rfl (lv_at hl 6 rfl) ?_
  refine lv_iload hx hb dL_law_223 (lv_at hl 1 rfl) ?_
  refine lv_iconst (v := 1) hx hb dL_law_225 (by decide) ?_
  refine lv_iadd hx hb dL_law_226 ?_
  refine va_sld hx hb hX hbl hbA hS (in_scr hi hL (k := 1) (by decide)) dL_law_227 ?_
  refine lv_aload_n hx hb dL_law_228 rfl (lv_at hl 6 rfl) ?_
  refine lv_iload hx hb dL_law_229 (lv_at hl 1 rfl) ?_
  refine lv_iconst (v := 2) hx hb dL_law_231 (by decide) ?_
  refine lv_iadd hx hb dL_law_232 ?_
  refine va_sld hx hb hX hbl hbA hS (in_scr hi hL (k := 2) (by decide)) dL_law_233 ?_
  refine lv_aload_n hx hb dL_law_234 rfl (lv_at hl 6 rfl) ?_
  refine lv_iload hx hb dL_law_235 (lv_at hl 1 rfl) ?_
  refine lv_iconst (v := 3) hx hb dL_law_237 (by decide) ?_
  refine lv_iadd hx hb dL_law_238 ?_
  refine va_sld hx hb hX hbl hbA hS (in_scr hi hL (k := 3) (by decide)) dL_law_239 ?_
  have hls := ls_of (P := fun v => z1.2 0 = v.toInt64) hPM (cd3_i (by decide) (by decide) (by decide)) hw6
  obtain ⟨hT1, h16, h490, hval⟩ := hls
  have hu : va_up σ1 16 (σ 16) = σ1 := by rw [← h16]; exact up_eta σ1 16
  rw [← hu] at hP
  refine va_calli (va_runV (As := [.int (xs (nI i + 1).toNatClampNeg), .int (xs (nI i + 2).toNatClampNeg), .int (xs (nI i + 3).toNatClampNeg)]) (rest := []) ⟨hx, hb, hml, hown, hts⟩ (c7_setTile l hA σ1 (σ 16) (xs (nI i + 1).toNatClampNeg) (xs (nI i + 2).toNatClampNeg) (xs (nI i + 3).toNatClampNeg) hO.2.2) (cwV 3 hts gL_law_X7_setTile rfl rfl rfl hd_X7_setTileV ⟨Nat.le_trans (by decide) hfr, Nat.le_trans (by decide) hlo⟩) ⟨hp_blind, va_recv hK hP (ci := 9) (q0 := 279) rfl c_279, hp_pre hK hN hP⟩ rfl rfl hl.1 rfl (lv_room (Nat.le_of_ble_eq_true rfl)) dL_law_240 ⟨by omega, by omega⟩) hS (fun q _ h => aa_ac h) (fun q h => aa_ac h) (fun r7 u7 t H locs ht hvm hw7 hB hz1 hk1 hS => ?_)
  have hP : va_P D vwCl (pool G (adH B0) (va_up σ1 16 u7)) H := ho_at ht hB
  have hPo := hPo.kept (fun k q hk => hk1 q.1 (vx_lt hPo hk) (wo_out1 hk))
  have hPd := hPd.kept (fun k q hk => hk1 q.1 (vx_lt hPd hk) (wo_out2 hk))
  obtain ⟨eq7, ok7⟩ := hw7
  rw [← eq7] at hT1 h490 hval
  refine lv_istore (lv' := [(7, .int r7), (6, .int r6), (5, .int (nI i)), (4, .ref (B0+291)), (3, .ref (B0+290)), (2, .ref (adH B0 279)), (1, .ref (adH B0 270)), (0, .ref b)]) hx hb dL_law_243 hl (by decide) rfl (fun ls hl => ?_)
  refine lv_aload_n hx hb dL_law_245 rfl (lv_at hl 5 rfl) ?_
  refine va_calli (va_runV (As := []) (rest := []) ⟨hx, hb, hml, hown, hts⟩ (c7_thrown l hA σ1 u7) (cwV 0 hts gL_law_X7_thrown rfl rfl rfl hd_X7_thrownV ⟨Nat.le_trans (by decide) hfr, Nat.le_trans (by decide) hlo⟩) ⟨hp_blind, va_recv hK hP (ci := 9) (q0 := 279) rfl c_279, hp_pre hK hN hP⟩ rfl rfl hl.1 rfl (lv_room (Nat.le_of_ble_eq_true rfl)) dL_law_246 ⟨by omega, by omega⟩) hS (fun q _ h => aa_ac h) (fun q h => aa_ac h) (fun r8 _ t H locs ht hvm hw8 hB hz1 hk1 hS => ?_)
  have hP : va_P D vwCl (pool G (adH B0) (va_up σ1 16 u7)) H := ho_at ht hB
  have hPo := hPo.kept (fun k q hk => hk1 q.1 (vx_lt hPo hk) (wo_out1 hk))
  have hPd := hPd.kept (fun k q hk => hk1 q.1 (vx_lt hPd hk) (wo_out2 hk))
  refine lv_iload hx hb dL_law_249 (lv_at hl 1 rfl) ?_
  refine lv_icmp_eq (tgt := 256) hx hb dL_law_251 (by decide) (fun c9 => ?_) (fun c9 => absurd (hw8.trans h490) c9)
  have hdone : ∀ (k0 n0 : Nat), k0 ≤ cells + 4 → n0 ≤ slots + 24 → ∀ ls2 : Array Slot, lv_has ls2 8 [(7, .int r7), (6, .int r6), (5, .int (nI i)), (4, .ref (B0+291)), (3, .ref (B0+290)), (2, .ref (adH B0 279)), (1, .ref (adH B0 270)), (0, .ref b)] → W p l e R s m args below meth c H locs k0 n0 Q (F0 m 2317 ls2 []) := fun k0 n0 hk0 hn0 ls2 hl2 => W.widen (k := cells + 4) (n := slots + 24) hk0 hn0 (cont _ z1.2 g H locs ls2 ⟨hP, hPo, hPd, (top_16 hT1).mono (by omega), okS_16 ok6 ok7⟩ hS (lv_sub hl2 [2, 3, 4, 5, 6, 7] rfl))
  refine lv_iload hx hb dL_law_256 (lv_at hl 1 rfl) ?_
  refine lv_if_ne (tgt := 273) hx hb dL_law_258 (by decide) (fun c8 => ?_) (fun c8 => ?_)
  · refine lv_goto (tgt := 2317) hx hb dL_law_273 (by decide) ?_
    exact hdone _ _ (by omega) (by omega) ls hl
  obtain ⟨v9, hv9, rfl⟩ := hval c8
  refine lv_aload_n hx hb dL_law_261 rfl (lv_at hl 4 rfl) ?_
  refine lv_iconst (v := 0) hx hb dL_law_262 (by decide) ?_
  refine va_lald (tys := [(cL, .long)]) hx hb hKo hPo 0 0 rfl rfl (vp_in_iff.mpr (by decide)) dL_law_263 ?_
  have hv9 : z1.2 (0 : Int32).toNatClampNeg = _ := hv9
  rw [hv9]
  refine lv_iload hx hb dL_law_264 (lv_at hl 0 rfl) ?_
  refine lv_i2l (v := v9.toInt64) hx hb dL_law_266 rfl ?_
  refine W.lcmp hx hb dL_law_267 ?_
  refine lv_if_eq (tgt := 273) hx hb dL_law_268 (by decide) (fun c7 => ?_) (fun c7 => absurd (lg_cmp_self _) c7)
  refine lv_goto (tgt := 2317) hx hb dL_law_273 (by decide) ?_
  exact hdone _ _ (by omega) (by omega) ls hl
set_option maxHeartbeats 2000000 in
set_option maxRecDepth 100000 in
theorem law_1 {p : Program} {l : Launch} {e : Env} {R : Room} {s : State} {m : MethodId} {args : Array Value} {below : List Frame} {meth : Method} {c : Code} {Q : State → Prop} (hl0 : l.stackTraces = false) {D : va_G} {G : CY} {B0 b L i cells slots : Nat} {xs : Nat → Int32} {cL cD : ClassId} {K : Int} {σ : Nat → Nat → Int32} {f : Nat → Int64} {g : Nat → UInt64} {H : Heap} {locs : List Loc} {ls : Array Slot}
    (hx : p.tables.exec = Jvm.exec) (hb : c.code = code) (hml : c.maxLocals = 8) (hown : s.vm.findClass RL = some m.cls) (hts : ∀ w ∈ lw_tbl, w.before args s = true) (hLA : LA D G B0 cL cD b L xs s) (hLI : LI D G B0 cL cD K σ f g H) (hS : va_S (AC B0) s.heap H locs) (hl : lv_has ls 8 [(5, .int (nI i)), (4, .ref (B0+291)), (3, .ref (B0+290)), (2, .ref (adH B0 279)), (1, .ref (adH B0 270)), (0, .ref b)]) (hi : i + 7 ≤ L) (hL : L ≤ 3584) (hK8 : K ≤ 800000000) (hfr : 20 ≤ R.frames) (hlo : 400 ≤ R.locals) (hce : cells + 4 ≤ R.cells) (hsl : slots + 24 ≤ R.slots)
    (cont : ∀ (σ2 : Nat → Nat → Int32) (f2 : Nat → Int64) (g2 : Nat → UInt64) (H2 : Heap) (locs2 : List Loc) (ls2 : Array Slot), LI D G B0 cL cD (K+500000) σ2 f2 g2 H2 → va_S (AC B0) s.heap H2 locs2 → lv_has ls2 8 [(5, .int (nI i)), (4, .ref (B0+291)), (3, .ref (B0+290)), (2, .ref (adH B0 279)), (1, .ref (adH B0 270)), (0, .ref b)] → W p l e R s m args below meth c H2 locs2 (cells + 4) (slots + 24) Q (F0 m 2317 ls2 [])) : W p l e R s m args below meth c H locs cells slots Q (F0 m 276 ls []) := by
  obtain ⟨hK, hN, hT, hLw, ⟨adK, adV, hG, hR⟩, hNc, hKo, hKd, hX, hbl, hsz⟩ := id hLA
  obtain ⟨hP, hPo, hPd, hTop, hO⟩ := hLI
  have hA := adH_ok B0
  have hbA : ¬ AC B0 b := fun z => by have z : B0 ≤ b := z; omega
  refine lv_aload_n hx hb dL_law_276 rfl (lv_at hl 4 rfl) ?_
  refine lv_aload_n hx hb dL_law_277 rfl (lv_at hl 5 rfl) ?_
  refine lv_iload hx hb dL_law_278 (lv_at hl 0 rfl) ?_
  refine lv_iconst (v := 1) hx hb dL_law_280 (by decide) ?_
  refine lv_iadd hx hb dL_law_281 ?_
  refine va_sld hx hb hX hbl hbA hS (in_scr hi hL (k := 1) (by decide)) dL_law_282 ?_
  refine lv_aload_n hx hb dL_law_283 rfl (lv_at hl 5 rfl) ?_
  refine lv_iload hx hb dL_law_284 (lv_at hl 0 rfl) ?_
  refine lv_iconst (v := 2) hx hb dL_law_286 (by decide) ?_
  refine lv_iadd hx hb dL_law_287 ?_
  refine va_sld hx hb hX hbl hbA hS (in_scr hi hL (k := 2) (by decide)) dL_law_288 ?_
  refine lv_aload_n hx hb dL_law_289 rfl (lv_at hl 2 rfl) ?_
  have hPM := t_tile (a := (xs (nI i + 1).toNatClampNeg)) (b := (xs (nI i + 2).toNatClampNeg)) hTop
  refine vx_calli (vx_runSX (As := [.ref (adH B0 270), .int (xs (nI i + 1).toNatClampNeg), .int (xs (nI i + 2).toNatClampNeg), .ref (B0+290)]) (rest := []) ⟨hx, hb, hml, hown, hts⟩ (cL_tile_met l hl0 hA σ (xs (nI i + 1).toNatClampNeg) (xs (nI i + 2).toNatClampNeg) cL f hO hPM.hE) (vx_cwSW 4 hts gL_law_L_tile rfl rfl rfl hd_L_tileS ⟨Nat.le_trans (by decide) hfr, Nat.le_trans (by decide) hlo⟩) ⟨hw1_blind, hw1_pre hK hN hT hLw hG hR hNc hsz hS hP hPo hKo⟩ rfl rfl hl.1 rfl (lv_room (Nat.le_of_ble_eq_true rfl)) dL_law_290 ⟨by omega, by omega⟩) hS (fun q _ h => aw1_ac h) (fun q h => aw1_ac h) (fun q _ h => aw1_ac h) (fun _ _ _ _ _ _ _ _ _ hw9 _ _ _ _ _ _ _ => hw9.elim) (fun r6 z1 t H locs ht hvm hw6 hB hz1 hk1 hS => ?_)
  obtain ⟨ok6, hw6⟩ := hw6
  obtain ⟨σ1, eσ1⟩ : ∃ z, z = z1.1 := ⟨_, rfl⟩
  obtain ⟨hB1, hB2⟩ := hB
  rw [← eσ1] at ok6 hw6 hB1
  have hP : va_P D vwCl (pool G (adH B0) σ1) H := ho_at ht hB1
  have hPo : va_P D vwCl [(B0+290, .inl (cL, 1, .inr (.inl z1.2)))] H := by rw [← ht]; exact hB2
  have hPd := hPd.kept (fun k q hk => hk1 q.1 (vx_lt hPd hk) (wo_o21 hk))
  refine lv_istore (lv' := [(6, .int r6), (5, .int (nI i)), (4, .ref (B0+291)), (3, .ref (B0+290)), (2, .ref (adH B0 279)), (1, .ref (adH B0 270)), (0, .ref b)]) hx hb dL_law_293 hl (by decide) rfl (fun ls hl => ?_)
  refine lv_aload_n hx hb dL_law_295 rfl (lv_at hl 4 rfl) ?_
  refine lv_aload_n hx hb dL_law_296 rfl (lv_at hl 6 rfl) ?_
  refine lv_iload hx hb dL_law_297 (lv_at hl 1 rfl) ?_
  refine lv_iconst (v := 1) hx hb dL_law_299 (by decide) ?_
  refine lv_iadd hx hb dL_law_300 ?_
  refine va_sld hx hb hX hbl hbA hS (in_scr hi hL (k := 1) (by decide)) dL_law_301 ?_
  refine lv_aload_n hx hb dL_law_302 rfl (lv_at hl 6 rfl) ?_
  refine lv_iload hx hb dL_law_303 (lv_at hl 1 rfl) ?_
  refine lv_iconst (v := 2) hx hb dL_law_305 (by decide) ?_
  refine lv_iadd hx hb dL_law_306 ?_
  refine va_sld hx hb hX hbl hbA hS (in_scr hi hL (k := 2) (by decide)) dL_law_307 ?_
  have hls := ls_of (P := fun v => z1.2 0 = v.toInt64) hPM cd1_i hw6
  obtain ⟨hT1, h16, h490, hval⟩ := hls
  have hu : va_up σ1 16 (σ 16) = σ1 := by rw [← h16]; exact up_eta σ1 16
  rw [← hu] at hP
  refine va_calli (va_runV (As := [.int (xs (nI i + 1).toNatClampNeg), .int (xs (nI i + 2).toNatClampNeg)]) (rest := []) ⟨hx, hb, hml, hown, hts⟩ (c7_tile l hA σ1 (σ 16) (xs (nI i + 1).toNatClampNeg) (xs (nI i + 2).toNatClampNeg) hO.2.2) (cwV 2 hts gL_law_X7_tile rfl rfl rfl hd_X7_tileV ⟨Nat.le_trans (by decide) hfr, Nat.le_trans (by decide) hlo⟩) ⟨hp_blind, va_recv hK hP (ci := 9) (q0 := 279) rfl c_279, hp_pre hK hN hP⟩ rfl rfl hl.1 rfl (lv_room (Nat.le_of_ble_eq_true rfl)) dL_law_308 ⟨by omega, by omega⟩) hS (fun q _ h => aa_ac h) (fun q h => aa_ac h) (fun r7 u7 t H locs ht hvm hw7 hB hz1 hk1 hS => ?_)
  have hP : va_P D vwCl (pool G (adH B0) (va_up σ1 16 u7)) H := ho_at ht hB
  have hPo := hPo.kept (fun k q hk => hk1 q.1 (vx_lt hPo hk) (wo_out1 hk))
  have hPd := hPd.kept (fun k q hk => hk1 q.1 (vx_lt hPd hk) (wo_out2 hk))
  obtain ⟨eq7, ok7⟩ := hw7
  rw [← eq7] at hT1 h490 hval
  refine lv_istore (lv' := [(7, .int r7), (6, .int r6), (5, .int (nI i)), (4, .ref (B0+291)), (3, .ref (B0+290)), (2, .ref (adH B0 279)), (1, .ref (adH B0 270)), (0, .ref b)]) hx hb dL_law_311 hl (by decide) rfl (fun ls hl => ?_)
  refine lv_aload_n hx hb dL_law_313 rfl (lv_at hl 5 rfl) ?_
  refine va_calli (va_runV (As := []) (rest := []) ⟨hx, hb, hml, hown, hts⟩ (c7_thrown l hA σ1 u7) (cwV 0 hts gL_law_X7_thrown rfl rfl rfl hd_X7_thrownV ⟨Nat.le_trans (by decide) hfr, Nat.le_trans (by decide) hlo⟩) ⟨hp_blind, va_recv hK hP (ci := 9) (q0 := 279) rfl c_279, hp_pre hK hN hP⟩ rfl rfl hl.1 rfl (lv_room (Nat.le_of_ble_eq_true rfl)) dL_law_314 ⟨by omega, by omega⟩) hS (fun q _ h => aa_ac h) (fun q h => aa_ac h) (fun r8 _ t H locs ht hvm hw8 hB hz1 hk1 hS => ?_)
  have hP : va_P D vwCl (pool G (adH B0) (va_up σ1 16 u7)) H := ho_at ht hB
  have hPo := hPo.kept (fun k q hk => hk1 q.1 (vx_lt hPo hk) (wo_out1 hk))
  have hPd := hPd.kept (fun k q hk => hk1 q.1 (vx_lt hPd hk) (wo_out2 hk))
  refine lv_iload hx hb dL_law_317 (lv_at hl 1 rfl) ?_
  refine lv_icmp_eq (tgt := 324) hx hb dL_law_319 (by decide) (fun c9 => ?_) (fun c9 => absurd (hw8.trans h490) c9)
  have hdone : ∀ (k0 n0 : Nat), k0 ≤ cells + 4 → n0 ≤ slots + 24 → ∀ ls2 : Array Slot, lv_has ls2 8 [(7, .int r7), (6, .int r6), (5, .int (nI i)), (4, .ref (B0+291)), (3, .ref (B0+290)), (2, .ref (adH B0 279)), (1, .ref (adH B0 270)), (0, .ref b)] → W p l e R s m args below meth c H locs k0 n0 Q (F0 m 2317 ls2 []) := fun k0 n0 hk0 hn0 ls2 hl2 => W.widen (k := cells + 4) (n := slots + 24) hk0 hn0 (cont _ z1.2 g H locs ls2 ⟨hP, hPo, hPd, (top_16 hT1).mono (by omega), okS_16 ok6 ok7⟩ hS (lv_sub hl2 [2, 3, 4, 5, 6, 7] rfl))
  refine lv_iload hx hb dL_law_324 (lv_at hl 1 rfl) ?_
  refine lv_if_ne (tgt := 341) hx hb dL_law_326 (by decide) (fun c8 => ?_) (fun c8 => ?_)
  · refine lv_goto (tgt := 2317) hx hb dL_law_341 (by decide) ?_
    exact hdone _ _ (by omega) (by omega) ls hl
  obtain ⟨v9, hv9, rfl⟩ := hval c8
  refine lv_aload_n hx hb dL_law_329 rfl (lv_at hl 4 rfl) ?_
  refine lv_iconst (v := 0) hx hb dL_law_330 (by decide) ?_
  refine va_lald (tys := [(cL, .long)]) hx hb hKo hPo 0 0 rfl rfl (vp_in_iff.mpr (by decide)) dL_law_331 ?_
  have hv9 : z1.2 (0 : Int32).toNatClampNeg = _ := hv9
  rw [hv9]
  refine lv_iload hx hb dL_law_332 (lv_at hl 0 rfl) ?_
  refine lv_i2l (v := v9.toInt64) hx hb dL_law_334 rfl ?_
  refine W.lcmp hx hb dL_law_335 ?_
  refine lv_if_eq (tgt := 341) hx hb dL_law_336 (by decide) (fun c7 => ?_) (fun c7 => absurd (lg_cmp_self _) c7)
  refine lv_goto (tgt := 2317) hx hb dL_law_341 (by decide) ?_
  exact hdone _ _ (by omega) (by omega) ls hl
set_option maxHeartbeats 2000000 in
set_option maxRecDepth 100000 in
theorem law_2 {p : Program} {l : Launch} {e : Env} {R : Room} {s : State} {m : MethodId} {args : Array Value} {below : List Frame} {meth : Method} {c : Code} {Q : State → Prop} (hl0 : l.stackTraces = false) {D : va_G} {G : CY} {B0 b L i cells slots : Nat} {xs : Nat → Int32} {cL cD : ClassId} {K : Int} {σ : Nat → Nat → Int32} {f : Nat → Int64} {g : Nat → UInt64} {H : Heap} {locs : List Loc} {ls : Array Slot}
    (hx : p.tables.exec = Jvm.exec) (hb : c.code = code) (hml : c.maxLocals = 8) (hown : s.vm.findClass RL = some m.cls) (hts : ∀ w ∈ lw_tbl, w.before args s = true) (hLA : LA D G B0 cL cD b L xs s) (hLI : LI D G B0 cL cD K σ f g H) (hS : va_S (AC B0) s.heap H locs) (hl : lv_has ls 8 [(5, .int (nI i)), (4, .ref (B0+291)), (3, .ref (B0+290)), (2, .ref (adH B0 279)), (1, .ref (adH B0 270)), (0, .ref b)]) (hi : i + 7 ≤ L) (hL : L ≤ 3584) (hK8 : K ≤ 800000000) (hfr : 20 ≤ R.frames) (hlo : 400 ≤ R.locals) (hce : cells + 4 ≤ R.cells) (hsl : slots + 24 ≤ R.slots)
    (cont : ∀ (σ2 : Nat → Nat → Int32) (f2 : Nat → Int64) (g2 : Nat → UInt64) (H2 : Heap) (locs2 : List Loc) (ls2 : Array Slot), LI D G B0 cL cD (K+500000) σ2 f2 g2 H2 → va_S (AC B0) s.heap H2 locs2 → lv_has ls2 8 [(5, .int (nI i)), (4, .ref (B0+291)), (3, .ref (B0+290)), (2, .ref (adH B0 279)), (1, .ref (adH B0 270)), (0, .ref b)] → W p l e R s m args below meth c H2 locs2 (cells + 4) (slots + 24) Q (F0 m 2317 ls2 [])) : W p l e R s m args below meth c H locs cells slots Q (F0 m 344 ls []) := by
  obtain ⟨hK, hN, hT, hLw, ⟨adK, adV, hG, hR⟩, hNc, hKo, hKd, hX, hbl, hsz⟩ := id hLA
  obtain ⟨hP, hPo, hPd, hTop, hO⟩ := hLI
  have hA := adH_ok B0
  have hbA : ¬ AC B0 b := fun z => by have z : B0 ≤ b := z; omega
  refine lv_aload_n hx hb dL_law_344 rfl (lv_at hl 4 rfl) ?_
  refine lv_aload_n hx hb dL_law_345 rfl (lv_at hl 5 rfl) ?_
  refine lv_iload hx hb dL_law_346 (lv_at hl 0 rfl) ?_
  refine lv_iconst (v := 1) hx hb dL_law_348 (by decide) ?_
  refine lv_iadd hx hb dL_law_349 ?_
  refine va_sld hx hb hX hbl hbA hS (in_scr hi hL (k := 1) (by decide)) dL_law_350 ?_
  refine lv_aload_n hx hb dL_law_351 rfl (lv_at hl 5 rfl) ?_
  refine lv_iload hx hb dL_law_352 (lv_at hl 0 rfl) ?_
  refine lv_iconst (v := 2) hx hb dL_law_354 (by decide) ?_
  refine lv_iadd hx hb dL_law_355 ?_
  refine va_sld hx hb hX hbl hbA hS (in_scr hi hL (k := 2) (by decide)) dL_law_356 ?_
  refine lv_aload_n hx hb dL_law_357 rfl (lv_at hl 5 rfl) ?_
  refine lv_iload hx hb dL_law_358 (lv_at hl 0 rfl) ?_
  refine lv_iconst (v := 3) hx hb dL_law_360 (by decide) ?_
  refine lv_iadd hx hb dL_law_361 ?_
  refine va_sld hx hb hX hbl hbA hS (in_scr hi hL (k := 3) (by decide)) dL_law_362 ?_
  refine lv_aload_n hx hb dL_law_363 rfl (lv_at hl 5 rfl) ?_
  refine lv_iload hx hb dL_law_364 (lv_at hl 0 rfl) ?_
  refine lv_iconst (v := 4) hx hb dL_law_366 (by decide) ?_
  refine lv_iadd hx hb dL_law_367 ?_
  refine va_sld hx hb hX hbl hbA hS (in_scr hi hL (k := 4) (by decide)) dL_law_368 ?_
  refine lv_aload_n hx hb dL_law_369 rfl (lv_at hl 2 rfl) ?_
  have hPM := t_addBody (a := (xs (nI i + 1).toNatClampNeg)) (b := (xs (nI i + 2).toNatClampNeg)) (w := (xs (nI i + 3).toNatClampNeg)) (hh := (xs (nI i + 4).toNatClampNeg)) hTop
  refine vx_calli (vx_runSX (As := [.ref (adH B0 270), .int (xs (nI i + 1).toNatClampNeg), .int (xs (nI i + 2).toNatClampNeg), .int (xs (nI i + 3).toNatClampNeg), .int (xs (nI i + 4).toNatClampNeg), .ref (B0+290)]) (rest := []) ⟨hx, hb, hml, hown, hts⟩ (cL_addBody_met l hl0 hA σ (xs (nI i + 1).toNatClampNeg) (xs (nI i + 2).toNatClampNeg) (xs (nI i + 3).toNatClampNeg) (xs (nI i + 4).toNatClampNeg) cL f hO hPM.hE) (vx_cwSW 6 hts gL_law_L_addBody rfl rfl rfl hd_L_addBodyS ⟨Nat.le_trans (by decide) hfr, Nat.le_trans (by decide) hlo⟩) ⟨hw1_blind, hw1_pre hK hN hT hLw hG hR hNc hsz hS hP hPo hKo⟩ rfl rfl hl.1 rfl (lv_room (Nat.le_of_ble_eq_true rfl)) dL_law_370 ⟨by omega, by omega⟩) hS (fun q _ h => aw1_ac h) (fun q h => aw1_ac h) (fun q _ h => aw1_ac h) (fun _ _ _ _ _ _ _ _ _ hw9 _ _ _ _ _ _ _ => hw9.elim) (fun r6 z1 t H locs ht hvm hw6 hB hz1 hk1 hS => ?_)
  obtain ⟨ok6, hw6⟩ := hw6
  obtain ⟨σ1, eσ1⟩ : ∃ z, z = z1.1 := ⟨_, rfl⟩
  obtain ⟨hB1, hB2⟩ := hB
  rw [← eσ1] at ok6 hw6 hB1
  have hP : va_P D vwCl (pool G (adH B0) σ1) H := ho_at ht hB1
  have hPo : va_P D vwCl [(B0+290, .inl (cL, 1, .inr (.inl z1.2)))] H := by rw [← ht]; exact hB2
  have hPd := hPd.kept (fun k q hk => hk1 q.1 (vx_lt hPd hk) (wo_o21 hk))
  refine lv_istore (lv' := [(6, .int r6), (5, .int (nI i)), (4, .ref (B0+291)), (3, .ref (B0+290)), (2, .ref (adH B0 279)), (1, .ref (adH B0 270)), (0, .ref b)]) hx hb dL_law_373 hl (by decide) rfl (fun ls hl => ?_)
  refine lv_aload_n hx hb dL_law_375 rfl (lv_at hl 4 rfl) ?_
  refine lv_aload_n hx hb dL_law_376 rfl (lv_at hl 6 rfl) ?_
  refine lv_iload hx hb dL_law_377 (lv_at hl 1 rfl) ?_
  refine lv_iconst (v := 1) hx hb dL_law_379 (by decide) ?_
  refine lv_iadd hx hb dL_law_380 ?_
  refine va_sld hx hb hX hbl hbA hS (in_scr hi hL (k := 1) (by decide)) dL_law_381 ?_
  refine lv_aload_n hx hb dL_law_382 rfl (lv_at hl 6 rfl) ?_
  refine lv_iload hx hb dL_law_383 (lv_at hl 1 rfl) ?_
  refine lv_iconst (v := 2) hx hb dL_law_385 (by decide) ?_
  refine lv_iadd hx hb dL_law_386 ?_
  refine va_sld hx hb hX hbl hbA hS (in_scr hi hL (k := 2) (by decide)) dL_law_387 ?_
  refine lv_aload_n hx hb dL_law_388 rfl (lv_at hl 6 rfl) ?_
  refine lv_iload hx hb dL_law_389 (lv_at hl 1 rfl) ?_
  refine lv_iconst (v := 3) hx hb dL_law_391 (by decide) ?_
  refine lv_iadd hx hb dL_law_392 ?_
  refine va_sld hx hb hX hbl hbA hS (in_scr hi hL (k := 3) (by decide)) dL_law_393 ?_
  refine lv_aload_n hx hb dL_law_394 rfl (lv_at hl 6 rfl) ?_
  refine lv_iload hx hb dL_law_395 (lv_at hl 1 rfl) ?_
  refine lv_iconst (v := 4) hx hb dL_law_397 (by decide) ?_
  refine lv_iadd hx hb dL_law_398 ?_
  refine va_sld hx hb hX hbl hbA hS (in_scr hi hL (k := 4) (by decide)) dL_law_399 ?_
  have hls := ls_of (P := fun v => z1.2 0 = v.toInt64) hPM (cd2_i (by decide)) hw6
  obtain ⟨hT1, h16, h490, hval⟩ := hls
  have hu : va_up σ1 16 (σ 16) = σ1 := by rw [← h16]; exact up_eta σ1 16
  rw [← hu] at hP
  refine va_calli (va_runV (As := [.int (xs (nI i + 1).toNatClampNeg), .int (xs (nI i + 2).toNatClampNeg), .int (xs (nI i + 3).toNatClampNeg), .int (xs (nI i + 4).toNatClampNeg)]) (rest := []) ⟨hx, hb, hml, hown, hts⟩ (c7_addBody l hA σ1 (σ 16) (xs (nI i + 1).toNatClampNeg) (xs (nI i + 2).toNatClampNeg) (xs (nI i + 3).toNatClampNeg) (xs (nI i + 4).toNatClampNeg) hO.2.2) (cwV 4 hts gL_law_X7_addBody rfl rfl rfl hd_X7_addBodyV ⟨Nat.le_trans (by decide) hfr, Nat.le_trans (by decide) hlo⟩) ⟨hp_blind, va_recv hK hP (ci := 9) (q0 := 279) rfl c_279, hp_pre hK hN hP⟩ rfl rfl hl.1 rfl (lv_room (Nat.le_of_ble_eq_true rfl)) dL_law_400 ⟨by omega, by omega⟩) hS (fun q _ h => aa_ac h) (fun q h => aa_ac h) (fun r7 u7 t H locs ht hvm hw7 hB hz1 hk1 hS => ?_)
  have hP : va_P D vwCl (pool G (adH B0) (va_up σ1 16 u7)) H := ho_at ht hB
  have hPo := hPo.kept (fun k q hk => hk1 q.1 (vx_lt hPo hk) (wo_out1 hk))
  have hPd := hPd.kept (fun k q hk => hk1 q.1 (vx_lt hPd hk) (wo_out2 hk))
  obtain ⟨eq7, ok7⟩ := hw7
  rw [← eq7] at hT1 h490 hval
  refine lv_istore (lv' := [(7, .int r7), (6, .int r6), (5, .int (nI i)), (4, .ref (B0+291)), (3, .ref (B0+290)), (2, .ref (adH B0 279)), (1, .ref (adH B0 270)), (0, .ref b)]) hx hb dL_law_403 hl (by decide) rfl (fun ls hl => ?_)
  refine lv_aload_n hx hb dL_law_405 rfl (lv_at hl 5 rfl) ?_
  refine va_calli (va_runV (As := []) (rest := []) ⟨hx, hb, hml, hown, hts⟩ (c7_thrown l hA σ1 u7) (cwV 0 hts gL_law_X7_thrown rfl rfl rfl hd_X7_thrownV ⟨Nat.le_trans (by decide) hfr, Nat.le_trans (by decide) hlo⟩) ⟨hp_blind, va_recv hK hP (ci := 9) (q0 := 279) rfl c_279, hp_pre hK hN hP⟩ rfl rfl hl.1 rfl (lv_room (Nat.le_of_ble_eq_true rfl)) dL_law_406 ⟨by omega, by omega⟩) hS (fun q _ h => aa_ac h) (fun q h => aa_ac h) (fun r8 _ t H locs ht hvm hw8 hB hz1 hk1 hS => ?_)
  have hP : va_P D vwCl (pool G (adH B0) (va_up σ1 16 u7)) H := ho_at ht hB
  have hPo := hPo.kept (fun k q hk => hk1 q.1 (vx_lt hPo hk) (wo_out1 hk))
  have hPd := hPd.kept (fun k q hk => hk1 q.1 (vx_lt hPd hk) (wo_out2 hk))
  refine lv_iload hx hb dL_law_409 (lv_at hl 1 rfl) ?_
  refine lv_icmp_eq (tgt := 416) hx hb dL_law_411 (by decide) (fun c9 => ?_) (fun c9 => absurd (hw8.trans h490) c9)
  have hdone : ∀ (k0 n0 : Nat), k0 ≤ cells + 4 → n0 ≤ slots + 24 → ∀ ls2 : Array Slot, lv_has ls2 8 [(7, .int r7), (6, .int r6), (5, .int (nI i)), (4, .ref (B0+291)), (3, .ref (B0+290)), (2, .ref (adH B0 279)), (1, .ref (adH B0 270)), (0, .ref b)] → W p l e R s m args below meth c H locs k0 n0 Q (F0 m 2317 ls2 []) := fun k0 n0 hk0 hn0 ls2 hl2 => W.widen (k := cells + 4) (n := slots + 24) hk0 hn0 (cont _ z1.2 g H locs ls2 ⟨hP, hPo, hPd, (top_16 hT1).mono (by omega), okS_16 ok6 ok7⟩ hS (lv_sub hl2 [2, 3, 4, 5, 6, 7] rfl))
  refine lv_iload hx hb dL_law_416 (lv_at hl 1 rfl) ?_
  refine lv_if_ne (tgt := 433) hx hb dL_law_418 (by decide) (fun c8 => ?_) (fun c8 => ?_)
  · refine lv_goto (tgt := 2317) hx hb dL_law_433 (by decide) ?_
    exact hdone _ _ (by omega) (by omega) ls hl
  obtain ⟨v9, hv9, rfl⟩ := hval c8
  refine lv_aload_n hx hb dL_law_421 rfl (lv_at hl 4 rfl) ?_
  refine lv_iconst (v := 0) hx hb dL_law_422 (by decide) ?_
  refine va_lald (tys := [(cL, .long)]) hx hb hKo hPo 0 0 rfl rfl (vp_in_iff.mpr (by decide)) dL_law_423 ?_
  have hv9 : z1.2 (0 : Int32).toNatClampNeg = _ := hv9
  rw [hv9]
  refine lv_iload hx hb dL_law_424 (lv_at hl 0 rfl) ?_
  refine lv_i2l (v := v9.toInt64) hx hb dL_law_426 rfl ?_
  refine W.lcmp hx hb dL_law_427 ?_
  refine lv_if_eq (tgt := 433) hx hb dL_law_428 (by decide) (fun c7 => ?_) (fun c7 => absurd (lg_cmp_self _) c7)
  refine lv_goto (tgt := 2317) hx hb dL_law_433 (by decide) ?_
  exact hdone _ _ (by omega) (by omega) ls hl
set_option maxHeartbeats 2000000 in
set_option maxRecDepth 100000 in
theorem law_3 {p : Program} {l : Launch} {e : Env} {R : Room} {s : State} {m : MethodId} {args : Array Value} {below : List Frame} {meth : Method} {c : Code} {Q : State → Prop} (hl0 : l.stackTraces = false) {D : va_G} {G : CY} {B0 b L i cells slots : Nat} {xs : Nat → Int32} {cL cD : ClassId} {K : Int} {σ : Nat → Nat → Int32} {f : Nat → Int64} {g : Nat → UInt64} {H : Heap} {locs : List Loc} {ls : Array Slot}
    (hx : p.tables.exec = Jvm.exec) (hb : c.code = code) (hml : c.maxLocals = 8) (hown : s.vm.findClass RL = some m.cls) (hts : ∀ w ∈ lw_tbl, w.before args s = true) (hLA : LA D G B0 cL cD b L xs s) (hLI : LI D G B0 cL cD K σ f g H) (hS : va_S (AC B0) s.heap H locs) (hl : lv_has ls 8 [(5, .int (nI i)), (4, .ref (B0+291)), (3, .ref (B0+290)), (2, .ref (adH B0 279)), (1, .ref (adH B0 270)), (0, .ref b)]) (hi : i + 7 ≤ L) (hL : L ≤ 3584) (hK8 : K ≤ 800000000) (hfr : 20 ≤ R.frames) (hlo : 400 ≤ R.locals) (hce : cells + 4 ≤ R.cells) (hsl : slots + 24 ≤ R.slots)
    (cont : ∀ (σ2 : Nat → Nat → Int32) (f2 : Nat → Int64) (g2 : Nat → UInt64) (H2 : Heap) (locs2 : List Loc) (ls2 : Array Slot), LI D G B0 cL cD (K+500000) σ2 f2 g2 H2 → va_S (AC B0) s.heap H2 locs2 → lv_has ls2 8 [(5, .int (nI i)), (4, .ref (B0+291)), (3, .ref (B0+290)), (2, .ref (adH B0 279)), (1, .ref (adH B0 270)), (0, .ref b)] → W p l e R s m args below meth c H2 locs2 (cells + 4) (slots + 24) Q (F0 m 2317 ls2 [])) : W p l e R s m args below meth c H locs cells slots Q (F0 m 436 ls []) := by
  obtain ⟨hK, hN, hT, hLw, ⟨adK, adV, hG, hR⟩, hNc, hKo, hKd, hX, hbl, hsz⟩ := id hLA
  obtain ⟨hP, hPo, hPd, hTop, hO⟩ := hLI
  have hA := adH_ok B0
  have hbA : ¬ AC B0 b := fun z => by have z : B0 ≤ b := z; omega
  refine lv_aload_n hx hb dL_law_436 rfl (lv_at hl 4 rfl) ?_
  refine lv_aload_n hx hb dL_law_437 rfl (lv_at hl 5 rfl) ?_
  refine lv_iload hx hb dL_law_438 (lv_at hl 0 rfl) ?_
  refine lv_iconst (v := 1) hx hb dL_law_440 (by decide) ?_
  refine lv_iadd hx hb dL_law_441 ?_
  refine va_sld hx hb hX hbl hbA hS (in_scr hi hL (k := 1) (by decide)) dL_law_442 ?_
  refine lv_aload_n hx hb dL_law_443 rfl (lv_at hl 2 rfl) ?_
  have hPM := t_removeBody (a := (xs (nI i + 1).toNatClampNeg)) hTop
  refine vx_calli (vx_runSX (As := [.ref (adH B0 270), .int (xs (nI i + 1).toNatClampNeg), .ref (B0+290)]) (rest := []) ⟨hx, hb, hml, hown, hts⟩ (cL_removeBody_met l hl0 hA σ (xs (nI i + 1).toNatClampNeg) cL f hO hPM.hE) (vx_cwSW 3 hts gL_law_L_removeBody rfl rfl rfl hd_L_removeBodyS ⟨Nat.le_trans (by decide) hfr, Nat.le_trans (by decide) hlo⟩) ⟨hw1_blind, hw1_pre hK hN hT hLw hG hR hNc hsz hS hP hPo hKo⟩ rfl rfl hl.1 rfl (lv_room (Nat.le_of_ble_eq_true rfl)) dL_law_444 ⟨by omega, by omega⟩) hS (fun q _ h => aw1_ac h) (fun q h => aw1_ac h) (fun q _ h => aw1_ac h) (fun _ _ _ _ _ _ _ _ _ hw9 _ _ _ _ _ _ _ => hw9.elim) (fun r6 z1 t H locs ht hvm hw6 hB hz1 hk1 hS => ?_)
  obtain ⟨ok6, hw6⟩ := hw6
  obtain ⟨σ1, eσ1⟩ : ∃ z, z = z1.1 := ⟨_, rfl⟩
  obtain ⟨hB1, hB2⟩ := hB
  rw [← eσ1] at ok6 hw6 hB1
  have hP : va_P D vwCl (pool G (adH B0) σ1) H := ho_at ht hB1
  have hPo : va_P D vwCl [(B0+290, .inl (cL, 1, .inr (.inl z1.2)))] H := by rw [← ht]; exact hB2
  have hPd := hPd.kept (fun k q hk => hk1 q.1 (vx_lt hPd hk) (wo_o21 hk))
  refine lv_istore (lv' := [(6, .int r6), (5, .int (nI i)), (4, .ref (B0+291)), (3, .ref (B0+290)), (2, .ref (adH B0 279)), (1, .ref (adH B0 270)), (0, .ref b)]) hx hb dL_law_447 hl (by decide) rfl (fun ls hl => ?_)
  refine lv_aload_n hx hb dL_law_449 rfl (lv_at hl 4 rfl) ?_
  refine lv_aload_n hx hb dL_law_450 rfl (lv_at hl 6 rfl) ?_
  refine lv_iload hx hb dL_law_451 (lv_at hl 1 rfl) ?_
  refine lv_iconst (v := 1) hx hb dL_law_453 (by decide) ?_
  refine lv_iadd hx hb dL_law_454 ?_
  refine va_sld hx hb hX hbl hbA hS (in_scr hi hL (k := 1) (by decide)) dL_law_455 ?_
  have hls := ls_of (P := fun v => z1.2 0 = v.toInt64) hPM cd1_i hw6
  obtain ⟨hT1, h16, h490, hval⟩ := hls
  have hu : va_up σ1 16 (σ 16) = σ1 := by rw [← h16]; exact up_eta σ1 16
  rw [← hu] at hP
  refine va_calli (va_runV (As := [.int (xs (nI i + 1).toNatClampNeg)]) (rest := []) ⟨hx, hb, hml, hown, hts⟩ (c7_removeBody l hA σ1 (σ 16) (xs (nI i + 1).toNatClampNeg) hO.2.2) (cwV 1 hts gL_law_X7_removeBody rfl rfl rfl hd_X7_removeBodyV ⟨Nat.le_trans (by decide) hfr, Nat.le_trans (by decide) hlo⟩) ⟨hp_blind, va_recv hK hP (ci := 9) (q0 := 279) rfl c_279, hp_pre hK hN hP⟩ rfl rfl hl.1 rfl (lv_room (Nat.le_of_ble_eq_true rfl)) dL_law_456 ⟨by omega, by omega⟩) hS (fun q _ h => aa_ac h) (fun q h => aa_ac h) (fun r7 u7 t H locs ht hvm hw7 hB hz1 hk1 hS => ?_)
  have hP : va_P D vwCl (pool G (adH B0) (va_up σ1 16 u7)) H := ho_at ht hB
  have hPo := hPo.kept (fun k q hk => hk1 q.1 (vx_lt hPo hk) (wo_out1 hk))
  have hPd := hPd.kept (fun k q hk => hk1 q.1 (vx_lt hPd hk) (wo_out2 hk))
  obtain ⟨eq7, ok7⟩ := hw7
  rw [← eq7] at hT1 h490 hval
  refine lv_istore (lv' := [(7, .int r7), (6, .int r6), (5, .int (nI i)), (4, .ref (B0+291)), (3, .ref (B0+290)), (2, .ref (adH B0 279)), (1, .ref (adH B0 270)), (0, .ref b)]) hx hb dL_law_459 hl (by decide) rfl (fun ls hl => ?_)
  refine lv_aload_n hx hb dL_law_461 rfl (lv_at hl 5 rfl) ?_
  refine va_calli (va_runV (As := []) (rest := []) ⟨hx, hb, hml, hown, hts⟩ (c7_thrown l hA σ1 u7) (cwV 0 hts gL_law_X7_thrown rfl rfl rfl hd_X7_thrownV ⟨Nat.le_trans (by decide) hfr, Nat.le_trans (by decide) hlo⟩) ⟨hp_blind, va_recv hK hP (ci := 9) (q0 := 279) rfl c_279, hp_pre hK hN hP⟩ rfl rfl hl.1 rfl (lv_room (Nat.le_of_ble_eq_true rfl)) dL_law_462 ⟨by omega, by omega⟩) hS (fun q _ h => aa_ac h) (fun q h => aa_ac h) (fun r8 _ t H locs ht hvm hw8 hB hz1 hk1 hS => ?_)
  have hP : va_P D vwCl (pool G (adH B0) (va_up σ1 16 u7)) H := ho_at ht hB
  have hPo := hPo.kept (fun k q hk => hk1 q.1 (vx_lt hPo hk) (wo_out1 hk))
  have hPd := hPd.kept (fun k q hk => hk1 q.1 (vx_lt hPd hk) (wo_out2 hk))
  refine lv_iload hx hb dL_law_465 (lv_at hl 1 rfl) ?_
  refine lv_icmp_eq (tgt := 472) hx hb dL_law_467 (by decide) (fun c9 => ?_) (fun c9 => absurd (hw8.trans h490) c9)
  have hdone : ∀ (k0 n0 : Nat), k0 ≤ cells + 4 → n0 ≤ slots + 24 → ∀ ls2 : Array Slot, lv_has ls2 8 [(7, .int r7), (6, .int r6), (5, .int (nI i)), (4, .ref (B0+291)), (3, .ref (B0+290)), (2, .ref (adH B0 279)), (1, .ref (adH B0 270)), (0, .ref b)] → W p l e R s m args below meth c H locs k0 n0 Q (F0 m 2317 ls2 []) := fun k0 n0 hk0 hn0 ls2 hl2 => W.widen (k := cells + 4) (n := slots + 24) hk0 hn0 (cont _ z1.2 g H locs ls2 ⟨hP, hPo, hPd, (top_16 hT1).mono (by omega), okS_16 ok6 ok7⟩ hS (lv_sub hl2 [2, 3, 4, 5, 6, 7] rfl))
  refine lv_iload hx hb dL_law_472 (lv_at hl 1 rfl) ?_
  refine lv_if_ne (tgt := 489) hx hb dL_law_474 (by decide) (fun c8 => ?_) (fun c8 => ?_)
  · refine lv_goto (tgt := 2317) hx hb dL_law_489 (by decide) ?_
    exact hdone _ _ (by omega) (by omega) ls hl
  obtain ⟨v9, hv9, rfl⟩ := hval c8
  refine lv_aload_n hx hb dL_law_477 rfl (lv_at hl 4 rfl) ?_
  refine lv_iconst (v := 0) hx hb dL_law_478 (by decide) ?_
  refine va_lald (tys := [(cL, .long)]) hx hb hKo hPo 0 0 rfl rfl (vp_in_iff.mpr (by decide)) dL_law_479 ?_
  have hv9 : z1.2 (0 : Int32).toNatClampNeg = _ := hv9
  rw [hv9]
  refine lv_iload hx hb dL_law_480 (lv_at hl 0 rfl) ?_
  refine lv_i2l (v := v9.toInt64) hx hb dL_law_482 rfl ?_
  refine W.lcmp hx hb dL_law_483 ?_
  refine lv_if_eq (tgt := 489) hx hb dL_law_484 (by decide) (fun c7 => ?_) (fun c7 => absurd (lg_cmp_self _) c7)
  refine lv_goto (tgt := 2317) hx hb dL_law_489 (by decide) ?_
  exact hdone _ _ (by omega) (by omega) ls hl
set_option maxHeartbeats 2000000 in
set_option maxRecDepth 100000 in
theorem law_4 {p : Program} {l : Launch} {e : Env} {R : Room} {s : State} {m : MethodId} {args : Array Value} {below : List Frame} {meth : Method} {c : Code} {Q : State → Prop} (hl0 : l.stackTraces = false) {D : va_G} {G : CY} {B0 b L i cells slots : Nat} {xs : Nat → Int32} {cL cD : ClassId} {K : Int} {σ : Nat → Nat → Int32} {f : Nat → Int64} {g : Nat → UInt64} {H : Heap} {locs : List Loc} {ls : Array Slot}
    (hx : p.tables.exec = Jvm.exec) (hb : c.code = code) (hml : c.maxLocals = 8) (hown : s.vm.findClass RL = some m.cls) (hts : ∀ w ∈ lw_tbl, w.before args s = true) (hLA : LA D G B0 cL cD b L xs s) (hLI : LI D G B0 cL cD K σ f g H) (hS : va_S (AC B0) s.heap H locs) (hl : lv_has ls 8 [(5, .int (nI i)), (4, .ref (B0+291)), (3, .ref (B0+290)), (2, .ref (adH B0 279)), (1, .ref (adH B0 270)), (0, .ref b)]) (hi : i + 7 ≤ L) (hL : L ≤ 3584) (hK8 : K ≤ 800000000) (hfr : 20 ≤ R.frames) (hlo : 400 ≤ R.locals) (hce : cells + 4 ≤ R.cells) (hsl : slots + 24 ≤ R.slots)
    (cont : ∀ (σ2 : Nat → Nat → Int32) (f2 : Nat → Int64) (g2 : Nat → UInt64) (H2 : Heap) (locs2 : List Loc) (ls2 : Array Slot), LI D G B0 cL cD (K+500000) σ2 f2 g2 H2 → va_S (AC B0) s.heap H2 locs2 → lv_has ls2 8 [(5, .int (nI i)), (4, .ref (B0+291)), (3, .ref (B0+290)), (2, .ref (adH B0 279)), (1, .ref (adH B0 270)), (0, .ref b)] → W p l e R s m args below meth c H2 locs2 (cells + 4) (slots + 24) Q (F0 m 2317 ls2 [])) : W p l e R s m args below meth c H locs cells slots Q (F0 m 492 ls []) := by
  obtain ⟨hK, hN, hT, hLw, ⟨adK, adV, hG, hR⟩, hNc, hKo, hKd, hX, hbl, hsz⟩ := id hLA
  obtain ⟨hP, hPo, hPd, hTop, hO⟩ := hLI
  have hA := adH_ok B0
  have hbA : ¬ AC B0 b := fun z => by have z : B0 ≤ b := z; omega
  refine lv_aload_n hx hb dL_law_492 rfl (lv_at hl 4 rfl) ?_
  refine lv_aload_n hx hb dL_law_493 rfl (lv_at hl 5 rfl) ?_
  refine lv_iload hx hb dL_law_494 (lv_at hl 0 rfl) ?_
  refine lv_iconst (v := 1) hx hb dL_law_496 (by decide) ?_
  refine lv_iadd hx hb dL_law_497 ?_
  refine va_sld hx hb hX hbl hbA hS (in_scr hi hL (k := 1) (by decide)) dL_law_498 ?_
  refine lv_aload_n hx hb dL_law_499 rfl (lv_at hl 5 rfl) ?_
  refine lv_iload hx hb dL_law_500 (lv_at hl 0 rfl) ?_
  refine lv_iconst (v := 2) hx hb dL_law_502 (by decide) ?_
  refine lv_iadd hx hb dL_law_503 ?_
  refine va_sld hx hb hX hbl hbA hS (in_scr hi hL (k := 2) (by decide)) dL_law_504 ?_
  refine lv_aload_n hx hb dL_law_505 rfl (lv_at hl 2 rfl) ?_
  have hPM := t_body (a := (xs (nI i + 1).toNatClampNeg)) (b := (xs (nI i + 2).toNatClampNeg)) hTop
  refine vx_calli (vx_runSX (As := [.ref (adH B0 270), .int (xs (nI i + 1).toNatClampNeg), .int (xs (nI i + 2).toNatClampNeg), .ref (B0+290)]) (rest := []) ⟨hx, hb, hml, hown, hts⟩ (cL_body_met l hl0 hA σ (xs (nI i + 1).toNatClampNeg) (xs (nI i + 2).toNatClampNeg) cL f hO hPM.hE) (vx_cwSW 4 hts gL_law_L_body rfl rfl rfl hd_L_bodyS ⟨Nat.le_trans (by decide) hfr, Nat.le_trans (by decide) hlo⟩) ⟨hw1_blind, hw1_pre hK hN hT hLw hG hR hNc hsz hS hP hPo hKo⟩ rfl rfl hl.1 rfl (lv_room (Nat.le_of_ble_eq_true rfl)) dL_law_506 ⟨by omega, by omega⟩) hS (fun q _ h => aw1_ac h) (fun q h => aw1_ac h) (fun q _ h => aw1_ac h) (fun _ _ _ _ _ _ _ _ _ hw9 _ _ _ _ _ _ _ => hw9.elim) (fun r6 z1 t H locs ht hvm hw6 hB hz1 hk1 hS => ?_)
  obtain ⟨ok6, hw6⟩ := hw6
  obtain ⟨σ1, eσ1⟩ : ∃ z, z = z1.1 := ⟨_, rfl⟩
  obtain ⟨hB1, hB2⟩ := hB
  rw [← eσ1] at ok6 hw6 hB1
  have hP : va_P D vwCl (pool G (adH B0) σ1) H := ho_at ht hB1
  have hPo : va_P D vwCl [(B0+290, .inl (cL, 1, .inr (.inl z1.2)))] H := by rw [← ht]; exact hB2
  have hPd := hPd.kept (fun k q hk => hk1 q.1 (vx_lt hPd hk) (wo_o21 hk))
  refine lv_istore (lv' := [(6, .int r6), (5, .int (nI i)), (4, .ref (B0+291)), (3, .ref (B0+290)), (2, .ref (adH B0 279)), (1, .ref (adH B0 270)), (0, .ref b)]) hx hb dL_law_509 hl (by decide) rfl (fun ls hl => ?_)
  refine lv_aload_n hx hb dL_law_511 rfl (lv_at hl 4 rfl) ?_
  refine lv_aload_n hx hb dL_law_512 rfl (lv_at hl 6 rfl) ?_
  refine lv_iload hx hb dL_law_513 (lv_at hl 1 rfl) ?_
  refine lv_iconst (v := 1) hx hb dL_law_515 (by decide) ?_
  refine lv_iadd hx hb dL_law_516 ?_
  refine va_sld hx hb hX hbl hbA hS (in_scr hi hL (k := 1) (by decide)) dL_law_517 ?_
  refine lv_aload_n hx hb dL_law_518 rfl (lv_at hl 6 rfl) ?_
  refine lv_iload hx hb dL_law_519 (lv_at hl 1 rfl) ?_
  refine lv_iconst (v := 2) hx hb dL_law_521 (by decide) ?_
  refine lv_iadd hx hb dL_law_522 ?_
  refine va_sld hx hb hX hbl hbA hS (in_scr hi hL (k := 2) (by decide)) dL_law_523 ?_
  have hls := ls_of (P := fun v => z1.2 0 = v.toInt64) hPM (cd2_i (by decide)) hw6
  obtain ⟨hT1, h16, h490, hval⟩ := hls
  have hu : va_up σ1 16 (σ 16) = σ1 := by rw [← h16]; exact up_eta σ1 16
  rw [← hu] at hP
  refine va_calli (va_runV (As := [.int (xs (nI i + 1).toNatClampNeg), .int (xs (nI i + 2).toNatClampNeg)]) (rest := []) ⟨hx, hb, hml, hown, hts⟩ (c7_body l hA σ1 (σ 16) (xs (nI i + 1).toNatClampNeg) (xs (nI i + 2).toNatClampNeg) hO.2.2) (cwV 2 hts gL_law_X7_body rfl rfl rfl hd_X7_bodyV ⟨Nat.le_trans (by decide) hfr, Nat.le_trans (by decide) hlo⟩) ⟨hp_blind, va_recv hK hP (ci := 9) (q0 := 279) rfl c_279, hp_pre hK hN hP⟩ rfl rfl hl.1 rfl (lv_room (Nat.le_of_ble_eq_true rfl)) dL_law_524 ⟨by omega, by omega⟩) hS (fun q _ h => aa_ac h) (fun q h => aa_ac h) (fun r7 u7 t H locs ht hvm hw7 hB hz1 hk1 hS => ?_)
  have hP : va_P D vwCl (pool G (adH B0) (va_up σ1 16 u7)) H := ho_at ht hB
  have hPo := hPo.kept (fun k q hk => hk1 q.1 (vx_lt hPo hk) (wo_out1 hk))
  have hPd := hPd.kept (fun k q hk => hk1 q.1 (vx_lt hPd hk) (wo_out2 hk))
  obtain ⟨eq7, ok7⟩ := hw7
  rw [← eq7] at hT1 h490 hval
  refine lv_istore (lv' := [(7, .int r7), (6, .int r6), (5, .int (nI i)), (4, .ref (B0+291)), (3, .ref (B0+290)), (2, .ref (adH B0 279)), (1, .ref (adH B0 270)), (0, .ref b)]) hx hb dL_law_527 hl (by decide) rfl (fun ls hl => ?_)
  refine lv_aload_n hx hb dL_law_529 rfl (lv_at hl 5 rfl) ?_
  refine va_calli (va_runV (As := []) (rest := []) ⟨hx, hb, hml, hown, hts⟩ (c7_thrown l hA σ1 u7) (cwV 0 hts gL_law_X7_thrown rfl rfl rfl hd_X7_thrownV ⟨Nat.le_trans (by decide) hfr, Nat.le_trans (by decide) hlo⟩) ⟨hp_blind, va_recv hK hP (ci := 9) (q0 := 279) rfl c_279, hp_pre hK hN hP⟩ rfl rfl hl.1 rfl (lv_room (Nat.le_of_ble_eq_true rfl)) dL_law_530 ⟨by omega, by omega⟩) hS (fun q _ h => aa_ac h) (fun q h => aa_ac h) (fun r8 _ t H locs ht hvm hw8 hB hz1 hk1 hS => ?_)
  have hP : va_P D vwCl (pool G (adH B0) (va_up σ1 16 u7)) H := ho_at ht hB
  have hPo := hPo.kept (fun k q hk => hk1 q.1 (vx_lt hPo hk) (wo_out1 hk))
  have hPd := hPd.kept (fun k q hk => hk1 q.1 (vx_lt hPd hk) (wo_out2 hk))
  refine lv_iload hx hb dL_law_533 (lv_at hl 1 rfl) ?_
  refine lv_icmp_eq (tgt := 540) hx hb dL_law_535 (by decide) (fun c9 => ?_) (fun c9 => absurd (hw8.trans h490) c9)
  have hdone : ∀ (k0 n0 : Nat), k0 ≤ cells + 4 → n0 ≤ slots + 24 → ∀ ls2 : Array Slot, lv_has ls2 8 [(7, .int r7), (6, .int r6), (5, .int (nI i)), (4, .ref (B0+291)), (3, .ref (B0+290)), (2, .ref (adH B0 279)), (1, .ref (adH B0 270)), (0, .ref b)] → W p l e R s m args below meth c H locs k0 n0 Q (F0 m 2317 ls2 []) := fun k0 n0 hk0 hn0 ls2 hl2 => W.widen (k := cells + 4) (n := slots + 24) hk0 hn0 (cont _ z1.2 g H locs ls2 ⟨hP, hPo, hPd, (top_16 hT1).mono (by omega), okS_16 ok6 ok7⟩ hS (lv_sub hl2 [2, 3, 4, 5, 6, 7] rfl))
  refine lv_iload hx hb dL_law_540 (lv_at hl 1 rfl) ?_
  refine lv_if_ne (tgt := 557) hx hb dL_law_542 (by decide) (fun c8 => ?_) (fun c8 => ?_)
  · refine lv_goto (tgt := 2317) hx hb dL_law_557 (by decide) ?_
    exact hdone _ _ (by omega) (by omega) ls hl
  obtain ⟨v9, hv9, rfl⟩ := hval c8
  refine lv_aload_n hx hb dL_law_545 rfl (lv_at hl 4 rfl) ?_
  refine lv_iconst (v := 0) hx hb dL_law_546 (by decide) ?_
  refine va_lald (tys := [(cL, .long)]) hx hb hKo hPo 0 0 rfl rfl (vp_in_iff.mpr (by decide)) dL_law_547 ?_
  have hv9 : z1.2 (0 : Int32).toNatClampNeg = _ := hv9
  rw [hv9]
  refine lv_iload hx hb dL_law_548 (lv_at hl 0 rfl) ?_
  refine lv_i2l (v := v9.toInt64) hx hb dL_law_550 rfl ?_
  refine W.lcmp hx hb dL_law_551 ?_
  refine lv_if_eq (tgt := 557) hx hb dL_law_552 (by decide) (fun c7 => ?_) (fun c7 => absurd (lg_cmp_self _) c7)
  refine lv_goto (tgt := 2317) hx hb dL_law_557 (by decide) ?_
  exact hdone _ _ (by omega) (by omega) ls hl
set_option maxHeartbeats 2000000 in
set_option maxRecDepth 100000 in
theorem law_5 {p : Program} {l : Launch} {e : Env} {R : Room} {s : State} {m : MethodId} {args : Array Value} {below : List Frame} {meth : Method} {c : Code} {Q : State → Prop} (hl0 : l.stackTraces = false) {D : va_G} {G : CY} {B0 b L i cells slots : Nat} {xs : Nat → Int32} {cL cD : ClassId} {K : Int} {σ : Nat → Nat → Int32} {f : Nat → Int64} {g : Nat → UInt64} {H : Heap} {locs : List Loc} {ls : Array Slot}
    (hx : p.tables.exec = Jvm.exec) (hb : c.code = code) (hml : c.maxLocals = 8) (hown : s.vm.findClass RL = some m.cls) (hts : ∀ w ∈ lw_tbl, w.before args s = true) (hLA : LA D G B0 cL cD b L xs s) (hLI : LI D G B0 cL cD K σ f g H) (hS : va_S (AC B0) s.heap H locs) (hl : lv_has ls 8 [(5, .int (nI i)), (4, .ref (B0+291)), (3, .ref (B0+290)), (2, .ref (adH B0 279)), (1, .ref (adH B0 270)), (0, .ref b)]) (hi : i + 7 ≤ L) (hL : L ≤ 3584) (hK8 : K ≤ 800000000) (hfr : 20 ≤ R.frames) (hlo : 400 ≤ R.locals) (hce : cells + 4 ≤ R.cells) (hsl : slots + 24 ≤ R.slots)
    (cont : ∀ (σ2 : Nat → Nat → Int32) (f2 : Nat → Int64) (g2 : Nat → UInt64) (H2 : Heap) (locs2 : List Loc) (ls2 : Array Slot), LI D G B0 cL cD (K+500000) σ2 f2 g2 H2 → va_S (AC B0) s.heap H2 locs2 → lv_has ls2 8 [(5, .int (nI i)), (4, .ref (B0+291)), (3, .ref (B0+290)), (2, .ref (adH B0 279)), (1, .ref (adH B0 270)), (0, .ref b)] → W p l e R s m args below meth c H2 locs2 (cells + 4) (slots + 24) Q (F0 m 2317 ls2 [])) : W p l e R s m args below meth c H locs cells slots Q (F0 m 560 ls []) := by
  obtain ⟨hK, hN, hT, hLw, ⟨adK, adV, hG, hR⟩, hNc, hKo, hKd, hX, hbl, hsz⟩ := id hLA
  obtain ⟨hP, hPo, hPd, hTop, hO⟩ := hLI
  have hA := adH_ok B0
  have hbA : ¬ AC B0 b := fun z => by have z : B0 ≤ b := z; omega
  refine lv_aload_n hx hb dL_law_560 rfl (lv_at hl 4 rfl) ?_
  refine lv_aload_n hx hb dL_law_561 rfl (lv_at hl 5 rfl) ?_
  refine lv_iload hx hb dL_law_562 (lv_at hl 0 rfl) ?_
  refine lv_iconst (v := 1) hx hb dL_law_564 (by decide) ?_
  refine lv_iadd hx hb dL_law_565 ?_
  refine va_sld hx hb hX hbl hbA hS (in_scr hi hL (k := 1) (by decide)) dL_law_566 ?_
  refine lv_aload_n hx hb dL_law_567 rfl (lv_at hl 5 rfl) ?_
  refine lv_iload hx hb dL_law_568 (lv_at hl 0 rfl) ?_
  refine lv_iconst (v := 2) hx hb dL_law_570 (by decide) ?_
  refine lv_iadd hx hb dL_law_571 ?_
  refine va_sld hx hb hX hbl hbA hS (in_scr hi hL (k := 2) (by decide)) dL_law_572 ?_
  refine lv_aload_n hx hb dL_law_573 rfl (lv_at hl 2 rfl) ?_
  have hPM := t_press (a := (xs (nI i + 1).toNatClampNeg)) (b := (xs (nI i + 2).toNatClampNeg)) hTop
  refine vx_calli (vx_runSX (As := [.ref (adH B0 270), .int (xs (nI i + 1).toNatClampNeg), .int (xs (nI i + 2).toNatClampNeg), .ref (B0+290)]) (rest := []) ⟨hx, hb, hml, hown, hts⟩ (cL_press_met l hl0 hA σ (xs (nI i + 1).toNatClampNeg) (xs (nI i + 2).toNatClampNeg) cL f hO hPM.hE) (vx_cwSW 4 hts gL_law_L_press rfl rfl rfl hd_L_pressS ⟨Nat.le_trans (by decide) hfr, Nat.le_trans (by decide) hlo⟩) ⟨hw1_blind, hw1_pre hK hN hT hLw hG hR hNc hsz hS hP hPo hKo⟩ rfl rfl hl.1 rfl (lv_room (Nat.le_of_ble_eq_true rfl)) dL_law_574 ⟨by omega, by omega⟩) hS (fun q _ h => aw1_ac h) (fun q h => aw1_ac h) (fun q _ h => aw1_ac h) (fun _ _ _ _ _ _ _ _ _ hw9 _ _ _ _ _ _ _ => hw9.elim) (fun r6 z1 t H locs ht hvm hw6 hB hz1 hk1 hS => ?_)
  obtain ⟨ok6, hw6⟩ := hw6
  obtain ⟨σ1, eσ1⟩ : ∃ z, z = z1.1 := ⟨_, rfl⟩
  obtain ⟨hB1, hB2⟩ := hB
  rw [← eσ1] at ok6 hw6 hB1
  have hP : va_P D vwCl (pool G (adH B0) σ1) H := ho_at ht hB1
  have hPo : va_P D vwCl [(B0+290, .inl (cL, 1, .inr (.inl z1.2)))] H := by rw [← ht]; exact hB2
  have hPd := hPd.kept (fun k q hk => hk1 q.1 (vx_lt hPd hk) (wo_o21 hk))
  refine lv_istore (lv' := [(6, .int r6), (5, .int (nI i)), (4, .ref (B0+291)), (3, .ref (B0+290)), (2, .ref (adH B0 279)), (1, .ref (adH B0 270)), (0, .ref b)]) hx hb dL_law_577 hl (by decide) rfl (fun ls hl => ?_)
  refine lv_aload_n hx hb dL_law_579 rfl (lv_at hl 4 rfl) ?_
  refine lv_aload_n hx hb dL_law_580 rfl (lv_at hl 6 rfl) ?_
  refine lv_iload hx hb dL_law_581 (lv_at hl 1 rfl) ?_
  refine lv_iconst (v := 1) hx hb dL_law_583 (by decide) ?_
  refine lv_iadd hx hb dL_law_584 ?_
  refine va_sld hx hb hX hbl hbA hS (in_scr hi hL (k := 1) (by decide)) dL_law_585 ?_
  refine lv_aload_n hx hb dL_law_586 rfl (lv_at hl 6 rfl) ?_
  refine lv_iload hx hb dL_law_587 (lv_at hl 1 rfl) ?_
  refine lv_iconst (v := 2) hx hb dL_law_589 (by decide) ?_
  refine lv_iadd hx hb dL_law_590 ?_
  refine va_sld hx hb hX hbl hbA hS (in_scr hi hL (k := 2) (by decide)) dL_law_591 ?_
  have hls := ls_of (P := fun v => z1.2 0 = v.toInt64) hPM (cd2_i (by decide)) hw6
  obtain ⟨hT1, h16, h490, hval⟩ := hls
  have hu : va_up σ1 16 (σ 16) = σ1 := by rw [← h16]; exact up_eta σ1 16
  rw [← hu] at hP
  refine va_calli (va_runV (As := [.int (xs (nI i + 1).toNatClampNeg), .int (xs (nI i + 2).toNatClampNeg)]) (rest := []) ⟨hx, hb, hml, hown, hts⟩ (c7_press l hA σ1 (σ 16) (xs (nI i + 1).toNatClampNeg) (xs (nI i + 2).toNatClampNeg) hO.2.2) (cwV 2 hts gL_law_X7_press rfl rfl rfl hd_X7_pressV ⟨Nat.le_trans (by decide) hfr, Nat.le_trans (by decide) hlo⟩) ⟨hp_blind, va_recv hK hP (ci := 9) (q0 := 279) rfl c_279, hp_pre hK hN hP⟩ rfl rfl hl.1 rfl (lv_room (Nat.le_of_ble_eq_true rfl)) dL_law_592 ⟨by omega, by omega⟩) hS (fun q _ h => aa_ac h) (fun q h => aa_ac h) (fun r7 u7 t H locs ht hvm hw7 hB hz1 hk1 hS => ?_)
  have hP : va_P D vwCl (pool G (adH B0) (va_up σ1 16 u7)) H := ho_at ht hB
  have hPo := hPo.kept (fun k q hk => hk1 q.1 (vx_lt hPo hk) (wo_out1 hk))
  have hPd := hPd.kept (fun k q hk => hk1 q.1 (vx_lt hPd hk) (wo_out2 hk))
  obtain ⟨eq7, ok7⟩ := hw7
  rw [← eq7] at hT1 h490 hval
  refine lv_istore (lv' := [(7, .int r7), (6, .int r6), (5, .int (nI i)), (4, .ref (B0+291)), (3, .ref (B0+290)), (2, .ref (adH B0 279)), (1, .ref (adH B0 270)), (0, .ref b)]) hx hb dL_law_595 hl (by decide) rfl (fun ls hl => ?_)
  refine lv_aload_n hx hb dL_law_597 rfl (lv_at hl 5 rfl) ?_
  refine va_calli (va_runV (As := []) (rest := []) ⟨hx, hb, hml, hown, hts⟩ (c7_thrown l hA σ1 u7) (cwV 0 hts gL_law_X7_thrown rfl rfl rfl hd_X7_thrownV ⟨Nat.le_trans (by decide) hfr, Nat.le_trans (by decide) hlo⟩) ⟨hp_blind, va_recv hK hP (ci := 9) (q0 := 279) rfl c_279, hp_pre hK hN hP⟩ rfl rfl hl.1 rfl (lv_room (Nat.le_of_ble_eq_true rfl)) dL_law_598 ⟨by omega, by omega⟩) hS (fun q _ h => aa_ac h) (fun q h => aa_ac h) (fun r8 _ t H locs ht hvm hw8 hB hz1 hk1 hS => ?_)
  have hP : va_P D vwCl (pool G (adH B0) (va_up σ1 16 u7)) H := ho_at ht hB
  have hPo := hPo.kept (fun k q hk => hk1 q.1 (vx_lt hPo hk) (wo_out1 hk))
  have hPd := hPd.kept (fun k q hk => hk1 q.1 (vx_lt hPd hk) (wo_out2 hk))
  refine lv_iload hx hb dL_law_601 (lv_at hl 1 rfl) ?_
  refine lv_icmp_eq (tgt := 608) hx hb dL_law_603 (by decide) (fun c9 => ?_) (fun c9 => absurd (hw8.trans h490) c9)
  have hdone : ∀ (k0 n0 : Nat), k0 ≤ cells + 4 → n0 ≤ slots + 24 → ∀ ls2 : Array Slot, lv_has ls2 8 [(7, .int r7), (6, .int r6), (5, .int (nI i)), (4, .ref (B0+291)), (3, .ref (B0+290)), (2, .ref (adH B0 279)), (1, .ref (adH B0 270)), (0, .ref b)] → W p l e R s m args below meth c H locs k0 n0 Q (F0 m 2317 ls2 []) := fun k0 n0 hk0 hn0 ls2 hl2 => W.widen (k := cells + 4) (n := slots + 24) hk0 hn0 (cont _ z1.2 g H locs ls2 ⟨hP, hPo, hPd, (top_16 hT1).mono (by omega), okS_16 ok6 ok7⟩ hS (lv_sub hl2 [2, 3, 4, 5, 6, 7] rfl))
  refine lv_iload hx hb dL_law_608 (lv_at hl 1 rfl) ?_
  refine lv_if_ne (tgt := 625) hx hb dL_law_610 (by decide) (fun c8 => ?_) (fun c8 => ?_)
  · refine lv_goto (tgt := 2317) hx hb dL_law_625 (by decide) ?_
    exact hdone _ _ (by omega) (by omega) ls hl
  obtain ⟨v9, hv9, rfl⟩ := hval c8
  refine lv_aload_n hx hb dL_law_613 rfl (lv_at hl 4 rfl) ?_
  refine lv_iconst (v := 0) hx hb dL_law_614 (by decide) ?_
  refine va_lald (tys := [(cL, .long)]) hx hb hKo hPo 0 0 rfl rfl (vp_in_iff.mpr (by decide)) dL_law_615 ?_
  have hv9 : z1.2 (0 : Int32).toNatClampNeg = _ := hv9
  rw [hv9]
  refine lv_iload hx hb dL_law_616 (lv_at hl 0 rfl) ?_
  refine lv_i2l (v := v9.toInt64) hx hb dL_law_618 rfl ?_
  refine W.lcmp hx hb dL_law_619 ?_
  refine lv_if_eq (tgt := 625) hx hb dL_law_620 (by decide) (fun c7 => ?_) (fun c7 => absurd (lg_cmp_self _) c7)
  refine lv_goto (tgt := 2317) hx hb dL_law_625 (by decide) ?_
  exact hdone _ _ (by omega) (by omega) ls hl
set_option maxHeartbeats 2000000 in
set_option maxRecDepth 100000 in
theorem law_6 {p : Program} {l : Launch} {e : Env} {R : Room} {s : State} {m : MethodId} {args : Array Value} {below : List Frame} {meth : Method} {c : Code} {Q : State → Prop} (hl0 : l.stackTraces = false) {D : va_G} {G : CY} {B0 b L i cells slots : Nat} {xs : Nat → Int32} {cL cD : ClassId} {K : Int} {σ : Nat → Nat → Int32} {f : Nat → Int64} {g : Nat → UInt64} {H : Heap} {locs : List Loc} {ls : Array Slot}
    (hx : p.tables.exec = Jvm.exec) (hb : c.code = code) (hml : c.maxLocals = 8) (hown : s.vm.findClass RL = some m.cls) (hts : ∀ w ∈ lw_tbl, w.before args s = true) (hLA : LA D G B0 cL cD b L xs s) (hLI : LI D G B0 cL cD K σ f g H) (hS : va_S (AC B0) s.heap H locs) (hl : lv_has ls 8 [(5, .int (nI i)), (4, .ref (B0+291)), (3, .ref (B0+290)), (2, .ref (adH B0 279)), (1, .ref (adH B0 270)), (0, .ref b)]) (hi : i + 7 ≤ L) (hL : L ≤ 3584) (hK8 : K ≤ 800000000) (hfr : 20 ≤ R.frames) (hlo : 400 ≤ R.locals) (hce : cells + 4 ≤ R.cells) (hsl : slots + 24 ≤ R.slots)
    (cont : ∀ (σ2 : Nat → Nat → Int32) (f2 : Nat → Int64) (g2 : Nat → UInt64) (H2 : Heap) (locs2 : List Loc) (ls2 : Array Slot), LI D G B0 cL cD (K+500000) σ2 f2 g2 H2 → va_S (AC B0) s.heap H2 locs2 → lv_has ls2 8 [(5, .int (nI i)), (4, .ref (B0+291)), (3, .ref (B0+290)), (2, .ref (adH B0 279)), (1, .ref (adH B0 270)), (0, .ref b)] → W p l e R s m args below meth c H2 locs2 (cells + 4) (slots + 24) Q (F0 m 2317 ls2 [])) : W p l e R s m args below meth c H locs cells slots Q (F0 m 628 ls []) := by
  obtain ⟨hK, hN, hT, hLw, ⟨adK, adV, hG, hR⟩, hNc, hKo, hKd, hX, hbl, hsz⟩ := id hLA
  obtain ⟨hP, hPo, hPd, hTop, hO⟩ := hLI
  have hA := adH_ok B0
  have hbA : ¬ AC B0 b := fun z => by have z : B0 ≤ b := z; omega
  refine lv_aload_n hx hb dL_law_628 rfl (lv_at hl 4 rfl) ?_
  refine lv_aload_n hx hb dL_law_629 rfl (lv_at hl 5 rfl) ?_
  refine lv_iload hx hb dL_law_630 (lv_at hl 0 rfl) ?_
  refine lv_iconst (v := 1) hx hb dL_law_632 (by decide) ?_
  refine lv_iadd hx hb dL_law_633 ?_
  refine va_sld hx hb hX hbl hbA hS (in_scr hi hL (k := 1) (by decide)) dL_law_634 ?_
  refine lv_aload_n hx hb dL_law_635 rfl (lv_at hl 5 rfl) ?_
  refine lv_iload hx hb dL_law_636 (lv_at hl 0 rfl) ?_
  refine lv_iconst (v := 2) hx hb dL_law_638 (by decide) ?_
  refine lv_iadd hx hb dL_law_639 ?_
  refine va_sld hx hb hX hbl hbA hS (in_scr hi hL (k := 2) (by decide)) dL_law_640 ?_
  refine lv_aload_n hx hb dL_law_641 rfl (lv_at hl 5 rfl) ?_
  refine lv_iload hx hb dL_law_642 (lv_at hl 0 rfl) ?_
  refine lv_iconst (v := 3) hx hb dL_law_644 (by decide) ?_
  refine lv_iadd hx hb dL_law_645 ?_
  refine va_sld hx hb hX hbl hbA hS (in_scr hi hL (k := 3) (by decide)) dL_law_646 ?_
  refine lv_aload_n hx hb dL_law_647 rfl (lv_at hl 2 rfl) ?_
  have hPM := t_push (a := (xs (nI i + 1).toNatClampNeg)) (b := (xs (nI i + 2).toNatClampNeg)) (c1 := (xs (nI i + 3).toNatClampNeg)) hTop
  refine vx_calli (vx_runSX (As := [.ref (adH B0 270), .int (xs (nI i + 1).toNatClampNeg), .int (xs (nI i + 2).toNatClampNeg), .int (xs (nI i + 3).toNatClampNeg), .ref (B0+290)]) (rest := []) ⟨hx, hb, hml, hown, hts⟩ (cL_push_met l hl0 hA σ (xs (nI i + 1).toNatClampNeg) (xs (nI i + 2).toNatClampNeg) (xs (nI i + 3).toNatClampNeg) cL f hO hPM.hE) (vx_cwSW 5 hts gL_law_L_push rfl rfl rfl hd_L_pushS ⟨Nat.le_trans (by decide) hfr, Nat.le_trans (by decide) hlo⟩) ⟨hw1_blind, hw1_pre hK hN hT hLw hG hR hNc hsz hS hP hPo hKo⟩ rfl rfl hl.1 rfl (lv_room (Nat.le_of_ble_eq_true rfl)) dL_law_648 ⟨by omega, by omega⟩) hS (fun q _ h => aw1_ac h) (fun q h => aw1_ac h) (fun q _ h => aw1_ac h) (fun _ _ _ _ _ _ _ _ _ hw9 _ _ _ _ _ _ _ => hw9.elim) (fun r6 z1 t H locs ht hvm hw6 hB hz1 hk1 hS => ?_)
  obtain ⟨ok6, hw6⟩ := hw6
  obtain ⟨σ1, eσ1⟩ : ∃ z, z = z1.1 := ⟨_, rfl⟩
  obtain ⟨hB1, hB2⟩ := hB
  rw [← eσ1] at ok6 hw6 hB1
  have hP : va_P D vwCl (pool G (adH B0) σ1) H := ho_at ht hB1
  have hPo : va_P D vwCl [(B0+290, .inl (cL, 1, .inr (.inl z1.2)))] H := by rw [← ht]; exact hB2
  have hPd := hPd.kept (fun k q hk => hk1 q.1 (vx_lt hPd hk) (wo_o21 hk))
  refine lv_istore (lv' := [(6, .int r6), (5, .int (nI i)), (4, .ref (B0+291)), (3, .ref (B0+290)), (2, .ref (adH B0 279)), (1, .ref (adH B0 270)), (0, .ref b)]) hx hb dL_law_651 hl (by decide) rfl (fun ls hl => ?_)
  refine lv_aload_n hx hb dL_law_653 rfl (lv_at hl 4 rfl) ?_
  refine lv_aload_n hx hb dL_law_654 rfl (lv_at hl 6 rfl) ?_
  refine lv_iload hx hb dL_law_655 (lv_at hl 1 rfl) ?_
  refine lv_iconst (v := 1) hx hb dL_law_657 (by decide) ?_
  refine lv_iadd hx hb dL_law_658 ?_
  refine va_sld hx hb hX hbl hbA hS (in_scr hi hL (k := 1) (by decide)) dL_law_659 ?_
  refine lv_aload_n hx hb dL_law_660 rfl (lv_at hl 6 rfl) ?_
  refine lv_iload hx hb dL_law_661 (lv_at hl 1 rfl) ?_
  refine lv_iconst (v := 2) hx hb dL_law_663 (by decide) ?_
  refine lv_iadd hx hb dL_law_664 ?_
  refine va_sld hx hb hX hbl hbA hS (in_scr hi hL (k := 2) (by decide)) dL_law_665 ?_
  refine lv_aload_n hx hb dL_law_666 rfl (lv_at hl 6 rfl) ?_
  refine lv_iload hx hb dL_law_667 (lv_at hl 1 rfl) ?_
  refine lv_iconst (v := 3) hx hb dL_law_669 (by decide) ?_
  refine lv_iadd hx hb dL_law_670 ?_
  refine va_sld hx hb hX hbl hbA hS (in_scr hi hL (k := 3) (by decide)) dL_law_671 ?_
  have hls := ls_of (P := fun v => z1.2 0 = v.toInt64) hPM (cd2_i (by decide)) hw6
  obtain ⟨hT1, h16, h490, hval⟩ := hls
  have hu : va_up σ1 16 (σ 16) = σ1 := by rw [← h16]; exact up_eta σ1 16
  rw [← hu] at hP
  refine va_calli (va_runV (As := [.int (xs (nI i + 1).toNatClampNeg), .int (xs (nI i + 2).toNatClampNeg), .int (xs (nI i + 3).toNatClampNeg)]) (rest := []) ⟨hx, hb, hml, hown, hts⟩ (c7_push l hA σ1 (σ 16) (xs (nI i + 1).toNatClampNeg) (xs (nI i + 2).toNatClampNeg) (xs (nI i + 3).toNatClampNeg) hO.2.2) (cwV 3 hts gL_law_X7_push rfl rfl rfl hd_X7_pushV ⟨Nat.le_trans (by decide) hfr, Nat.le_trans (by decide) hlo⟩) ⟨hp_blind, va_recv hK hP (ci := 9) (q0 := 279) rfl c_279, hp_pre hK hN hP⟩ rfl rfl hl.1 rfl (lv_room (Nat.le_of_ble_eq_true rfl)) dL_law_672 ⟨by omega, by omega⟩) hS (fun q _ h => aa_ac h) (fun q h => aa_ac h) (fun r7 u7 t H locs ht hvm hw7 hB hz1 hk1 hS => ?_)
  have hP : va_P D vwCl (pool G (adH B0) (va_up σ1 16 u7)) H := ho_at ht hB
  have hPo := hPo.kept (fun k q hk => hk1 q.1 (vx_lt hPo hk) (wo_out1 hk))
  have hPd := hPd.kept (fun k q hk => hk1 q.1 (vx_lt hPd hk) (wo_out2 hk))
  obtain ⟨eq7, ok7⟩ := hw7
  rw [← eq7] at hT1 h490 hval
  refine lv_istore (lv' := [(7, .int r7), (6, .int r6), (5, .int (nI i)), (4, .ref (B0+291)), (3, .ref (B0+290)), (2, .ref (adH B0 279)), (1, .ref (adH B0 270)), (0, .ref b)]) hx hb dL_law_675 hl (by decide) rfl (fun ls hl => ?_)
  refine lv_aload_n hx hb dL_law_677 rfl (lv_at hl 5 rfl) ?_
  refine va_calli (va_runV (As := []) (rest := []) ⟨hx, hb, hml, hown, hts⟩ (c7_thrown l hA σ1 u7) (cwV 0 hts gL_law_X7_thrown rfl rfl rfl hd_X7_thrownV ⟨Nat.le_trans (by decide) hfr, Nat.le_trans (by decide) hlo⟩) ⟨hp_blind, va_recv hK hP (ci := 9) (q0 := 279) rfl c_279, hp_pre hK hN hP⟩ rfl rfl hl.1 rfl (lv_room (Nat.le_of_ble_eq_true rfl)) dL_law_678 ⟨by omega, by omega⟩) hS (fun q _ h => aa_ac h) (fun q h => aa_ac h) (fun r8 _ t H locs ht hvm hw8 hB hz1 hk1 hS => ?_)
  have hP : va_P D vwCl (pool G (adH B0) (va_up σ1 16 u7)) H := ho_at ht hB
  have hPo := hPo.kept (fun k q hk => hk1 q.1 (vx_lt hPo hk) (wo_out1 hk))
  have hPd := hPd.kept (fun k q hk => hk1 q.1 (vx_lt hPd hk) (wo_out2 hk))
  refine lv_iload hx hb dL_law_681 (lv_at hl 1 rfl) ?_
  refine lv_icmp_eq (tgt := 688) hx hb dL_law_683 (by decide) (fun c9 => ?_) (fun c9 => absurd (hw8.trans h490) c9)
  have hdone : ∀ (k0 n0 : Nat), k0 ≤ cells + 4 → n0 ≤ slots + 24 → ∀ ls2 : Array Slot, lv_has ls2 8 [(7, .int r7), (6, .int r6), (5, .int (nI i)), (4, .ref (B0+291)), (3, .ref (B0+290)), (2, .ref (adH B0 279)), (1, .ref (adH B0 270)), (0, .ref b)] → W p l e R s m args below meth c H locs k0 n0 Q (F0 m 2317 ls2 []) := fun k0 n0 hk0 hn0 ls2 hl2 => W.widen (k := cells + 4) (n := slots + 24) hk0 hn0 (cont _ z1.2 g H locs ls2 ⟨hP, hPo, hPd, (top_16 hT1).mono (by omega), okS_16 ok6 ok7⟩ hS (lv_sub hl2 [2, 3, 4, 5, 6, 7] rfl))
  refine lv_iload hx hb dL_law_688 (lv_at hl 1 rfl) ?_
  refine lv_if_ne (tgt := 705) hx hb dL_law_690 (by decide) (fun c8 => ?_) (fun c8 => ?_)
  · refine lv_goto (tgt := 2317) hx hb dL_law_705 (by decide) ?_
    exact hdone _ _ (by omega) (by omega) ls hl
  obtain ⟨v9, hv9, rfl⟩ := hval c8
  refine lv_aload_n hx hb dL_law_693 rfl (lv_at hl 4 rfl) ?_
  refine lv_iconst (v := 0) hx hb dL_law_694 (by decide) ?_
  refine va_lald (tys := [(cL, .long)]) hx hb hKo hPo 0 0 rfl rfl (vp_in_iff.mpr (by decide)) dL_law_695 ?_
  have hv9 : z1.2 (0 : Int32).toNatClampNeg = _ := hv9
  rw [hv9]
  refine lv_iload hx hb dL_law_696 (lv_at hl 0 rfl) ?_
  refine lv_i2l (v := v9.toInt64) hx hb dL_law_698 rfl ?_
  refine W.lcmp hx hb dL_law_699 ?_
  refine lv_if_eq (tgt := 705) hx hb dL_law_700 (by decide) (fun c7 => ?_) (fun c7 => absurd (lg_cmp_self _) c7)
  refine lv_goto (tgt := 2317) hx hb dL_law_705 (by decide) ?_
  exact hdone _ _ (by omega) (by omega) ls hl
set_option maxHeartbeats 2000000 in
set_option maxRecDepth 100000 in
theorem law_7 {p : Program} {l : Launch} {e : Env} {R : Room} {s : State} {m : MethodId} {args : Array Value} {below : List Frame} {meth : Method} {c : Code} {Q : State → Prop} (hl0 : l.stackTraces = false) {D : va_G} {G : CY} {B0 b L i cells slots : Nat} {xs : Nat → Int32} {cL cD : ClassId} {K : Int} {σ : Nat → Nat → Int32} {f : Nat → Int64} {g : Nat → UInt64} {H : Heap} {locs : List Loc} {ls : Array Slot}
    (hx : p.tables.exec = Jvm.exec) (hb : c.code = code) (hml : c.maxLocals = 8) (hown : s.vm.findClass RL = some m.cls) (hts : ∀ w ∈ lw_tbl, w.before args s = true) (hLA : LA D G B0 cL cD b L xs s) (hLI : LI D G B0 cL cD K σ f g H) (hS : va_S (AC B0) s.heap H locs) (hl : lv_has ls 8 [(5, .int (nI i)), (4, .ref (B0+291)), (3, .ref (B0+290)), (2, .ref (adH B0 279)), (1, .ref (adH B0 270)), (0, .ref b)]) (hi : i + 7 ≤ L) (hL : L ≤ 3584) (hK8 : K ≤ 800000000) (hfr : 20 ≤ R.frames) (hlo : 400 ≤ R.locals) (hce : cells + 4 ≤ R.cells) (hsl : slots + 24 ≤ R.slots)
    (cont : ∀ (σ2 : Nat → Nat → Int32) (f2 : Nat → Int64) (g2 : Nat → UInt64) (H2 : Heap) (locs2 : List Loc) (ls2 : Array Slot), LI D G B0 cL cD (K+500000) σ2 f2 g2 H2 → va_S (AC B0) s.heap H2 locs2 → lv_has ls2 8 [(5, .int (nI i)), (4, .ref (B0+291)), (3, .ref (B0+290)), (2, .ref (adH B0 279)), (1, .ref (adH B0 270)), (0, .ref b)] → W p l e R s m args below meth c H2 locs2 (cells + 4) (slots + 24) Q (F0 m 2317 ls2 [])) : W p l e R s m args below meth c H locs cells slots Q (F0 m 708 ls []) := by
  obtain ⟨hK, hN, hT, hLw, ⟨adK, adV, hG, hR⟩, hNc, hKo, hKd, hX, hbl, hsz⟩ := id hLA
  obtain ⟨hP, hPo, hPd, hTop, hO⟩ := hLI
  have hA := adH_ok B0
  have hbA : ¬ AC B0 b := fun z => by have z : B0 ≤ b := z; omega
  refine lv_aload_n hx hb dL_law_708 rfl (lv_at hl 4 rfl) ?_
  refine lv_aload_n hx hb dL_law_709 rfl (lv_at hl 5 rfl) ?_
  refine lv_iload hx hb dL_law_710 (lv_at hl 0 rfl) ?_
  refine lv_iconst (v := 1) hx hb dL_law_712 (by decide) ?_
  refine lv_iadd hx hb dL_law_713 ?_
  refine va_sld hx hb hX hbl hbA hS (in_scr hi hL (k := 1) (by decide)) dL_law_714 ?_
  refine lv_aload_n hx hb dL_law_715 rfl (lv_at hl 5 rfl) ?_
  refine lv_iload hx hb dL_law_716 (lv_at hl 0 rfl) ?_
  refine lv_iconst (v := 2) hx hb dL_law_718 (by decide) ?_
  refine lv_iadd hx hb dL_law_719 ?_
  refine va_sld hx hb hX hbl hbA hS (in_scr hi hL (k := 2) (by decide)) dL_law_720 ?_
  refine lv_aload_n hx hb dL_law_721 rfl (lv_at hl 5 rfl) ?_
  refine lv_iload hx hb dL_law_722 (lv_at hl 0 rfl) ?_
  refine lv_iconst (v := 3) hx hb dL_law_724 (by decide) ?_
  refine lv_iadd hx hb dL_law_725 ?_
  refine va_sld hx hb hX hbl hbA hS (in_scr hi hL (k := 3) (by decide)) dL_law_726 ?_
  refine lv_aload_n hx hb dL_law_727 rfl (lv_at hl 5 rfl) ?_
  refine lv_iload hx hb dL_law_728 (lv_at hl 0 rfl) ?_
  refine lv_iconst (v := 4) hx hb dL_law_730 (by decide) ?_
  refine lv_iadd hx hb dL_law_731 ?_
  refine va_sld hx hb hX hbl hbA hS (in_scr hi hL (k := 4) (by decide)) dL_law_732 ?_
  refine lv_aload_n hx hb dL_law_733 rfl (lv_at hl 5 rfl) ?_
  refine lv_iload hx hb dL_law_734 (lv_at hl 0 rfl) ?_
  refine lv_iconst (v := 5) hx hb dL_law_736 (by decide) ?_
  refine lv_iadd hx hb dL_law_737 ?_
  refine va_sld hx hb hX hbl hbA hS (in_scr hi hL (k := 5) (by decide)) dL_law_738 ?_
  refine lv_aload_n hx hb dL_law_739 rfl (lv_at hl 5 rfl) ?_
  refine lv_iload hx hb dL_law_740 (lv_at hl 0 rfl) ?_
  refine lv_bipush (v := 6) hx hb dL_law_742 (by decide) ?_
  refine lv_iadd hx hb dL_law_744 ?_
  refine va_sld hx hb hX hbl hbA hS (in_scr hi hL (k := 6) (by decide)) dL_law_745 ?_
  refine lv_aload_n hx hb dL_law_746 rfl (lv_at hl 2 rfl) ?_
  have hPM := t_addPlatform (a := (xs (nI i + 1).toNatClampNeg)) (b := (xs (nI i + 2).toNatClampNeg)) (w := (xs (nI i + 3).toNatClampNeg)) (dx := (xs (nI i + 4).toNatClampNeg)) (dy := (xs (nI i + 5).toNatClampNeg)) (rg := (xs (nI i + 6).toNatClampNeg)) hTop
  refine vx_calli (vx_runSX (As := [.ref (adH B0 270), .int (xs (nI i + 1).toNatClampNeg), .int (xs (nI i + 2).toNatClampNeg), .int (xs (nI i + 3).toNatClampNeg), .int (xs (nI i + 4).toNatClampNeg), .int (xs (nI i + 5).toNatClampNeg), .int (xs (nI i + 6).toNatClampNeg), .ref (B0+290)]) (rest := []) ⟨hx, hb, hml, hown, hts⟩ (cL_addPlatform_met l hl0 hA σ (xs (nI i + 1).toNatClampNeg) (xs (nI i + 2).toNatClampNeg) (xs (nI i + 3).toNatClampNeg) (xs (nI i + 4).toNatClampNeg) (xs (nI i + 5).toNatClampNeg) (xs (nI i + 6).toNatClampNeg) cL f hO hPM.hE) (vx_cwSW 8 hts gL_law_L_addPlatform rfl rfl rfl hd_L_addPlatformS ⟨Nat.le_trans (by decide) hfr, Nat.le_trans (by decide) hlo⟩) ⟨hw1_blind, hw1_pre hK hN hT hLw hG hR hNc hsz hS hP hPo hKo⟩ rfl rfl hl.1 rfl (lv_room (Nat.le_of_ble_eq_true rfl)) dL_law_747 ⟨by omega, by omega⟩) hS (fun q _ h => aw1_ac h) (fun q h => aw1_ac h) (fun q _ h => aw1_ac h) (fun _ _ _ _ _ _ _ _ _ hw9 _ _ _ _ _ _ _ => hw9.elim) (fun r6 z1 t H locs ht hvm hw6 hB hz1 hk1 hS => ?_)
  obtain ⟨ok6, hw6⟩ := hw6
  obtain ⟨σ1, eσ1⟩ : ∃ z, z = z1.1 := ⟨_, rfl⟩
  obtain ⟨hB1, hB2⟩ := hB
  rw [← eσ1] at ok6 hw6 hB1
  have hP : va_P D vwCl (pool G (adH B0) σ1) H := ho_at ht hB1
  have hPo : va_P D vwCl [(B0+290, .inl (cL, 1, .inr (.inl z1.2)))] H := by rw [← ht]; exact hB2
  have hPd := hPd.kept (fun k q hk => hk1 q.1 (vx_lt hPd hk) (wo_o21 hk))
  refine lv_istore (lv' := [(6, .int r6), (5, .int (nI i)), (4, .ref (B0+291)), (3, .ref (B0+290)), (2, .ref (adH B0 279)), (1, .ref (adH B0 270)), (0, .ref b)]) hx hb dL_law_750 hl (by decide) rfl (fun ls hl => ?_)
  refine lv_aload_n hx hb dL_law_752 rfl (lv_at hl 4 rfl) ?_
  refine lv_aload_n hx hb dL_law_753 rfl (lv_at hl 6 rfl) ?_
  refine lv_iload hx hb dL_law_754 (lv_at hl 1 rfl) ?_
  refine lv_iconst (v := 1) hx hb dL_law_756 (by decide) ?_
  refine lv_iadd hx hb dL_law_757 ?_
  refine va_sld hx hb hX hbl hbA hS (in_scr hi hL (k := 1) (by decide)) dL_law_758 ?_
  refine lv_aload_n hx hb dL_law_759 rfl (lv_at hl 6 rfl) ?_
  refine lv_iload hx hb dL_law_760 (lv_at hl 1 rfl) ?_
  refine lv_iconst (v := 2) hx hb dL_law_762 (by decide) ?_
  refine lv_iadd hx hb dL_law_763 ?_
  refine va_sld hx hb hX hbl hbA hS (in_scr hi hL (k := 2) (by decide)) dL_law_764 ?_
  refine lv_aload_n hx hb dL_law_765 rfl (lv_at hl 6 rfl) ?_
  refine lv_iload hx hb dL_law_766 (lv_at hl 1 rfl) ?_
  refine lv_iconst (v := 3) hx hb dL_law_768 (by decide) ?_
  refine lv_iadd hx hb dL_law_769 ?_
  refine va_sld hx hb hX hbl hbA hS (in_scr hi hL (k := 3) (by decide)) dL_law_770 ?_
  refine lv_aload_n hx hb dL_law_771 rfl (lv_at hl 6 rfl) ?_
  refine lv_iload hx hb dL_law_772 (lv_at hl 1 rfl) ?_
  refine lv_iconst (v := 4) hx hb dL_law_774 (by decide) ?_
  refine lv_iadd hx hb dL_law_775 ?_
  refine va_sld hx hb hX hbl hbA hS (in_scr hi hL (k := 4) (by decide)) dL_law_776 ?_
  refine lv_aload_n hx hb dL_law_777 rfl (lv_at hl 6 rfl) ?_
  refine lv_iload hx hb dL_law_778 (lv_at hl 1 rfl) ?_
  refine lv_iconst (v := 5) hx hb dL_law_780 (by decide) ?_
  refine lv_iadd hx hb dL_law_781 ?_
  refine va_sld hx hb hX hbl hbA hS (in_scr hi hL (k := 5) (by decide)) dL_law_782 ?_
  refine lv_aload_n hx hb dL_law_783 rfl (lv_at hl 6 rfl) ?_
  refine lv_iload hx hb dL_law_784 (lv_at hl 1 rfl) ?_
  refine lv_bipush (v := 6) hx hb dL_law_786 (by decide) ?_
  refine lv_iadd hx hb dL_law_788 ?_
  refine va_sld hx hb hX hbl hbA hS (in_scr hi hL (k := 6) (by decide)) dL_law_789 ?_
  have hls := ls_of (P := fun v => z1.2 0 = v.toInt64) hPM (cd2_i (by decide)) hw6
  obtain ⟨hT1, h16, h490, hval⟩ := hls
  have hu : va_up σ1 16 (σ 16) = σ1 := by rw [← h16]; exact up_eta σ1 16
  rw [← hu] at hP
  refine va_calli (va_runV (As := [.int (xs (nI i + 1).toNatClampNeg), .int (xs (nI i + 2).toNatClampNeg), .int (xs (nI i + 3).toNatClampNeg), .int (xs (nI i + 4).toNatClampNeg), .int (xs (nI i + 5).toNatClampNeg), .int (xs (nI i + 6).toNatClampNeg)]) (rest := []) ⟨hx, hb, hml, hown, hts⟩ (c7_addPlatform l hA σ1 (σ 16) (xs (nI i + 1).toNatClampNeg) (xs (nI i + 2).toNatClampNeg) (xs (nI i + 3).toNatClampNeg) (xs (nI i + 4).toNatClampNeg) (xs (nI i + 5).toNatClampNeg) (xs (nI i + 6).toNatClampNeg) hO.2.2) (cwV 6 hts gL_law_X7_addPlatform rfl rfl rfl hd_X7_addPlatformV ⟨Nat.le_trans (by decide) hfr, Nat.le_trans (by decide) hlo⟩) ⟨hp_blind, va_recv hK hP (ci := 9) (q0 := 279) rfl c_279, hp_pre hK hN hP⟩ rfl rfl hl.1 rfl (lv_room (Nat.le_of_ble_eq_true rfl)) dL_law_790 ⟨by omega, by omega⟩) hS (fun q _ h => aa_ac h) (fun q h => aa_ac h) (fun r7 u7 t H locs ht hvm hw7 hB hz1 hk1 hS => ?_)
  have hP : va_P D vwCl (pool G (adH B0) (va_up σ1 16 u7)) H := ho_at ht hB
  have hPo := hPo.kept (fun k q hk => hk1 q.1 (vx_lt hPo hk) (wo_out1 hk))
  have hPd := hPd.kept (fun k q hk => hk1 q.1 (vx_lt hPd hk) (wo_out2 hk))
  obtain ⟨eq7, ok7⟩ := hw7
  rw [← eq7] at hT1 h490 hval
  refine lv_istore (lv' := [(7, .int r7), (6, .int r6), (5, .int (nI i)), (4, .ref (B0+291)), (3, .ref (B0+290)), (2, .ref (adH B0 279)), (1, .ref (adH B0 270)), (0, .ref b)]) hx hb dL_law_793 hl (by decide) rfl (fun ls hl => ?_)
  refine lv_aload_n hx hb dL_law_795 rfl (lv_at hl 5 rfl) ?_
  refine va_calli (va_runV (As := []) (rest := []) ⟨hx, hb, hml, hown, hts⟩ (c7_thrown l hA σ1 u7) (cwV 0 hts gL_law_X7_thrown rfl rfl rfl hd_X7_thrownV ⟨Nat.le_trans (by decide) hfr, Nat.le_trans (by decide) hlo⟩) ⟨hp_blind, va_recv hK hP (ci := 9) (q0 := 279) rfl c_279, hp_pre hK hN hP⟩ rfl rfl hl.1 rfl (lv_room (Nat.le_of_ble_eq_true rfl)) dL_law_796 ⟨by omega, by omega⟩) hS (fun q _ h => aa_ac h) (fun q h => aa_ac h) (fun r8 _ t H locs ht hvm hw8 hB hz1 hk1 hS => ?_)
  have hP : va_P D vwCl (pool G (adH B0) (va_up σ1 16 u7)) H := ho_at ht hB
  have hPo := hPo.kept (fun k q hk => hk1 q.1 (vx_lt hPo hk) (wo_out1 hk))
  have hPd := hPd.kept (fun k q hk => hk1 q.1 (vx_lt hPd hk) (wo_out2 hk))
  refine lv_iload hx hb dL_law_799 (lv_at hl 1 rfl) ?_
  refine lv_icmp_eq (tgt := 806) hx hb dL_law_801 (by decide) (fun c9 => ?_) (fun c9 => absurd (hw8.trans h490) c9)
  have hdone : ∀ (k0 n0 : Nat), k0 ≤ cells + 4 → n0 ≤ slots + 24 → ∀ ls2 : Array Slot, lv_has ls2 8 [(7, .int r7), (6, .int r6), (5, .int (nI i)), (4, .ref (B0+291)), (3, .ref (B0+290)), (2, .ref (adH B0 279)), (1, .ref (adH B0 270)), (0, .ref b)] → W p l e R s m args below meth c H locs k0 n0 Q (F0 m 2317 ls2 []) := fun k0 n0 hk0 hn0 ls2 hl2 => W.widen (k := cells + 4) (n := slots + 24) hk0 hn0 (cont _ z1.2 g H locs ls2 ⟨hP, hPo, hPd, (top_16 hT1).mono (by omega), okS_16 ok6 ok7⟩ hS (lv_sub hl2 [2, 3, 4, 5, 6, 7] rfl))
  refine lv_iload hx hb dL_law_806 (lv_at hl 1 rfl) ?_
  refine lv_if_ne (tgt := 823) hx hb dL_law_808 (by decide) (fun c8 => ?_) (fun c8 => ?_)
  · refine lv_goto (tgt := 2317) hx hb dL_law_823 (by decide) ?_
    exact hdone _ _ (by omega) (by omega) ls hl
  obtain ⟨v9, hv9, rfl⟩ := hval c8
  refine lv_aload_n hx hb dL_law_811 rfl (lv_at hl 4 rfl) ?_
  refine lv_iconst (v := 0) hx hb dL_law_812 (by decide) ?_
  refine va_lald (tys := [(cL, .long)]) hx hb hKo hPo 0 0 rfl rfl (vp_in_iff.mpr (by decide)) dL_law_813 ?_
  have hv9 : z1.2 (0 : Int32).toNatClampNeg = _ := hv9
  rw [hv9]
  refine lv_iload hx hb dL_law_814 (lv_at hl 0 rfl) ?_
  refine lv_i2l (v := v9.toInt64) hx hb dL_law_816 rfl ?_
  refine W.lcmp hx hb dL_law_817 ?_
  refine lv_if_eq (tgt := 823) hx hb dL_law_818 (by decide) (fun c7 => ?_) (fun c7 => absurd (lg_cmp_self _) c7)
  refine lv_goto (tgt := 2317) hx hb dL_law_823 (by decide) ?_
  exact hdone _ _ (by omega) (by omega) ls hl
set_option maxHeartbeats 2000000 in
set_option maxRecDepth 100000 in
theorem law_8 {p : Program} {l : Launch} {e : Env} {R : Room} {s : State} {m : MethodId} {args : Array Value} {below : List Frame} {meth : Method} {c : Code} {Q : State → Prop} (hl0 : l.stackTraces = false) {D : va_G} {G : CY} {B0 b L i cells slots : Nat} {xs : Nat → Int32} {cL cD : ClassId} {K : Int} {σ : Nat → Nat → Int32} {f : Nat → Int64} {g : Nat → UInt64} {H : Heap} {locs : List Loc} {ls : Array Slot}
    (hx : p.tables.exec = Jvm.exec) (hb : c.code = code) (hml : c.maxLocals = 8) (hown : s.vm.findClass RL = some m.cls) (hts : ∀ w ∈ lw_tbl, w.before args s = true) (hLA : LA D G B0 cL cD b L xs s) (hLI : LI D G B0 cL cD K σ f g H) (hS : va_S (AC B0) s.heap H locs) (hl : lv_has ls 8 [(5, .int (nI i)), (4, .ref (B0+291)), (3, .ref (B0+290)), (2, .ref (adH B0 279)), (1, .ref (adH B0 270)), (0, .ref b)]) (hi : i + 7 ≤ L) (hL : L ≤ 3584) (hK8 : K ≤ 800000000) (hfr : 20 ≤ R.frames) (hlo : 400 ≤ R.locals) (hce : cells + 4 ≤ R.cells) (hsl : slots + 24 ≤ R.slots)
    (cont : ∀ (σ2 : Nat → Nat → Int32) (f2 : Nat → Int64) (g2 : Nat → UInt64) (H2 : Heap) (locs2 : List Loc) (ls2 : Array Slot), LI D G B0 cL cD (K+500000) σ2 f2 g2 H2 → va_S (AC B0) s.heap H2 locs2 → lv_has ls2 8 [(5, .int (nI i)), (4, .ref (B0+291)), (3, .ref (B0+290)), (2, .ref (adH B0 279)), (1, .ref (adH B0 270)), (0, .ref b)] → W p l e R s m args below meth c H2 locs2 (cells + 4) (slots + 24) Q (F0 m 2317 ls2 [])) : W p l e R s m args below meth c H locs cells slots Q (F0 m 826 ls []) := by
  obtain ⟨hK, hN, hT, hLw, ⟨adK, adV, hG, hR⟩, hNc, hKo, hKd, hX, hbl, hsz⟩ := id hLA
  obtain ⟨hP, hPo, hPd, hTop, hO⟩ := hLI
  have hA := adH_ok B0
  have hbA : ¬ AC B0 b := fun z => by have z : B0 ≤ b := z; omega
  refine lv_aload_n hx hb dL_law_826 rfl (lv_at hl 4 rfl) ?_
  refine lv_aload_n hx hb dL_law_827 rfl (lv_at hl 5 rfl) ?_
  refine lv_iload hx hb dL_law_828 (lv_at hl 0 rfl) ?_
  refine lv_iconst (v := 1) hx hb dL_law_830 (by decide) ?_
  refine lv_iadd hx hb dL_law_831 ?_
  refine va_sld hx hb hX hbl hbA hS (in_scr hi hL (k := 1) (by decide)) dL_law_832 ?_
  refine lv_aload_n hx hb dL_law_833 rfl (lv_at hl 2 rfl) ?_
  have hPM := t_removePlatform (a := (xs (nI i + 1).toNatClampNeg)) hTop
  refine vx_calli (vx_runSX (As := [.ref (adH B0 270), .int (xs (nI i + 1).toNatClampNeg), .ref (B0+290)]) (rest := []) ⟨hx, hb, hml, hown, hts⟩ (cL_removePlatform_met l hl0 hA σ (xs (nI i + 1).toNatClampNeg) cL f hO hPM.hE) (vx_cwSW 3 hts gL_law_L_removePlatform rfl rfl rfl hd_L_removePlatformS ⟨Nat.le_trans (by decide) hfr, Nat.le_trans (by decide) hlo⟩) ⟨hw1_blind, hw1_pre hK hN hT hLw hG hR hNc hsz hS hP hPo hKo⟩ rfl rfl hl.1 rfl (lv_room (Nat.le_of_ble_eq_true rfl)) dL_law_834 ⟨by omega, by omega⟩) hS (fun q _ h => aw1_ac h) (fun q h => aw1_ac h) (fun q _ h => aw1_ac h) (fun _ _ _ _ _ _ _ _ _ hw9 _ _ _ _ _ _ _ => hw9.elim) (fun r6 z1 t H locs ht hvm hw6 hB hz1 hk1 hS => ?_)
  obtain ⟨ok6, hw6⟩ := hw6
  obtain ⟨σ1, eσ1⟩ : ∃ z, z = z1.1 := ⟨_, rfl⟩
  obtain ⟨hB1, hB2⟩ := hB
  rw [← eσ1] at ok6 hw6 hB1
  have hP : va_P D vwCl (pool G (adH B0) σ1) H := ho_at ht hB1
  have hPo : va_P D vwCl [(B0+290, .inl (cL, 1, .inr (.inl z1.2)))] H := by rw [← ht]; exact hB2
  have hPd := hPd.kept (fun k q hk => hk1 q.1 (vx_lt hPd hk) (wo_o21 hk))
  refine lv_istore (lv' := [(6, .int r6), (5, .int (nI i)), (4, .ref (B0+291)), (3, .ref (B0+290)), (2, .ref (adH B0 279)), (1, .ref (adH B0 270)), (0, .ref b)]) hx hb dL_law_837 hl (by decide) rfl (fun ls hl => ?_)
  refine lv_aload_n hx hb dL_law_839 rfl (lv_at hl 4 rfl) ?_
  refine lv_aload_n hx hb dL_law_840 rfl (lv_at hl 6 rfl) ?_
  refine lv_iload hx hb dL_law_841 (lv_at hl 1 rfl) ?_
  refine lv_iconst (v := 1) hx hb dL_law_843 (by decide) ?_
  refine lv_iadd hx hb dL_law_844 ?_
  refine va_sld hx hb hX hbl hbA hS (in_scr hi hL (k := 1) (by decide)) dL_law_845 ?_
  have hls := ls_of (P := fun v => z1.2 0 = v.toInt64) hPM cd1_i hw6
  obtain ⟨hT1, h16, h490, hval⟩ := hls
  have hu : va_up σ1 16 (σ 16) = σ1 := by rw [← h16]; exact up_eta σ1 16
  rw [← hu] at hP
  refine va_calli (va_runV (As := [.int (xs (nI i + 1).toNatClampNeg)]) (rest := []) ⟨hx, hb, hml, hown, hts⟩ (c7_removePlatform l hA σ1 (σ 16) (xs (nI i + 1).toNatClampNeg) hO.2.2) (cwV 1 hts gL_law_X7_removePlatform rfl rfl rfl hd_X7_removePlatformV ⟨Nat.le_trans (by decide) hfr, Nat.le_trans (by decide) hlo⟩) ⟨hp_blind, va_recv hK hP (ci := 9) (q0 := 279) rfl c_279, hp_pre hK hN hP⟩ rfl rfl hl.1 rfl (lv_room (Nat.le_of_ble_eq_true rfl)) dL_law_846 ⟨by omega, by omega⟩) hS (fun q _ h => aa_ac h) (fun q h => aa_ac h) (fun r7 u7 t H locs ht hvm hw7 hB hz1 hk1 hS => ?_)
  have hP : va_P D vwCl (pool G (adH B0) (va_up σ1 16 u7)) H := ho_at ht hB
  have hPo := hPo.kept (fun k q hk => hk1 q.1 (vx_lt hPo hk) (wo_out1 hk))
  have hPd := hPd.kept (fun k q hk => hk1 q.1 (vx_lt hPd hk) (wo_out2 hk))
  obtain ⟨eq7, ok7⟩ := hw7
  rw [← eq7] at hT1 h490 hval
  refine lv_istore (lv' := [(7, .int r7), (6, .int r6), (5, .int (nI i)), (4, .ref (B0+291)), (3, .ref (B0+290)), (2, .ref (adH B0 279)), (1, .ref (adH B0 270)), (0, .ref b)]) hx hb dL_law_849 hl (by decide) rfl (fun ls hl => ?_)
  refine lv_aload_n hx hb dL_law_851 rfl (lv_at hl 5 rfl) ?_
  refine va_calli (va_runV (As := []) (rest := []) ⟨hx, hb, hml, hown, hts⟩ (c7_thrown l hA σ1 u7) (cwV 0 hts gL_law_X7_thrown rfl rfl rfl hd_X7_thrownV ⟨Nat.le_trans (by decide) hfr, Nat.le_trans (by decide) hlo⟩) ⟨hp_blind, va_recv hK hP (ci := 9) (q0 := 279) rfl c_279, hp_pre hK hN hP⟩ rfl rfl hl.1 rfl (lv_room (Nat.le_of_ble_eq_true rfl)) dL_law_852 ⟨by omega, by omega⟩) hS (fun q _ h => aa_ac h) (fun q h => aa_ac h) (fun r8 _ t H locs ht hvm hw8 hB hz1 hk1 hS => ?_)
  have hP : va_P D vwCl (pool G (adH B0) (va_up σ1 16 u7)) H := ho_at ht hB
  have hPo := hPo.kept (fun k q hk => hk1 q.1 (vx_lt hPo hk) (wo_out1 hk))
  have hPd := hPd.kept (fun k q hk => hk1 q.1 (vx_lt hPd hk) (wo_out2 hk))
  refine lv_iload hx hb dL_law_855 (lv_at hl 1 rfl) ?_
  refine lv_icmp_eq (tgt := 862) hx hb dL_law_857 (by decide) (fun c9 => ?_) (fun c9 => absurd (hw8.trans h490) c9)
  have hdone : ∀ (k0 n0 : Nat), k0 ≤ cells + 4 → n0 ≤ slots + 24 → ∀ ls2 : Array Slot, lv_has ls2 8 [(7, .int r7), (6, .int r6), (5, .int (nI i)), (4, .ref (B0+291)), (3, .ref (B0+290)), (2, .ref (adH B0 279)), (1, .ref (adH B0 270)), (0, .ref b)] → W p l e R s m args below meth c H locs k0 n0 Q (F0 m 2317 ls2 []) := fun k0 n0 hk0 hn0 ls2 hl2 => W.widen (k := cells + 4) (n := slots + 24) hk0 hn0 (cont _ z1.2 g H locs ls2 ⟨hP, hPo, hPd, (top_16 hT1).mono (by omega), okS_16 ok6 ok7⟩ hS (lv_sub hl2 [2, 3, 4, 5, 6, 7] rfl))
  refine lv_iload hx hb dL_law_862 (lv_at hl 1 rfl) ?_
  refine lv_if_ne (tgt := 879) hx hb dL_law_864 (by decide) (fun c8 => ?_) (fun c8 => ?_)
  · refine lv_goto (tgt := 2317) hx hb dL_law_879 (by decide) ?_
    exact hdone _ _ (by omega) (by omega) ls hl
  obtain ⟨v9, hv9, rfl⟩ := hval c8
  refine lv_aload_n hx hb dL_law_867 rfl (lv_at hl 4 rfl) ?_
  refine lv_iconst (v := 0) hx hb dL_law_868 (by decide) ?_
  refine va_lald (tys := [(cL, .long)]) hx hb hKo hPo 0 0 rfl rfl (vp_in_iff.mpr (by decide)) dL_law_869 ?_
  have hv9 : z1.2 (0 : Int32).toNatClampNeg = _ := hv9
  rw [hv9]
  refine lv_iload hx hb dL_law_870 (lv_at hl 0 rfl) ?_
  refine lv_i2l (v := v9.toInt64) hx hb dL_law_872 rfl ?_
  refine W.lcmp hx hb dL_law_873 ?_
  refine lv_if_eq (tgt := 879) hx hb dL_law_874 (by decide) (fun c7 => ?_) (fun c7 => absurd (lg_cmp_self _) c7)
  refine lv_goto (tgt := 2317) hx hb dL_law_879 (by decide) ?_
  exact hdone _ _ (by omega) (by omega) ls hl
