/-! THE LAW'S CASES -/
set_option maxHeartbeats 2000000 in
set_option maxRecDepth 100000 in
theorem law_19 {p : Program} {l : Launch} {e : Env} {R : Room} {s : State} {m : MethodId} {args : Array Value} {below : List Frame} {meth : Method} {c : Code} {Q : State → Prop} (hl0 : l.stackTraces = false) {D : va_G} {G : CY} {B0 b L i cells slots : Nat} {xs : Nat → Int32} {cL cD : ClassId} {K : Int} {σ : Nat → Nat → Int32} {f : Nat → Int64} {g : Nat → UInt64} {H : Heap} {locs : List Loc} {ls : Array Slot}
    (hx : p.tables.exec = Jvm.exec) (hb : c.code = code) (hml : c.maxLocals = 8) (hown : s.vm.findClass RL = some m.cls) (hts : ∀ w ∈ lw_tbl, w.before args s = true) (hLA : LA D G B0 cL cD b L xs s) (hLI : LI D G B0 cL cD K σ f g H) (hS : va_S (AC B0) s.heap H locs) (hl : lv_has ls 8 [(5, .int (nI i)), (4, .ref (B0+291)), (3, .ref (B0+290)), (2, .ref (adH B0 279)), (1, .ref (adH B0 270)), (0, .ref b)]) (hi : i + 7 ≤ L) (hL : L ≤ 3584) (hK8 : K ≤ 800000000) (hfr : 20 ≤ R.frames) (hlo : 400 ≤ R.locals) (hce : cells + 4 ≤ R.cells) (hsl : slots + 24 ≤ R.slots)
    (cont : ∀ (σ2 : Nat → Nat → Int32) (f2 : Nat → Int64) (g2 : Nat → UInt64) (H2 : Heap) (locs2 : List Loc) (ls2 : Array Slot), LI D G B0 cL cD (K+500000) σ2 f2 g2 H2 → va_S (AC B0) s.heap H2 locs2 → lv_has ls2 8 [(5, .int (nI i)), (4, .ref (B0+291)), (3, .ref (B0+290)), (2, .ref (adH B0 279)), (1, .ref (adH B0 270)), (0, .ref b)] → W p l e R s m args below meth c H2 locs2 (cells + 4) (slots + 24) Q (F0 m 2317 ls2 [])) : W p l e R s m args below meth c H locs cells slots Q (F0 m 1430 ls []) := by
  obtain ⟨hK, hN, hT, hLw, ⟨adK, adV, hG, hR⟩, hNc, hKo, hKd, hX, hbl, hsz⟩ := id hLA
  obtain ⟨hP, hPo, hPd, hTop, hO⟩ := hLI
  have hA := adH_ok B0
  have hbA : ¬ AC B0 b := fun z => by have z : B0 ≤ b := z; omega
  refine lv_aload_n hx hb dL_law_1430 rfl (lv_at hl 4 rfl) ?_
  refine lv_aload_n hx hb dL_law_1431 rfl (lv_at hl 5 rfl) ?_
  refine lv_iload hx hb dL_law_1432 (lv_at hl 0 rfl) ?_
  refine lv_iconst (v := 1) hx hb dL_law_1434 (by decide) ?_
  refine lv_iadd hx hb dL_law_1435 ?_
  refine va_sld hx hb hX hbl hbA hS (in_scr hi hL (k := 1) (by decide)) dL_law_1436 ?_
  refine lv_aload_n hx hb dL_law_1437 rfl (lv_at hl 5 rfl) ?_
  refine lv_iload hx hb dL_law_1438 (lv_at hl 0 rfl) ?_
  refine lv_iconst (v := 2) hx hb dL_law_1440 (by decide) ?_
  refine lv_iadd hx hb dL_law_1441 ?_
  refine va_sld hx hb hX hbl hbA hS (in_scr hi hL (k := 2) (by decide)) dL_law_1442 ?_
  refine lv_aload_n hx hb dL_law_1443 rfl (lv_at hl 5 rfl) ?_
  refine lv_iload hx hb dL_law_1444 (lv_at hl 0 rfl) ?_
  refine lv_iconst (v := 3) hx hb dL_law_1446 (by decide) ?_
  refine lv_iadd hx hb dL_law_1447 ?_
  refine va_sld hx hb hX hbl hbA hS (in_scr hi hL (k := 3) (by decide)) dL_law_1448 ?_
  refine lv_aload_n hx hb dL_law_1449 rfl (lv_at hl 2 rfl) ?_
  have hPM := t_isBlocked (a := (xs (nI i + 1).toNatClampNeg)) (b := (xs (nI i + 2).toNatClampNeg)) (c1 := (xs (nI i + 3).toNatClampNeg)) hTop
  refine vx_calli (vx_runSX (As := [.ref (adH B0 270), .int (xs (nI i + 1).toNatClampNeg), .int (xs (nI i + 2).toNatClampNeg), .int (xs (nI i + 3).toNatClampNeg), .ref (B0+290)]) (rest := []) ⟨hx, hb, hml, hown, hts⟩ (cL_isBlocked_met l hl0 hA σ (xs (nI i + 1).toNatClampNeg) (xs (nI i + 2).toNatClampNeg) (xs (nI i + 3).toNatClampNeg) cL f hO hPM.hE) (vx_cwSW 5 hts gL_law_L_isBlocked rfl rfl rfl hd_L_isBlockedS ⟨Nat.le_trans (by decide) hfr, Nat.le_trans (by decide) hlo⟩) ⟨hw1_blind, hw1_pre hK hN hT hLw hG hR hNc hsz hS hP hPo hKo⟩ rfl rfl hl.1 rfl (lv_room (Nat.le_of_ble_eq_true rfl)) dL_law_1450 ⟨by omega, by omega⟩) hS (fun q _ h => aw1_ac h) (fun q h => aw1_ac h) (fun q _ h => aw1_ac h) (fun _ _ _ _ _ _ _ _ _ hw9 _ _ _ _ _ _ _ => hw9.elim) (fun r6 z1 t H locs ht hvm hw6 hB hz1 hk1 hS => ?_)
  obtain ⟨ok6, hw6⟩ := hw6
  obtain ⟨σ1, eσ1⟩ : ∃ z, z = z1.1 := ⟨_, rfl⟩
  obtain ⟨hB1, hB2⟩ := hB
  rw [← eσ1] at ok6 hw6 hB1
  have hP : va_P D vwCl (pool G (adH B0) σ1) H := ho_at ht hB1
  have hPo : va_P D vwCl [(B0+290, .inl (cL, 1, .inr (.inl z1.2)))] H := by rw [← ht]; exact hB2
  have hPd := hPd.kept (fun k q hk => hk1 q.1 (vx_lt hPd hk) (wo_o21 hk))
  refine lv_istore (lv' := [(6, .int r6), (5, .int (nI i)), (4, .ref (B0+291)), (3, .ref (B0+290)), (2, .ref (adH B0 279)), (1, .ref (adH B0 270)), (0, .ref b)]) hx hb dL_law_1453 hl (by decide) rfl (fun ls hl => ?_)
  refine lv_aload_n hx hb dL_law_1455 rfl (lv_at hl 4 rfl) ?_
  refine lv_aload_n hx hb dL_law_1456 rfl (lv_at hl 6 rfl) ?_
  refine lv_iload hx hb dL_law_1457 (lv_at hl 1 rfl) ?_
  refine lv_iconst (v := 1) hx hb dL_law_1459 (by decide) ?_
  refine lv_iadd hx hb dL_law_1460 ?_
  refine va_sld hx hb hX hbl hbA hS (in_scr hi hL (k := 1) (by decide)) dL_law_1461 ?_
  refine lv_aload_n hx hb dL_law_1462 rfl (lv_at hl 6 rfl) ?_
  refine lv_iload hx hb dL_law_1463 (lv_at hl 1 rfl) ?_
  refine lv_iconst (v := 2) hx hb dL_law_1465 (by decide) ?_
  refine lv_iadd hx hb dL_law_1466 ?_
  refine va_sld hx hb hX hbl hbA hS (in_scr hi hL (k := 2) (by decide)) dL_law_1467 ?_
  refine lv_aload_n hx hb dL_law_1468 rfl (lv_at hl 6 rfl) ?_
  refine lv_iload hx hb dL_law_1469 (lv_at hl 1 rfl) ?_
  refine lv_iconst (v := 3) hx hb dL_law_1471 (by decide) ?_
  refine lv_iadd hx hb dL_law_1472 ?_
  refine va_sld hx hb hX hbl hbA hS (in_scr hi hL (k := 3) (by decide)) dL_law_1473 ?_
  have hls := ls_of (P := fun v => z1.2 0 = (if v = 0 then 0 else 1)) hPM (cd2_i (by decide)) hw6
  obtain ⟨hT1, h16, h490, hval⟩ := hls
  have hu : va_up σ1 16 (σ 16) = σ1 := by rw [← h16]; exact up_eta σ1 16
  rw [← hu] at hP
  refine va_calli (va_runV (As := [.int (xs (nI i + 1).toNatClampNeg), .int (xs (nI i + 2).toNatClampNeg), .int (xs (nI i + 3).toNatClampNeg)]) (rest := []) ⟨hx, hb, hml, hown, hts⟩ (c7_isBlocked l hA σ1 (σ 16) (xs (nI i + 1).toNatClampNeg) (xs (nI i + 2).toNatClampNeg) (xs (nI i + 3).toNatClampNeg) hO.2.2) (cwV 3 hts gL_law_X7_isBlocked rfl rfl rfl hd_X7_isBlockedV ⟨Nat.le_trans (by decide) hfr, Nat.le_trans (by decide) hlo⟩) ⟨hp_blind, va_recv hK hP (ci := 9) (q0 := 279) rfl c_279, hp_pre hK hN hP⟩ rfl rfl hl.1 rfl (lv_room (Nat.le_of_ble_eq_true rfl)) dL_law_1474 ⟨by omega, by omega⟩) hS (fun q _ h => aa_ac h) (fun q h => aa_ac h) (fun r7 u7 t H locs ht hvm hw7 hB hz1 hk1 hS => ?_)
  have hP : va_P D vwCl (pool G (adH B0) (va_up σ1 16 u7)) H := ho_at ht hB
  have hPo := hPo.kept (fun k q hk => hk1 q.1 (vx_lt hPo hk) (wo_out1 hk))
  have hPd := hPd.kept (fun k q hk => hk1 q.1 (vx_lt hPd hk) (wo_out2 hk))
  obtain ⟨eq7, ok7, bl7⟩ := hw7
  rw [← eq7] at hT1 h490 hval
  refine lv_istore (lv' := [(7, .int r7), (6, .int r6), (5, .int (nI i)), (4, .ref (B0+291)), (3, .ref (B0+290)), (2, .ref (adH B0 279)), (1, .ref (adH B0 270)), (0, .ref b)]) hx hb dL_law_1477 hl (by decide) rfl (fun ls hl => ?_)
  refine lv_aload_n hx hb dL_law_1479 rfl (lv_at hl 5 rfl) ?_
  refine va_calli (va_runV (As := []) (rest := []) ⟨hx, hb, hml, hown, hts⟩ (c7_thrown l hA σ1 u7) (cwV 0 hts gL_law_X7_thrown rfl rfl rfl hd_X7_thrownV ⟨Nat.le_trans (by decide) hfr, Nat.le_trans (by decide) hlo⟩) ⟨hp_blind, va_recv hK hP (ci := 9) (q0 := 279) rfl c_279, hp_pre hK hN hP⟩ rfl rfl hl.1 rfl (lv_room (Nat.le_of_ble_eq_true rfl)) dL_law_1480 ⟨by omega, by omega⟩) hS (fun q _ h => aa_ac h) (fun q h => aa_ac h) (fun r8 _ t H locs ht hvm hw8 hB hz1 hk1 hS => ?_)
  have hP : va_P D vwCl (pool G (adH B0) (va_up σ1 16 u7)) H := ho_at ht hB
  have hPo := hPo.kept (fun k q hk => hk1 q.1 (vx_lt hPo hk) (wo_out1 hk))
  have hPd := hPd.kept (fun k q hk => hk1 q.1 (vx_lt hPd hk) (wo_out2 hk))
  refine lv_iload hx hb dL_law_1483 (lv_at hl 1 rfl) ?_
  refine lv_icmp_eq (tgt := 1490) hx hb dL_law_1485 (by decide) (fun c9 => ?_) (fun c9 => absurd (hw8.trans h490) c9)
  have hdone : ∀ (k0 n0 : Nat), k0 ≤ cells + 4 → n0 ≤ slots + 24 → ∀ ls2 : Array Slot, lv_has ls2 8 [(7, .int r7), (6, .int r6), (5, .int (nI i)), (4, .ref (B0+291)), (3, .ref (B0+290)), (2, .ref (adH B0 279)), (1, .ref (adH B0 270)), (0, .ref b)] → W p l e R s m args below meth c H locs k0 n0 Q (F0 m 2317 ls2 []) := fun k0 n0 hk0 hn0 ls2 hl2 => W.widen (k := cells + 4) (n := slots + 24) hk0 hn0 (cont _ z1.2 g H locs ls2 ⟨hP, hPo, hPd, (top_16 hT1).mono (by omega), okS_16 ok6 ok7⟩ hS (lv_sub hl2 [2, 3, 4, 5, 6, 7] rfl))
  refine lv_iload hx hb dL_law_1490 (lv_at hl 1 rfl) ?_
  refine lv_if_ne (tgt := 1514) hx hb dL_law_1492 (by decide) (fun c8 => ?_) (fun c8 => ?_)
  · refine lv_goto (tgt := 2317) hx hb dL_law_1514 (by decide) ?_
    exact hdone _ _ (by omega) (by omega) ls hl
  obtain ⟨v9, hv9, rfl⟩ := hval c8
  refine lv_aload_n hx hb dL_law_1495 rfl (lv_at hl 4 rfl) ?_
  refine lv_iconst (v := 0) hx hb dL_law_1496 (by decide) ?_
  refine va_lald (tys := [(cL, .long)]) hx hb hKo hPo 0 0 rfl rfl (vp_in_iff.mpr (by decide)) dL_law_1497 ?_
  have hv9 : z1.2 (0 : Int32).toNatClampNeg = _ := hv9
  rw [hv9]
  refine lv_iload hx hb dL_law_1498 (lv_at hl 0 rfl) ?_
  refine lv_if_eq (tgt := 1507) hx hb dL_law_1500 (by decide) (fun c7 => ?_) (fun c7 => ?_)
  · rw [if_pos c7]
    refine lv_lconst (v := 0) hx hb dL_law_1507 (by decide) ?_
    refine W.lcmp hx hb dL_law_1508 ?_
    refine lv_if_eq (tgt := 1514) hx hb dL_law_1509 (by decide) (fun c7 => ?_) (fun c7 => absurd (lg_cmp_self _) c7)
    refine lv_goto (tgt := 2317) hx hb dL_law_1514 (by decide) ?_
    exact hdone _ _ (by omega) (by omega) ls hl
  · rw [if_neg c7]
    refine lv_lconst (v := 1) hx hb dL_law_1503 (by decide) ?_
    refine lv_goto (tgt := 1508) hx hb dL_law_1504 (by decide) ?_
    refine W.lcmp hx hb dL_law_1508 ?_
    refine lv_if_eq (tgt := 1514) hx hb dL_law_1509 (by decide) (fun c7 => ?_) (fun c7 => absurd (lg_cmp_self _) c7)
    refine lv_goto (tgt := 2317) hx hb dL_law_1514 (by decide) ?_
    exact hdone _ _ (by omega) (by omega) ls hl
set_option maxHeartbeats 2000000 in
set_option maxRecDepth 100000 in
theorem law_20 {p : Program} {l : Launch} {e : Env} {R : Room} {s : State} {m : MethodId} {args : Array Value} {below : List Frame} {meth : Method} {c : Code} {Q : State → Prop} (hl0 : l.stackTraces = false) {D : va_G} {G : CY} {B0 b L i cells slots : Nat} {xs : Nat → Int32} {cL cD : ClassId} {K : Int} {σ : Nat → Nat → Int32} {f : Nat → Int64} {g : Nat → UInt64} {H : Heap} {locs : List Loc} {ls : Array Slot}
    (hx : p.tables.exec = Jvm.exec) (hb : c.code = code) (hml : c.maxLocals = 8) (hown : s.vm.findClass RL = some m.cls) (hts : ∀ w ∈ lw_tbl, w.before args s = true) (hLA : LA D G B0 cL cD b L xs s) (hLI : LI D G B0 cL cD K σ f g H) (hS : va_S (AC B0) s.heap H locs) (hl : lv_has ls 8 [(5, .int (nI i)), (4, .ref (B0+291)), (3, .ref (B0+290)), (2, .ref (adH B0 279)), (1, .ref (adH B0 270)), (0, .ref b)]) (hi : i + 7 ≤ L) (hL : L ≤ 3584) (hK8 : K ≤ 800000000) (hfr : 20 ≤ R.frames) (hlo : 400 ≤ R.locals) (hce : cells + 4 ≤ R.cells) (hsl : slots + 24 ≤ R.slots)
    (cont : ∀ (σ2 : Nat → Nat → Int32) (f2 : Nat → Int64) (g2 : Nat → UInt64) (H2 : Heap) (locs2 : List Loc) (ls2 : Array Slot), LI D G B0 cL cD (K+500000) σ2 f2 g2 H2 → va_S (AC B0) s.heap H2 locs2 → lv_has ls2 8 [(5, .int (nI i)), (4, .ref (B0+291)), (3, .ref (B0+290)), (2, .ref (adH B0 279)), (1, .ref (adH B0 270)), (0, .ref b)] → W p l e R s m args below meth c H2 locs2 (cells + 4) (slots + 24) Q (F0 m 2317 ls2 [])) : W p l e R s m args below meth c H locs cells slots Q (F0 m 1517 ls []) := by
  obtain ⟨hK, hN, hT, hLw, ⟨adK, adV, hG, hR⟩, hNc, hKo, hKd, hX, hbl, hsz⟩ := id hLA
  obtain ⟨hP, hPo, hPd, hTop, hO⟩ := hLI
  have hA := adH_ok B0
  have hbA : ¬ AC B0 b := fun z => by have z : B0 ≤ b := z; omega
  refine lv_aload_n hx hb dL_law_1517 rfl (lv_at hl 4 rfl) ?_
  refine lv_aload_n hx hb dL_law_1518 rfl (lv_at hl 5 rfl) ?_
  refine lv_iload hx hb dL_law_1519 (lv_at hl 0 rfl) ?_
  refine lv_iconst (v := 1) hx hb dL_law_1521 (by decide) ?_
  refine lv_iadd hx hb dL_law_1522 ?_
  refine va_sld hx hb hX hbl hbA hS (in_scr hi hL (k := 1) (by decide)) dL_law_1523 ?_
  refine lv_aload_n hx hb dL_law_1524 rfl (lv_at hl 5 rfl) ?_
  refine lv_iload hx hb dL_law_1525 (lv_at hl 0 rfl) ?_
  refine lv_iconst (v := 2) hx hb dL_law_1527 (by decide) ?_
  refine lv_iadd hx hb dL_law_1528 ?_
  refine va_sld hx hb hX hbl hbA hS (in_scr hi hL (k := 2) (by decide)) dL_law_1529 ?_
  refine lv_aload_n hx hb dL_law_1530 rfl (lv_at hl 2 rfl) ?_
  have hPM := t_clearance (a := (xs (nI i + 1).toNatClampNeg)) (b := (xs (nI i + 2).toNatClampNeg)) hTop (by omega)
  refine vx_calli (vx_runSX (As := [.ref (adH B0 270), .int (xs (nI i + 1).toNatClampNeg), .int (xs (nI i + 2).toNatClampNeg), .ref (B0+290)]) (rest := []) ⟨hx, hb, hml, hown, hts⟩ (cL_clearance_met l hl0 hA σ (xs (nI i + 1).toNatClampNeg) (xs (nI i + 2).toNatClampNeg) cL f hO hPM.hE) (vx_cwSW 4 hts gL_law_L_clearance rfl rfl rfl hd_L_clearanceS ⟨Nat.le_trans (by decide) hfr, Nat.le_trans (by decide) hlo⟩) ⟨hw1_blind, hw1_pre hK hN hT hLw hG hR hNc hsz hS hP hPo hKo⟩ rfl rfl hl.1 rfl (lv_room (Nat.le_of_ble_eq_true rfl)) dL_law_1531 ⟨by omega, by omega⟩) hS (fun q _ h => aw1_ac h) (fun q h => aw1_ac h) (fun q _ h => aw1_ac h) (fun _ _ _ _ _ _ _ _ _ hw9 _ _ _ _ _ _ _ => hw9.elim) (fun r6 z1 t H locs ht hvm hw6 hB hz1 hk1 hS => ?_)
  obtain ⟨ok6, hw6⟩ := hw6
  obtain ⟨σ1, eσ1⟩ : ∃ z, z = z1.1 := ⟨_, rfl⟩
  obtain ⟨hB1, hB2⟩ := hB
  rw [← eσ1] at ok6 hw6 hB1
  have hP : va_P D vwCl (pool G (adH B0) σ1) H := ho_at ht hB1
  have hPo : va_P D vwCl [(B0+290, .inl (cL, 1, .inr (.inl z1.2)))] H := by rw [← ht]; exact hB2
  have hPd := hPd.kept (fun k q hk => hk1 q.1 (vx_lt hPd hk) (wo_o21 hk))
  refine lv_istore (lv' := [(6, .int r6), (5, .int (nI i)), (4, .ref (B0+291)), (3, .ref (B0+290)), (2, .ref (adH B0 279)), (1, .ref (adH B0 270)), (0, .ref b)]) hx hb dL_law_1534 hl (by decide) rfl (fun ls hl => ?_)
  refine lv_aload_n hx hb dL_law_1536 rfl (lv_at hl 4 rfl) ?_
  refine lv_aload_n hx hb dL_law_1537 rfl (lv_at hl 6 rfl) ?_
  refine lv_iload hx hb dL_law_1538 (lv_at hl 1 rfl) ?_
  refine lv_iconst (v := 1) hx hb dL_law_1540 (by decide) ?_
  refine lv_iadd hx hb dL_law_1541 ?_
  refine va_sld hx hb hX hbl hbA hS (in_scr hi hL (k := 1) (by decide)) dL_law_1542 ?_
  refine lv_aload_n hx hb dL_law_1543 rfl (lv_at hl 6 rfl) ?_
  refine lv_iload hx hb dL_law_1544 (lv_at hl 1 rfl) ?_
  refine lv_iconst (v := 2) hx hb dL_law_1546 (by decide) ?_
  refine lv_iadd hx hb dL_law_1547 ?_
  refine va_sld hx hb hX hbl hbA hS (in_scr hi hL (k := 2) (by decide)) dL_law_1548 ?_
  have hls := ls_of (P := fun v => z1.2 0 = v.toInt64) hPM (cd2_i (by decide)) hw6
  obtain ⟨hT1, h16, h490, hval⟩ := hls
  have hu : va_up σ1 16 (σ 16) = σ1 := by rw [← h16]; exact up_eta σ1 16
  rw [← hu] at hP
  refine va_calli (va_runV (As := [.int (xs (nI i + 1).toNatClampNeg), .int (xs (nI i + 2).toNatClampNeg)]) (rest := []) ⟨hx, hb, hml, hown, hts⟩ (c7_clearance l hA σ1 (σ 16) (xs (nI i + 1).toNatClampNeg) (xs (nI i + 2).toNatClampNeg) hO.2.2) (cwV 2 hts gL_law_X7_clearance rfl rfl rfl hd_X7_clearanceV ⟨Nat.le_trans (by decide) hfr, Nat.le_trans (by decide) hlo⟩) ⟨hp_blind, va_recv hK hP (ci := 9) (q0 := 279) rfl c_279, hp_pre hK hN hP⟩ rfl rfl hl.1 rfl (lv_room (Nat.le_of_ble_eq_true rfl)) dL_law_1549 ⟨by omega, by omega⟩) hS (fun q _ h => aa_ac h) (fun q h => aa_ac h) (fun r7 u7 t H locs ht hvm hw7 hB hz1 hk1 hS => ?_)
  have hP : va_P D vwCl (pool G (adH B0) (va_up σ1 16 u7)) H := ho_at ht hB
  have hPo := hPo.kept (fun k q hk => hk1 q.1 (vx_lt hPo hk) (wo_out1 hk))
  have hPd := hPd.kept (fun k q hk => hk1 q.1 (vx_lt hPd hk) (wo_out2 hk))
  obtain ⟨eq7, ok7⟩ := hw7
  rw [← eq7] at hT1 h490 hval
  refine lv_istore (lv' := [(7, .int r7), (6, .int r6), (5, .int (nI i)), (4, .ref (B0+291)), (3, .ref (B0+290)), (2, .ref (adH B0 279)), (1, .ref (adH B0 270)), (0, .ref b)]) hx hb dL_law_1552 hl (by decide) rfl (fun ls hl => ?_)
  refine lv_aload_n hx hb dL_law_1554 rfl (lv_at hl 5 rfl) ?_
  refine va_calli (va_runV (As := []) (rest := []) ⟨hx, hb, hml, hown, hts⟩ (c7_thrown l hA σ1 u7) (cwV 0 hts gL_law_X7_thrown rfl rfl rfl hd_X7_thrownV ⟨Nat.le_trans (by decide) hfr, Nat.le_trans (by decide) hlo⟩) ⟨hp_blind, va_recv hK hP (ci := 9) (q0 := 279) rfl c_279, hp_pre hK hN hP⟩ rfl rfl hl.1 rfl (lv_room (Nat.le_of_ble_eq_true rfl)) dL_law_1555 ⟨by omega, by omega⟩) hS (fun q _ h => aa_ac h) (fun q h => aa_ac h) (fun r8 _ t H locs ht hvm hw8 hB hz1 hk1 hS => ?_)
  have hP : va_P D vwCl (pool G (adH B0) (va_up σ1 16 u7)) H := ho_at ht hB
  have hPo := hPo.kept (fun k q hk => hk1 q.1 (vx_lt hPo hk) (wo_out1 hk))
  have hPd := hPd.kept (fun k q hk => hk1 q.1 (vx_lt hPd hk) (wo_out2 hk))
  refine lv_iload hx hb dL_law_1558 (lv_at hl 1 rfl) ?_
  refine lv_icmp_eq (tgt := 1565) hx hb dL_law_1560 (by decide) (fun c9 => ?_) (fun c9 => absurd (hw8.trans h490) c9)
  have hdone : ∀ (k0 n0 : Nat), k0 ≤ cells + 4 → n0 ≤ slots + 24 → ∀ ls2 : Array Slot, lv_has ls2 8 [(7, .int r7), (6, .int r6), (5, .int (nI i)), (4, .ref (B0+291)), (3, .ref (B0+290)), (2, .ref (adH B0 279)), (1, .ref (adH B0 270)), (0, .ref b)] → W p l e R s m args below meth c H locs k0 n0 Q (F0 m 2317 ls2 []) := fun k0 n0 hk0 hn0 ls2 hl2 => W.widen (k := cells + 4) (n := slots + 24) hk0 hn0 (cont _ z1.2 g H locs ls2 ⟨hP, hPo, hPd, (top_16 hT1).mono (by omega), okS_16 ok6 ok7⟩ hS (lv_sub hl2 [2, 3, 4, 5, 6, 7] rfl))
  refine lv_iload hx hb dL_law_1565 (lv_at hl 1 rfl) ?_
  refine lv_if_ne (tgt := 1582) hx hb dL_law_1567 (by decide) (fun c8 => ?_) (fun c8 => ?_)
  · refine lv_goto (tgt := 2317) hx hb dL_law_1582 (by decide) ?_
    exact hdone _ _ (by omega) (by omega) ls hl
  obtain ⟨v9, hv9, rfl⟩ := hval c8
  refine lv_aload_n hx hb dL_law_1570 rfl (lv_at hl 4 rfl) ?_
  refine lv_iconst (v := 0) hx hb dL_law_1571 (by decide) ?_
  refine va_lald (tys := [(cL, .long)]) hx hb hKo hPo 0 0 rfl rfl (vp_in_iff.mpr (by decide)) dL_law_1572 ?_
  have hv9 : z1.2 (0 : Int32).toNatClampNeg = _ := hv9
  rw [hv9]
  refine lv_iload hx hb dL_law_1573 (lv_at hl 0 rfl) ?_
  refine lv_i2l (v := v9.toInt64) hx hb dL_law_1575 rfl ?_
  refine W.lcmp hx hb dL_law_1576 ?_
  refine lv_if_eq (tgt := 1582) hx hb dL_law_1577 (by decide) (fun c7 => ?_) (fun c7 => absurd (lg_cmp_self _) c7)
  refine lv_goto (tgt := 2317) hx hb dL_law_1582 (by decide) ?_
  exact hdone _ _ (by omega) (by omega) ls hl
set_option maxHeartbeats 2000000 in
set_option maxRecDepth 100000 in
theorem law_21 {p : Program} {l : Launch} {e : Env} {R : Room} {s : State} {m : MethodId} {args : Array Value} {below : List Frame} {meth : Method} {c : Code} {Q : State → Prop} (hl0 : l.stackTraces = false) {D : va_G} {G : CY} {B0 b L i cells slots : Nat} {xs : Nat → Int32} {cL cD : ClassId} {K : Int} {σ : Nat → Nat → Int32} {f : Nat → Int64} {g : Nat → UInt64} {H : Heap} {locs : List Loc} {ls : Array Slot}
    (hx : p.tables.exec = Jvm.exec) (hb : c.code = code) (hml : c.maxLocals = 8) (hown : s.vm.findClass RL = some m.cls) (hts : ∀ w ∈ lw_tbl, w.before args s = true) (hLA : LA D G B0 cL cD b L xs s) (hLI : LI D G B0 cL cD K σ f g H) (hS : va_S (AC B0) s.heap H locs) (hl : lv_has ls 8 [(5, .int (nI i)), (4, .ref (B0+291)), (3, .ref (B0+290)), (2, .ref (adH B0 279)), (1, .ref (adH B0 270)), (0, .ref b)]) (hi : i + 7 ≤ L) (hL : L ≤ 3584) (hK8 : K ≤ 800000000) (hfr : 20 ≤ R.frames) (hlo : 400 ≤ R.locals) (hce : cells + 4 ≤ R.cells) (hsl : slots + 24 ≤ R.slots)
    (cont : ∀ (σ2 : Nat → Nat → Int32) (f2 : Nat → Int64) (g2 : Nat → UInt64) (H2 : Heap) (locs2 : List Loc) (ls2 : Array Slot), LI D G B0 cL cD (K+500000) σ2 f2 g2 H2 → va_S (AC B0) s.heap H2 locs2 → lv_has ls2 8 [(5, .int (nI i)), (4, .ref (B0+291)), (3, .ref (B0+290)), (2, .ref (adH B0 279)), (1, .ref (adH B0 270)), (0, .ref b)] → W p l e R s m args below meth c H2 locs2 (cells + 4) (slots + 24) Q (F0 m 2317 ls2 [])) : W p l e R s m args below meth c H locs cells slots Q (F0 m 1585 ls []) := by
  obtain ⟨hK, hN, hT, hLw, ⟨adK, adV, hG, hR⟩, hNc, hKo, hKd, hX, hbl, hsz⟩ := id hLA
  obtain ⟨hP, hPo, hPd, hTop, hO⟩ := hLI
  have hA := adH_ok B0
  have hbA : ¬ AC B0 b := fun z => by have z : B0 ≤ b := z; omega
  refine lv_aload_n hx hb dL_law_1585 rfl (lv_at hl 4 rfl) ?_
  refine lv_aload_n hx hb dL_law_1586 rfl (lv_at hl 5 rfl) ?_
  refine lv_iload hx hb dL_law_1587 (lv_at hl 0 rfl) ?_
  refine lv_iconst (v := 1) hx hb dL_law_1589 (by decide) ?_
  refine lv_iadd hx hb dL_law_1590 ?_
  refine va_sld hx hb hX hbl hbA hS (in_scr hi hL (k := 1) (by decide)) dL_law_1591 ?_
  refine lv_aload_n hx hb dL_law_1592 rfl (lv_at hl 2 rfl) ?_
  have hPM := t_drop (a := (xs (nI i + 1).toNatClampNeg)) hTop (by omega)
  refine vx_calli (vx_runSX (As := [.ref (adH B0 270), .int (xs (nI i + 1).toNatClampNeg), .ref (B0+290)]) (rest := []) ⟨hx, hb, hml, hown, hts⟩ (cL_drop_met l hl0 hA σ (xs (nI i + 1).toNatClampNeg) cL f hO hPM.hE) (vx_cwSW 3 hts gL_law_L_drop rfl rfl rfl hd_L_dropS ⟨Nat.le_trans (by decide) hfr, Nat.le_trans (by decide) hlo⟩) ⟨hw1_blind, hw1_pre hK hN hT hLw hG hR hNc hsz hS hP hPo hKo⟩ rfl rfl hl.1 rfl (lv_room (Nat.le_of_ble_eq_true rfl)) dL_law_1593 ⟨by omega, by omega⟩) hS (fun q _ h => aw1_ac h) (fun q h => aw1_ac h) (fun q _ h => aw1_ac h) (fun _ _ _ _ _ _ _ _ _ hw9 _ _ _ _ _ _ _ => hw9.elim) (fun r6 z1 t H locs ht hvm hw6 hB hz1 hk1 hS => ?_)
  obtain ⟨ok6, hw6⟩ := hw6
  obtain ⟨σ1, eσ1⟩ : ∃ z, z = z1.1 := ⟨_, rfl⟩
  obtain ⟨hB1, hB2⟩ := hB
  rw [← eσ1] at ok6 hw6 hB1
  have hP : va_P D vwCl (pool G (adH B0) σ1) H := ho_at ht hB1
  have hPo : va_P D vwCl [(B0+290, .inl (cL, 1, .inr (.inl z1.2)))] H := by rw [← ht]; exact hB2
  have hPd := hPd.kept (fun k q hk => hk1 q.1 (vx_lt hPd hk) (wo_o21 hk))
  refine lv_istore (lv' := [(6, .int r6), (5, .int (nI i)), (4, .ref (B0+291)), (3, .ref (B0+290)), (2, .ref (adH B0 279)), (1, .ref (adH B0 270)), (0, .ref b)]) hx hb dL_law_1596 hl (by decide) rfl (fun ls hl => ?_)
  refine lv_aload_n hx hb dL_law_1598 rfl (lv_at hl 4 rfl) ?_
  refine lv_aload_n hx hb dL_law_1599 rfl (lv_at hl 6 rfl) ?_
  refine lv_iload hx hb dL_law_1600 (lv_at hl 1 rfl) ?_
  refine lv_iconst (v := 1) hx hb dL_law_1602 (by decide) ?_
  refine lv_iadd hx hb dL_law_1603 ?_
  refine va_sld hx hb hX hbl hbA hS (in_scr hi hL (k := 1) (by decide)) dL_law_1604 ?_
  have hls := ls_of (P := fun v => z1.2 0 = v.toInt64) hPM cd1_i hw6
  obtain ⟨hT1, h16, h490, hval⟩ := hls
  have hu : va_up σ1 16 (σ 16) = σ1 := by rw [← h16]; exact up_eta σ1 16
  rw [← hu] at hP
  refine va_calli (va_runV (As := [.int (xs (nI i + 1).toNatClampNeg)]) (rest := []) ⟨hx, hb, hml, hown, hts⟩ (c7_drop l hA σ1 (σ 16) (xs (nI i + 1).toNatClampNeg) hO.2.2) (cwV 1 hts gL_law_X7_drop rfl rfl rfl hd_X7_dropV ⟨Nat.le_trans (by decide) hfr, Nat.le_trans (by decide) hlo⟩) ⟨hp_blind, va_recv hK hP (ci := 9) (q0 := 279) rfl c_279, hp_pre hK hN hP⟩ rfl rfl hl.1 rfl (lv_room (Nat.le_of_ble_eq_true rfl)) dL_law_1605 ⟨by omega, by omega⟩) hS (fun q _ h => aa_ac h) (fun q h => aa_ac h) (fun r7 u7 t H locs ht hvm hw7 hB hz1 hk1 hS => ?_)
  have hP : va_P D vwCl (pool G (adH B0) (va_up σ1 16 u7)) H := ho_at ht hB
  have hPo := hPo.kept (fun k q hk => hk1 q.1 (vx_lt hPo hk) (wo_out1 hk))
  have hPd := hPd.kept (fun k q hk => hk1 q.1 (vx_lt hPd hk) (wo_out2 hk))
  obtain ⟨eq7, ok7⟩ := hw7
  rw [← eq7] at hT1 h490 hval
  refine lv_istore (lv' := [(7, .int r7), (6, .int r6), (5, .int (nI i)), (4, .ref (B0+291)), (3, .ref (B0+290)), (2, .ref (adH B0 279)), (1, .ref (adH B0 270)), (0, .ref b)]) hx hb dL_law_1608 hl (by decide) rfl (fun ls hl => ?_)
  refine lv_aload_n hx hb dL_law_1610 rfl (lv_at hl 5 rfl) ?_
  refine va_calli (va_runV (As := []) (rest := []) ⟨hx, hb, hml, hown, hts⟩ (c7_thrown l hA σ1 u7) (cwV 0 hts gL_law_X7_thrown rfl rfl rfl hd_X7_thrownV ⟨Nat.le_trans (by decide) hfr, Nat.le_trans (by decide) hlo⟩) ⟨hp_blind, va_recv hK hP (ci := 9) (q0 := 279) rfl c_279, hp_pre hK hN hP⟩ rfl rfl hl.1 rfl (lv_room (Nat.le_of_ble_eq_true rfl)) dL_law_1611 ⟨by omega, by omega⟩) hS (fun q _ h => aa_ac h) (fun q h => aa_ac h) (fun r8 _ t H locs ht hvm hw8 hB hz1 hk1 hS => ?_)
  have hP : va_P D vwCl (pool G (adH B0) (va_up σ1 16 u7)) H := ho_at ht hB
  have hPo := hPo.kept (fun k q hk => hk1 q.1 (vx_lt hPo hk) (wo_out1 hk))
  have hPd := hPd.kept (fun k q hk => hk1 q.1 (vx_lt hPd hk) (wo_out2 hk))
  refine lv_iload hx hb dL_law_1614 (lv_at hl 1 rfl) ?_
  refine lv_icmp_eq (tgt := 1621) hx hb dL_law_1616 (by decide) (fun c9 => ?_) (fun c9 => absurd (hw8.trans h490) c9)
  have hdone : ∀ (k0 n0 : Nat), k0 ≤ cells + 4 → n0 ≤ slots + 24 → ∀ ls2 : Array Slot, lv_has ls2 8 [(7, .int r7), (6, .int r6), (5, .int (nI i)), (4, .ref (B0+291)), (3, .ref (B0+290)), (2, .ref (adH B0 279)), (1, .ref (adH B0 270)), (0, .ref b)] → W p l e R s m args below meth c H locs k0 n0 Q (F0 m 2317 ls2 []) := fun k0 n0 hk0 hn0 ls2 hl2 => W.widen (k := cells + 4) (n := slots + 24) hk0 hn0 (cont _ z1.2 g H locs ls2 ⟨hP, hPo, hPd, (top_16 hT1).mono (by omega), okS_16 ok6 ok7⟩ hS (lv_sub hl2 [2, 3, 4, 5, 6, 7] rfl))
  refine lv_iload hx hb dL_law_1621 (lv_at hl 1 rfl) ?_
  refine lv_if_ne (tgt := 1638) hx hb dL_law_1623 (by decide) (fun c8 => ?_) (fun c8 => ?_)
  · refine lv_goto (tgt := 2317) hx hb dL_law_1638 (by decide) ?_
    exact hdone _ _ (by omega) (by omega) ls hl
  obtain ⟨v9, hv9, rfl⟩ := hval c8
  refine lv_aload_n hx hb dL_law_1626 rfl (lv_at hl 4 rfl) ?_
  refine lv_iconst (v := 0) hx hb dL_law_1627 (by decide) ?_
  refine va_lald (tys := [(cL, .long)]) hx hb hKo hPo 0 0 rfl rfl (vp_in_iff.mpr (by decide)) dL_law_1628 ?_
  have hv9 : z1.2 (0 : Int32).toNatClampNeg = _ := hv9
  rw [hv9]
  refine lv_iload hx hb dL_law_1629 (lv_at hl 0 rfl) ?_
  refine lv_i2l (v := v9.toInt64) hx hb dL_law_1631 rfl ?_
  refine W.lcmp hx hb dL_law_1632 ?_
  refine lv_if_eq (tgt := 1638) hx hb dL_law_1633 (by decide) (fun c7 => ?_) (fun c7 => absurd (lg_cmp_self _) c7)
  refine lv_goto (tgt := 2317) hx hb dL_law_1638 (by decide) ?_
  exact hdone _ _ (by omega) (by omega) ls hl
set_option maxHeartbeats 2000000 in
set_option maxRecDepth 100000 in
theorem law_22 {p : Program} {l : Launch} {e : Env} {R : Room} {s : State} {m : MethodId} {args : Array Value} {below : List Frame} {meth : Method} {c : Code} {Q : State → Prop} (hl0 : l.stackTraces = false) {D : va_G} {G : CY} {B0 b L i cells slots : Nat} {xs : Nat → Int32} {cL cD : ClassId} {K : Int} {σ : Nat → Nat → Int32} {f : Nat → Int64} {g : Nat → UInt64} {H : Heap} {locs : List Loc} {ls : Array Slot}
    (hx : p.tables.exec = Jvm.exec) (hb : c.code = code) (hml : c.maxLocals = 8) (hown : s.vm.findClass RL = some m.cls) (hts : ∀ w ∈ lw_tbl, w.before args s = true) (hLA : LA D G B0 cL cD b L xs s) (hLI : LI D G B0 cL cD K σ f g H) (hS : va_S (AC B0) s.heap H locs) (hl : lv_has ls 8 [(5, .int (nI i)), (4, .ref (B0+291)), (3, .ref (B0+290)), (2, .ref (adH B0 279)), (1, .ref (adH B0 270)), (0, .ref b)]) (hi : i + 7 ≤ L) (hL : L ≤ 3584) (hK8 : K ≤ 800000000) (hfr : 20 ≤ R.frames) (hlo : 400 ≤ R.locals) (hce : cells + 4 ≤ R.cells) (hsl : slots + 24 ≤ R.slots)
    (cont : ∀ (σ2 : Nat → Nat → Int32) (f2 : Nat → Int64) (g2 : Nat → UInt64) (H2 : Heap) (locs2 : List Loc) (ls2 : Array Slot), LI D G B0 cL cD (K+500000) σ2 f2 g2 H2 → va_S (AC B0) s.heap H2 locs2 → lv_has ls2 8 [(5, .int (nI i)), (4, .ref (B0+291)), (3, .ref (B0+290)), (2, .ref (adH B0 279)), (1, .ref (adH B0 270)), (0, .ref b)] → W p l e R s m args below meth c H2 locs2 (cells + 4) (slots + 24) Q (F0 m 2317 ls2 [])) : W p l e R s m args below meth c H locs cells slots Q (F0 m 1641 ls []) := by
  obtain ⟨hK, hN, hT, hLw, ⟨adK, adV, hG, hR⟩, hNc, hKo, hKd, hX, hbl, hsz⟩ := id hLA
  obtain ⟨hP, hPo, hPd, hTop, hO⟩ := hLI
  have hA := adH_ok B0
  have hbA : ¬ AC B0 b := fun z => by have z : B0 ≤ b := z; omega
  refine lv_aload_n hx hb dL_law_1641 rfl (lv_at hl 4 rfl) ?_
  refine lv_aload_n hx hb dL_law_1642 rfl (lv_at hl 5 rfl) ?_
  refine lv_iload hx hb dL_law_1643 (lv_at hl 0 rfl) ?_
  refine lv_iconst (v := 1) hx hb dL_law_1645 (by decide) ?_
  refine lv_iadd hx hb dL_law_1646 ?_
  refine va_sld hx hb hX hbl hbA hS (in_scr hi hL (k := 1) (by decide)) dL_law_1647 ?_
  refine lv_aload_n hx hb dL_law_1648 rfl (lv_at hl 5 rfl) ?_
  refine lv_iload hx hb dL_law_1649 (lv_at hl 0 rfl) ?_
  refine lv_iconst (v := 2) hx hb dL_law_1651 (by decide) ?_
  refine lv_iadd hx hb dL_law_1652 ?_
  refine va_sld hx hb hX hbl hbA hS (in_scr hi hL (k := 2) (by decide)) dL_law_1653 ?_
  refine lv_aload_n hx hb dL_law_1654 rfl (lv_at hl 2 rfl) ?_
  have hPM := t_look (a := (xs (nI i + 1).toNatClampNeg)) (b := (xs (nI i + 2).toNatClampNeg)) hTop (by omega)
  refine vx_calli (vx_runSX (As := [.ref (adH B0 270), .int (xs (nI i + 1).toNatClampNeg), .int (xs (nI i + 2).toNatClampNeg), .ref (B0+290)]) (rest := []) ⟨hx, hb, hml, hown, hts⟩ (cL_look_met l hl0 hA σ (xs (nI i + 1).toNatClampNeg) (xs (nI i + 2).toNatClampNeg) cL f hO hPM.hE) (vx_cwSW 4 hts gL_law_L_look rfl rfl rfl hd_L_lookS ⟨Nat.le_trans (by decide) hfr, Nat.le_trans (by decide) hlo⟩) ⟨hw1_blind, hw1_pre hK hN hT hLw hG hR hNc hsz hS hP hPo hKo⟩ rfl rfl hl.1 rfl (lv_room (Nat.le_of_ble_eq_true rfl)) dL_law_1655 ⟨by omega, by omega⟩) hS (fun q _ h => aw1_ac h) (fun q h => aw1_ac h) (fun q _ h => aw1_ac h) (fun _ _ _ _ _ _ _ _ _ hw9 _ _ _ _ _ _ _ => hw9.elim) (fun r6 z1 t H locs ht hvm hw6 hB hz1 hk1 hS => ?_)
  obtain ⟨ok6, hw6⟩ := hw6
  obtain ⟨σ1, eσ1⟩ : ∃ z, z = z1.1 := ⟨_, rfl⟩
  obtain ⟨hB1, hB2⟩ := hB
  rw [← eσ1] at ok6 hw6 hB1
  have hP : va_P D vwCl (pool G (adH B0) σ1) H := ho_at ht hB1
  have hPo : va_P D vwCl [(B0+290, .inl (cL, 1, .inr (.inl z1.2)))] H := by rw [← ht]; exact hB2
  have hPd := hPd.kept (fun k q hk => hk1 q.1 (vx_lt hPd hk) (wo_o21 hk))
  refine lv_istore (lv' := [(6, .int r6), (5, .int (nI i)), (4, .ref (B0+291)), (3, .ref (B0+290)), (2, .ref (adH B0 279)), (1, .ref (adH B0 270)), (0, .ref b)]) hx hb dL_law_1658 hl (by decide) rfl (fun ls hl => ?_)
  refine lv_aload_n hx hb dL_law_1660 rfl (lv_at hl 4 rfl) ?_
  refine lv_aload_n hx hb dL_law_1661 rfl (lv_at hl 6 rfl) ?_
  refine lv_iload hx hb dL_law_1662 (lv_at hl 1 rfl) ?_
  refine lv_iconst (v := 1) hx hb dL_law_1664 (by decide) ?_
  refine lv_iadd hx hb dL_law_1665 ?_
  refine va_sld hx hb hX hbl hbA hS (in_scr hi hL (k := 1) (by decide)) dL_law_1666 ?_
  refine lv_aload_n hx hb dL_law_1667 rfl (lv_at hl 6 rfl) ?_
  refine lv_iload hx hb dL_law_1668 (lv_at hl 1 rfl) ?_
  refine lv_iconst (v := 2) hx hb dL_law_1670 (by decide) ?_
  refine lv_iadd hx hb dL_law_1671 ?_
  refine va_sld hx hb hX hbl hbA hS (in_scr hi hL (k := 2) (by decide)) dL_law_1672 ?_
  have hls := ls_of (P := fun v => z1.2 0 = v.toInt64) hPM cd1_i hw6
  obtain ⟨hT1, h16, h490, hval⟩ := hls
  have hu : va_up σ1 16 (σ 16) = σ1 := by rw [← h16]; exact up_eta σ1 16
  rw [← hu] at hP
  refine va_calli (va_runV (As := [.int (xs (nI i + 1).toNatClampNeg), .int (xs (nI i + 2).toNatClampNeg)]) (rest := []) ⟨hx, hb, hml, hown, hts⟩ (c7_look l hA σ1 (σ 16) (xs (nI i + 1).toNatClampNeg) (xs (nI i + 2).toNatClampNeg) hO.2.2) (cwV 2 hts gL_law_X7_look rfl rfl rfl hd_X7_lookV ⟨Nat.le_trans (by decide) hfr, Nat.le_trans (by decide) hlo⟩) ⟨hp_blind, va_recv hK hP (ci := 9) (q0 := 279) rfl c_279, hp_pre hK hN hP⟩ rfl rfl hl.1 rfl (lv_room (Nat.le_of_ble_eq_true rfl)) dL_law_1673 ⟨by omega, by omega⟩) hS (fun q _ h => aa_ac h) (fun q h => aa_ac h) (fun r7 u7 t H locs ht hvm hw7 hB hz1 hk1 hS => ?_)
  have hP : va_P D vwCl (pool G (adH B0) (va_up σ1 16 u7)) H := ho_at ht hB
  have hPo := hPo.kept (fun k q hk => hk1 q.1 (vx_lt hPo hk) (wo_out1 hk))
  have hPd := hPd.kept (fun k q hk => hk1 q.1 (vx_lt hPd hk) (wo_out2 hk))
  obtain ⟨eq7, ok7⟩ := hw7
  rw [← eq7] at hT1 h490 hval
  refine lv_istore (lv' := [(7, .int r7), (6, .int r6), (5, .int (nI i)), (4, .ref (B0+291)), (3, .ref (B0+290)), (2, .ref (adH B0 279)), (1, .ref (adH B0 270)), (0, .ref b)]) hx hb dL_law_1676 hl (by decide) rfl (fun ls hl => ?_)
  refine lv_aload_n hx hb dL_law_1678 rfl (lv_at hl 5 rfl) ?_
  refine va_calli (va_runV (As := []) (rest := []) ⟨hx, hb, hml, hown, hts⟩ (c7_thrown l hA σ1 u7) (cwV 0 hts gL_law_X7_thrown rfl rfl rfl hd_X7_thrownV ⟨Nat.le_trans (by decide) hfr, Nat.le_trans (by decide) hlo⟩) ⟨hp_blind, va_recv hK hP (ci := 9) (q0 := 279) rfl c_279, hp_pre hK hN hP⟩ rfl rfl hl.1 rfl (lv_room (Nat.le_of_ble_eq_true rfl)) dL_law_1679 ⟨by omega, by omega⟩) hS (fun q _ h => aa_ac h) (fun q h => aa_ac h) (fun r8 _ t H locs ht hvm hw8 hB hz1 hk1 hS => ?_)
  have hP : va_P D vwCl (pool G (adH B0) (va_up σ1 16 u7)) H := ho_at ht hB
  have hPo := hPo.kept (fun k q hk => hk1 q.1 (vx_lt hPo hk) (wo_out1 hk))
  have hPd := hPd.kept (fun k q hk => hk1 q.1 (vx_lt hPd hk) (wo_out2 hk))
  refine lv_iload hx hb dL_law_1682 (lv_at hl 1 rfl) ?_
  refine lv_icmp_eq (tgt := 1689) hx hb dL_law_1684 (by decide) (fun c9 => ?_) (fun c9 => absurd (hw8.trans h490) c9)
  have hdone : ∀ (k0 n0 : Nat), k0 ≤ cells + 4 → n0 ≤ slots + 24 → ∀ ls2 : Array Slot, lv_has ls2 8 [(7, .int r7), (6, .int r6), (5, .int (nI i)), (4, .ref (B0+291)), (3, .ref (B0+290)), (2, .ref (adH B0 279)), (1, .ref (adH B0 270)), (0, .ref b)] → W p l e R s m args below meth c H locs k0 n0 Q (F0 m 2317 ls2 []) := fun k0 n0 hk0 hn0 ls2 hl2 => W.widen (k := cells + 4) (n := slots + 24) hk0 hn0 (cont _ z1.2 g H locs ls2 ⟨hP, hPo, hPd, (top_16 hT1).mono (by omega), okS_16 ok6 ok7⟩ hS (lv_sub hl2 [2, 3, 4, 5, 6, 7] rfl))
  refine lv_iload hx hb dL_law_1689 (lv_at hl 1 rfl) ?_
  refine lv_if_ne (tgt := 1706) hx hb dL_law_1691 (by decide) (fun c8 => ?_) (fun c8 => ?_)
  · refine lv_goto (tgt := 2317) hx hb dL_law_1706 (by decide) ?_
    exact hdone _ _ (by omega) (by omega) ls hl
  obtain ⟨v9, hv9, rfl⟩ := hval c8
  refine lv_aload_n hx hb dL_law_1694 rfl (lv_at hl 4 rfl) ?_
  refine lv_iconst (v := 0) hx hb dL_law_1695 (by decide) ?_
  refine va_lald (tys := [(cL, .long)]) hx hb hKo hPo 0 0 rfl rfl (vp_in_iff.mpr (by decide)) dL_law_1696 ?_
  have hv9 : z1.2 (0 : Int32).toNatClampNeg = _ := hv9
  rw [hv9]
  refine lv_iload hx hb dL_law_1697 (lv_at hl 0 rfl) ?_
  refine lv_i2l (v := v9.toInt64) hx hb dL_law_1699 rfl ?_
  refine W.lcmp hx hb dL_law_1700 ?_
  refine lv_if_eq (tgt := 1706) hx hb dL_law_1701 (by decide) (fun c7 => ?_) (fun c7 => absurd (lg_cmp_self _) c7)
  refine lv_goto (tgt := 2317) hx hb dL_law_1706 (by decide) ?_
  exact hdone _ _ (by omega) (by omega) ls hl
set_option maxHeartbeats 2000000 in
set_option maxRecDepth 100000 in
theorem law_23 {p : Program} {l : Launch} {e : Env} {R : Room} {s : State} {m : MethodId} {args : Array Value} {below : List Frame} {meth : Method} {c : Code} {Q : State → Prop} (hl0 : l.stackTraces = false) {D : va_G} {G : CY} {B0 b L i cells slots : Nat} {xs : Nat → Int32} {cL cD : ClassId} {K : Int} {σ : Nat → Nat → Int32} {f : Nat → Int64} {g : Nat → UInt64} {H : Heap} {locs : List Loc} {ls : Array Slot}
    (hx : p.tables.exec = Jvm.exec) (hb : c.code = code) (hml : c.maxLocals = 8) (hown : s.vm.findClass RL = some m.cls) (hts : ∀ w ∈ lw_tbl, w.before args s = true) (hLA : LA D G B0 cL cD b L xs s) (hLI : LI D G B0 cL cD K σ f g H) (hS : va_S (AC B0) s.heap H locs) (hl : lv_has ls 8 [(5, .int (nI i)), (4, .ref (B0+291)), (3, .ref (B0+290)), (2, .ref (adH B0 279)), (1, .ref (adH B0 270)), (0, .ref b)]) (hi : i + 7 ≤ L) (hL : L ≤ 3584) (hK8 : K ≤ 800000000) (hfr : 20 ≤ R.frames) (hlo : 400 ≤ R.locals) (hce : cells + 4 ≤ R.cells) (hsl : slots + 24 ≤ R.slots)
    (cont : ∀ (σ2 : Nat → Nat → Int32) (f2 : Nat → Int64) (g2 : Nat → UInt64) (H2 : Heap) (locs2 : List Loc) (ls2 : Array Slot), LI D G B0 cL cD (K+500000) σ2 f2 g2 H2 → va_S (AC B0) s.heap H2 locs2 → lv_has ls2 8 [(5, .int (nI i)), (4, .ref (B0+291)), (3, .ref (B0+290)), (2, .ref (adH B0 279)), (1, .ref (adH B0 270)), (0, .ref b)] → W p l e R s m args below meth c H2 locs2 (cells + 4) (slots + 24) Q (F0 m 2317 ls2 [])) : W p l e R s m args below meth c H locs cells slots Q (F0 m 1709 ls []) := by
  obtain ⟨hK, hN, hT, hLw, ⟨adK, adV, hG, hR⟩, hNc, hKo, hKd, hX, hbl, hsz⟩ := id hLA
  obtain ⟨hP, hPo, hPd, hTop, hO⟩ := hLI
  have hA := adH_ok B0
  have hbA : ¬ AC B0 b := fun z => by have z : B0 ≤ b := z; omega
  refine lv_aload_n hx hb dL_law_1709 rfl (lv_at hl 4 rfl) ?_
  refine lv_aload_n hx hb dL_law_1710 rfl (lv_at hl 5 rfl) ?_
  refine lv_iload hx hb dL_law_1711 (lv_at hl 0 rfl) ?_
  refine lv_iconst (v := 1) hx hb dL_law_1713 (by decide) ?_
  refine lv_iadd hx hb dL_law_1714 ?_
  refine va_sld hx hb hX hbl hbA hS (in_scr hi hL (k := 1) (by decide)) dL_law_1715 ?_
  refine lv_aload_n hx hb dL_law_1716 rfl (lv_at hl 5 rfl) ?_
  refine lv_iload hx hb dL_law_1717 (lv_at hl 0 rfl) ?_
  refine lv_iconst (v := 2) hx hb dL_law_1719 (by decide) ?_
  refine lv_iadd hx hb dL_law_1720 ?_
  refine va_sld hx hb hX hbl hbA hS (in_scr hi hL (k := 2) (by decide)) dL_law_1721 ?_
  refine lv_aload_n hx hb dL_law_1722 rfl (lv_at hl 5 rfl) ?_
  refine lv_iload hx hb dL_law_1723 (lv_at hl 0 rfl) ?_
  refine lv_iconst (v := 3) hx hb dL_law_1725 (by decide) ?_
  refine lv_iadd hx hb dL_law_1726 ?_
  refine va_sld hx hb hX hbl hbA hS (in_scr hi hL (k := 3) (by decide)) dL_law_1727 ?_
  refine lv_aload_n hx hb dL_law_1728 rfl (lv_at hl 2 rfl) ?_
  have hPM := t_ray (a := (xs (nI i + 1).toNatClampNeg)) (b := (xs (nI i + 2).toNatClampNeg)) (d := (xs (nI i + 3).toNatClampNeg)) hTop
  refine vx_calli (vx_runSX (As := [.ref (adH B0 270), .int (xs (nI i + 1).toNatClampNeg), .int (xs (nI i + 2).toNatClampNeg), .int (xs (nI i + 3).toNatClampNeg), .ref (B0+290)]) (rest := []) ⟨hx, hb, hml, hown, hts⟩ (cL_ray_met l hl0 hA σ (xs (nI i + 1).toNatClampNeg) (xs (nI i + 2).toNatClampNeg) (xs (nI i + 3).toNatClampNeg) cL f hO hPM.hE) (vx_cwSW 5 hts gL_law_L_ray rfl rfl rfl hd_L_rayS ⟨Nat.le_trans (by decide) hfr, Nat.le_trans (by decide) hlo⟩) ⟨hw1_blind, hw1_pre hK hN hT hLw hG hR hNc hsz hS hP hPo hKo⟩ rfl rfl hl.1 rfl (lv_room (Nat.le_of_ble_eq_true rfl)) dL_law_1729 ⟨by omega, by omega⟩) hS (fun q _ h => aw1_ac h) (fun q h => aw1_ac h) (fun q _ h => aw1_ac h) (fun _ _ _ _ _ _ _ _ _ hw9 _ _ _ _ _ _ _ => hw9.elim) (fun r6 z1 t H locs ht hvm hw6 hB hz1 hk1 hS => ?_)
  obtain ⟨ok6, hw6⟩ := hw6
  obtain ⟨σ1, eσ1⟩ : ∃ z, z = z1.1 := ⟨_, rfl⟩
  obtain ⟨hB1, hB2⟩ := hB
  rw [← eσ1] at ok6 hw6 hB1
  have hP : va_P D vwCl (pool G (adH B0) σ1) H := ho_at ht hB1
  have hPo : va_P D vwCl [(B0+290, .inl (cL, 1, .inr (.inl z1.2)))] H := by rw [← ht]; exact hB2
  have hPd := hPd.kept (fun k q hk => hk1 q.1 (vx_lt hPd hk) (wo_o21 hk))
  refine lv_istore (lv' := [(6, .int r6), (5, .int (nI i)), (4, .ref (B0+291)), (3, .ref (B0+290)), (2, .ref (adH B0 279)), (1, .ref (adH B0 270)), (0, .ref b)]) hx hb dL_law_1732 hl (by decide) rfl (fun ls hl => ?_)
  refine lv_aload_n hx hb dL_law_1734 rfl (lv_at hl 4 rfl) ?_
  refine lv_aload_n hx hb dL_law_1735 rfl (lv_at hl 6 rfl) ?_
  refine lv_iload hx hb dL_law_1736 (lv_at hl 1 rfl) ?_
  refine lv_iconst (v := 1) hx hb dL_law_1738 (by decide) ?_
  refine lv_iadd hx hb dL_law_1739 ?_
  refine va_sld hx hb hX hbl hbA hS (in_scr hi hL (k := 1) (by decide)) dL_law_1740 ?_
  refine lv_aload_n hx hb dL_law_1741 rfl (lv_at hl 6 rfl) ?_
  refine lv_iload hx hb dL_law_1742 (lv_at hl 1 rfl) ?_
  refine lv_iconst (v := 2) hx hb dL_law_1744 (by decide) ?_
  refine lv_iadd hx hb dL_law_1745 ?_
  refine va_sld hx hb hX hbl hbA hS (in_scr hi hL (k := 2) (by decide)) dL_law_1746 ?_
  refine lv_aload_n hx hb dL_law_1747 rfl (lv_at hl 6 rfl) ?_
  refine lv_iload hx hb dL_law_1748 (lv_at hl 1 rfl) ?_
  refine lv_iconst (v := 3) hx hb dL_law_1750 (by decide) ?_
  refine lv_iadd hx hb dL_law_1751 ?_
  refine va_sld hx hb hX hbl hbA hS (in_scr hi hL (k := 3) (by decide)) dL_law_1752 ?_
  have hls := ls_of (P := fun v => z1.2 0 = v.toInt64) hPM cd1_i hw6
  obtain ⟨hT1, h16, h490, hval⟩ := hls
  have hu : va_up σ1 16 (σ 16) = σ1 := by rw [← h16]; exact up_eta σ1 16
  rw [← hu] at hP
  refine va_calli (va_runV (As := [.int (xs (nI i + 1).toNatClampNeg), .int (xs (nI i + 2).toNatClampNeg), .int (xs (nI i + 3).toNatClampNeg)]) (rest := []) ⟨hx, hb, hml, hown, hts⟩ (c7_ray l hA σ1 (σ 16) (xs (nI i + 1).toNatClampNeg) (xs (nI i + 2).toNatClampNeg) (xs (nI i + 3).toNatClampNeg) hO.2.2) (cwV 3 hts gL_law_X7_ray rfl rfl rfl hd_X7_rayV ⟨Nat.le_trans (by decide) hfr, Nat.le_trans (by decide) hlo⟩) ⟨hp_blind, va_recv hK hP (ci := 9) (q0 := 279) rfl c_279, hp_pre hK hN hP⟩ rfl rfl hl.1 rfl (lv_room (Nat.le_of_ble_eq_true rfl)) dL_law_1753 ⟨by omega, by omega⟩) hS (fun q _ h => aa_ac h) (fun q h => aa_ac h) (fun r7 u7 t H locs ht hvm hw7 hB hz1 hk1 hS => ?_)
  have hP : va_P D vwCl (pool G (adH B0) (va_up σ1 16 u7)) H := ho_at ht hB
  have hPo := hPo.kept (fun k q hk => hk1 q.1 (vx_lt hPo hk) (wo_out1 hk))
  have hPd := hPd.kept (fun k q hk => hk1 q.1 (vx_lt hPd hk) (wo_out2 hk))
  obtain ⟨eq7, ok7⟩ := hw7
  rw [← eq7] at hT1 h490 hval
  refine lv_istore (lv' := [(7, .int r7), (6, .int r6), (5, .int (nI i)), (4, .ref (B0+291)), (3, .ref (B0+290)), (2, .ref (adH B0 279)), (1, .ref (adH B0 270)), (0, .ref b)]) hx hb dL_law_1756 hl (by decide) rfl (fun ls hl => ?_)
  refine lv_aload_n hx hb dL_law_1758 rfl (lv_at hl 5 rfl) ?_
  refine va_calli (va_runV (As := []) (rest := []) ⟨hx, hb, hml, hown, hts⟩ (c7_thrown l hA σ1 u7) (cwV 0 hts gL_law_X7_thrown rfl rfl rfl hd_X7_thrownV ⟨Nat.le_trans (by decide) hfr, Nat.le_trans (by decide) hlo⟩) ⟨hp_blind, va_recv hK hP (ci := 9) (q0 := 279) rfl c_279, hp_pre hK hN hP⟩ rfl rfl hl.1 rfl (lv_room (Nat.le_of_ble_eq_true rfl)) dL_law_1759 ⟨by omega, by omega⟩) hS (fun q _ h => aa_ac h) (fun q h => aa_ac h) (fun r8 _ t H locs ht hvm hw8 hB hz1 hk1 hS => ?_)
  have hP : va_P D vwCl (pool G (adH B0) (va_up σ1 16 u7)) H := ho_at ht hB
  have hPo := hPo.kept (fun k q hk => hk1 q.1 (vx_lt hPo hk) (wo_out1 hk))
  have hPd := hPd.kept (fun k q hk => hk1 q.1 (vx_lt hPd hk) (wo_out2 hk))
  refine lv_iload hx hb dL_law_1762 (lv_at hl 1 rfl) ?_
  refine lv_icmp_eq (tgt := 1769) hx hb dL_law_1764 (by decide) (fun c9 => ?_) (fun c9 => absurd (hw8.trans h490) c9)
  have hdone : ∀ (k0 n0 : Nat), k0 ≤ cells + 4 → n0 ≤ slots + 24 → ∀ ls2 : Array Slot, lv_has ls2 8 [(7, .int r7), (6, .int r6), (5, .int (nI i)), (4, .ref (B0+291)), (3, .ref (B0+290)), (2, .ref (adH B0 279)), (1, .ref (adH B0 270)), (0, .ref b)] → W p l e R s m args below meth c H locs k0 n0 Q (F0 m 2317 ls2 []) := fun k0 n0 hk0 hn0 ls2 hl2 => W.widen (k := cells + 4) (n := slots + 24) hk0 hn0 (cont _ z1.2 g H locs ls2 ⟨hP, hPo, hPd, (top_16 hT1).mono (by omega), okS_16 ok6 ok7⟩ hS (lv_sub hl2 [2, 3, 4, 5, 6, 7] rfl))
  refine lv_iload hx hb dL_law_1769 (lv_at hl 1 rfl) ?_
  refine lv_if_ne (tgt := 1786) hx hb dL_law_1771 (by decide) (fun c8 => ?_) (fun c8 => ?_)
  · refine lv_goto (tgt := 2317) hx hb dL_law_1786 (by decide) ?_
    exact hdone _ _ (by omega) (by omega) ls hl
  obtain ⟨v9, hv9, rfl⟩ := hval c8
  refine lv_aload_n hx hb dL_law_1774 rfl (lv_at hl 4 rfl) ?_
  refine lv_iconst (v := 0) hx hb dL_law_1775 (by decide) ?_
  refine va_lald (tys := [(cL, .long)]) hx hb hKo hPo 0 0 rfl rfl (vp_in_iff.mpr (by decide)) dL_law_1776 ?_
  have hv9 : z1.2 (0 : Int32).toNatClampNeg = _ := hv9
  rw [hv9]
  refine lv_iload hx hb dL_law_1777 (lv_at hl 0 rfl) ?_
  refine lv_i2l (v := v9.toInt64) hx hb dL_law_1779 rfl ?_
  refine W.lcmp hx hb dL_law_1780 ?_
  refine lv_if_eq (tgt := 1786) hx hb dL_law_1781 (by decide) (fun c7 => ?_) (fun c7 => absurd (lg_cmp_self _) c7)
  refine lv_goto (tgt := 2317) hx hb dL_law_1786 (by decide) ?_
  exact hdone _ _ (by omega) (by omega) ls hl
set_option maxHeartbeats 2000000 in
set_option maxRecDepth 100000 in
theorem law_24 {p : Program} {l : Launch} {e : Env} {R : Room} {s : State} {m : MethodId} {args : Array Value} {below : List Frame} {meth : Method} {c : Code} {Q : State → Prop} (hl0 : l.stackTraces = false) {D : va_G} {G : CY} {B0 b L i cells slots : Nat} {xs : Nat → Int32} {cL cD : ClassId} {K : Int} {σ : Nat → Nat → Int32} {f : Nat → Int64} {g : Nat → UInt64} {H : Heap} {locs : List Loc} {ls : Array Slot}
    (hx : p.tables.exec = Jvm.exec) (hb : c.code = code) (hml : c.maxLocals = 8) (hown : s.vm.findClass RL = some m.cls) (hts : ∀ w ∈ lw_tbl, w.before args s = true) (hLA : LA D G B0 cL cD b L xs s) (hLI : LI D G B0 cL cD K σ f g H) (hS : va_S (AC B0) s.heap H locs) (hl : lv_has ls 8 [(5, .int (nI i)), (4, .ref (B0+291)), (3, .ref (B0+290)), (2, .ref (adH B0 279)), (1, .ref (adH B0 270)), (0, .ref b)]) (hi : i + 7 ≤ L) (hL : L ≤ 3584) (hK8 : K ≤ 800000000) (hfr : 20 ≤ R.frames) (hlo : 400 ≤ R.locals) (hce : cells + 4 ≤ R.cells) (hsl : slots + 24 ≤ R.slots)
    (cont : ∀ (σ2 : Nat → Nat → Int32) (f2 : Nat → Int64) (g2 : Nat → UInt64) (H2 : Heap) (locs2 : List Loc) (ls2 : Array Slot), LI D G B0 cL cD (K+500000) σ2 f2 g2 H2 → va_S (AC B0) s.heap H2 locs2 → lv_has ls2 8 [(5, .int (nI i)), (4, .ref (B0+291)), (3, .ref (B0+290)), (2, .ref (adH B0 279)), (1, .ref (adH B0 270)), (0, .ref b)] → W p l e R s m args below meth c H2 locs2 (cells + 4) (slots + 24) Q (F0 m 2317 ls2 [])) : W p l e R s m args below meth c H locs cells slots Q (F0 m 1789 ls []) := by
  obtain ⟨hK, hN, hT, hLw, ⟨adK, adV, hG, hR⟩, hNc, hKo, hKd, hX, hbl, hsz⟩ := id hLA
  obtain ⟨hP, hPo, hPd, hTop, hO⟩ := hLI
  have hA := adH_ok B0
  have hbA : ¬ AC B0 b := fun z => by have z : B0 ≤ b := z; omega
  refine lv_aload_n hx hb dL_law_1789 rfl (lv_at hl 4 rfl) ?_
  refine lv_aload_n hx hb dL_law_1790 rfl (lv_at hl 5 rfl) ?_
  refine lv_iload hx hb dL_law_1791 (lv_at hl 0 rfl) ?_
  refine lv_iconst (v := 1) hx hb dL_law_1793 (by decide) ?_
  refine lv_iadd hx hb dL_law_1794 ?_
  refine va_sld hx hb hX hbl hbA hS (in_scr hi hL (k := 1) (by decide)) dL_law_1795 ?_
  refine lv_aload_n hx hb dL_law_1796 rfl (lv_at hl 5 rfl) ?_
  refine lv_iload hx hb dL_law_1797 (lv_at hl 0 rfl) ?_
  refine lv_iconst (v := 2) hx hb dL_law_1799 (by decide) ?_
  refine lv_iadd hx hb dL_law_1800 ?_
  refine va_sld hx hb hX hbl hbA hS (in_scr hi hL (k := 2) (by decide)) dL_law_1801 ?_
  refine lv_aload_n hx hb dL_law_1802 rfl (lv_at hl 5 rfl) ?_
  refine lv_iload hx hb dL_law_1803 (lv_at hl 0 rfl) ?_
  refine lv_iconst (v := 3) hx hb dL_law_1805 (by decide) ?_
  refine lv_iadd hx hb dL_law_1806 ?_
  refine va_sld hx hb hX hbl hbA hS (in_scr hi hL (k := 3) (by decide)) dL_law_1807 ?_
  refine lv_aload_n hx hb dL_law_1808 rfl (lv_at hl 5 rfl) ?_
  refine lv_iload hx hb dL_law_1809 (lv_at hl 0 rfl) ?_
  refine lv_iconst (v := 4) hx hb dL_law_1811 (by decide) ?_
  refine lv_iadd hx hb dL_law_1812 ?_
  refine va_sld hx hb hX hbl hbA hS (in_scr hi hL (k := 4) (by decide)) dL_law_1813 ?_
  refine lv_aload_n hx hb dL_law_1814 rfl (lv_at hl 2 rfl) ?_
  have hPM := t_predict (a := (xs (nI i + 1).toNatClampNeg)) (b := (xs (nI i + 2).toNatClampNeg)) (c1 := (xs (nI i + 3).toNatClampNeg)) (d := (xs (nI i + 4).toNatClampNeg)) hTop (by omega)
  refine vx_calli (vx_runSX (As := [.ref (adH B0 270), .int (xs (nI i + 1).toNatClampNeg), .int (xs (nI i + 2).toNatClampNeg), .int (xs (nI i + 3).toNatClampNeg), .int (xs (nI i + 4).toNatClampNeg), .ref (B0+290)]) (rest := []) ⟨hx, hb, hml, hown, hts⟩ (cL_predict_met l hl0 hA σ (xs (nI i + 1).toNatClampNeg) (xs (nI i + 2).toNatClampNeg) (xs (nI i + 3).toNatClampNeg) (xs (nI i + 4).toNatClampNeg) cL f hO hPM.hE) (vx_cwSW 6 hts gL_law_L_predict rfl rfl rfl hd_L_predictS ⟨Nat.le_trans (by decide) hfr, Nat.le_trans (by decide) hlo⟩) ⟨hw1_blind, hw1_pre hK hN hT hLw hG hR hNc hsz hS hP hPo hKo⟩ rfl rfl hl.1 rfl (lv_room (Nat.le_of_ble_eq_true rfl)) dL_law_1815 ⟨by omega, by omega⟩) hS (fun q _ h => aw1_ac h) (fun q h => aw1_ac h) (fun q _ h => aw1_ac h) (fun _ _ _ _ _ _ _ _ _ hw9 _ _ _ _ _ _ _ => hw9.elim) (fun r6 z1 t H locs ht hvm hw6 hB hz1 hk1 hS => ?_)
  obtain ⟨ok6, hw6⟩ := hw6
  obtain ⟨σ1, eσ1⟩ : ∃ z, z = z1.1 := ⟨_, rfl⟩
  obtain ⟨hB1, hB2⟩ := hB
  rw [← eσ1] at ok6 hw6 hB1
  have hP : va_P D vwCl (pool G (adH B0) σ1) H := ho_at ht hB1
  have hPo : va_P D vwCl [(B0+290, .inl (cL, 1, .inr (.inl z1.2)))] H := by rw [← ht]; exact hB2
  have hPd := hPd.kept (fun k q hk => hk1 q.1 (vx_lt hPd hk) (wo_o21 hk))
  refine lv_istore (lv' := [(6, .int r6), (5, .int (nI i)), (4, .ref (B0+291)), (3, .ref (B0+290)), (2, .ref (adH B0 279)), (1, .ref (adH B0 270)), (0, .ref b)]) hx hb dL_law_1818 hl (by decide) rfl (fun ls hl => ?_)
  refine lv_aload_n hx hb dL_law_1820 rfl (lv_at hl 4 rfl) ?_
  refine lv_aload_n hx hb dL_law_1821 rfl (lv_at hl 6 rfl) ?_
  refine lv_iload hx hb dL_law_1822 (lv_at hl 1 rfl) ?_
  refine lv_iconst (v := 1) hx hb dL_law_1824 (by decide) ?_
  refine lv_iadd hx hb dL_law_1825 ?_
  refine va_sld hx hb hX hbl hbA hS (in_scr hi hL (k := 1) (by decide)) dL_law_1826 ?_
  refine lv_aload_n hx hb dL_law_1827 rfl (lv_at hl 6 rfl) ?_
  refine lv_iload hx hb dL_law_1828 (lv_at hl 1 rfl) ?_
  refine lv_iconst (v := 2) hx hb dL_law_1830 (by decide) ?_
  refine lv_iadd hx hb dL_law_1831 ?_
  refine va_sld hx hb hX hbl hbA hS (in_scr hi hL (k := 2) (by decide)) dL_law_1832 ?_
  refine lv_aload_n hx hb dL_law_1833 rfl (lv_at hl 6 rfl) ?_
  refine lv_iload hx hb dL_law_1834 (lv_at hl 1 rfl) ?_
  refine lv_iconst (v := 3) hx hb dL_law_1836 (by decide) ?_
  refine lv_iadd hx hb dL_law_1837 ?_
  refine va_sld hx hb hX hbl hbA hS (in_scr hi hL (k := 3) (by decide)) dL_law_1838 ?_
  refine lv_aload_n hx hb dL_law_1839 rfl (lv_at hl 6 rfl) ?_
  refine lv_iload hx hb dL_law_1840 (lv_at hl 1 rfl) ?_
  refine lv_iconst (v := 4) hx hb dL_law_1842 (by decide) ?_
  refine lv_iadd hx hb dL_law_1843 ?_
  refine va_sld hx hb hX hbl hbA hS (in_scr hi hL (k := 4) (by decide)) dL_law_1844 ?_
  have hls := ls_of (P := fun v => z1.2 0 = v.toInt64) hPM (cd2_i (by decide)) hw6
  obtain ⟨hT1, h16, h490, hval⟩ := hls
  have hu : va_up σ1 16 (σ 16) = σ1 := by rw [← h16]; exact up_eta σ1 16
  rw [← hu] at hP
  refine va_calli (va_runV (As := [.int (xs (nI i + 1).toNatClampNeg), .int (xs (nI i + 2).toNatClampNeg), .int (xs (nI i + 3).toNatClampNeg), .int (xs (nI i + 4).toNatClampNeg)]) (rest := []) ⟨hx, hb, hml, hown, hts⟩ (c7_predict l hA σ1 (σ 16) (xs (nI i + 1).toNatClampNeg) (xs (nI i + 2).toNatClampNeg) (xs (nI i + 3).toNatClampNeg) (xs (nI i + 4).toNatClampNeg) hO.2.2) (cwV 4 hts gL_law_X7_predict rfl rfl rfl hd_X7_predictV ⟨Nat.le_trans (by decide) hfr, Nat.le_trans (by decide) hlo⟩) ⟨hp_blind, va_recv hK hP (ci := 9) (q0 := 279) rfl c_279, hp_pre hK hN hP⟩ rfl rfl hl.1 rfl (lv_room (Nat.le_of_ble_eq_true rfl)) dL_law_1845 ⟨by omega, by omega⟩) hS (fun q _ h => aa_ac h) (fun q h => aa_ac h) (fun r7 u7 t H locs ht hvm hw7 hB hz1 hk1 hS => ?_)
  have hP : va_P D vwCl (pool G (adH B0) (va_up σ1 16 u7)) H := ho_at ht hB
  have hPo := hPo.kept (fun k q hk => hk1 q.1 (vx_lt hPo hk) (wo_out1 hk))
  have hPd := hPd.kept (fun k q hk => hk1 q.1 (vx_lt hPd hk) (wo_out2 hk))
  obtain ⟨eq7, ok7⟩ := hw7
  rw [← eq7] at hT1 h490 hval
  refine lv_istore (lv' := [(7, .int r7), (6, .int r6), (5, .int (nI i)), (4, .ref (B0+291)), (3, .ref (B0+290)), (2, .ref (adH B0 279)), (1, .ref (adH B0 270)), (0, .ref b)]) hx hb dL_law_1848 hl (by decide) rfl (fun ls hl => ?_)
  refine lv_aload_n hx hb dL_law_1850 rfl (lv_at hl 5 rfl) ?_
  refine va_calli (va_runV (As := []) (rest := []) ⟨hx, hb, hml, hown, hts⟩ (c7_thrown l hA σ1 u7) (cwV 0 hts gL_law_X7_thrown rfl rfl rfl hd_X7_thrownV ⟨Nat.le_trans (by decide) hfr, Nat.le_trans (by decide) hlo⟩) ⟨hp_blind, va_recv hK hP (ci := 9) (q0 := 279) rfl c_279, hp_pre hK hN hP⟩ rfl rfl hl.1 rfl (lv_room (Nat.le_of_ble_eq_true rfl)) dL_law_1851 ⟨by omega, by omega⟩) hS (fun q _ h => aa_ac h) (fun q h => aa_ac h) (fun r8 _ t H locs ht hvm hw8 hB hz1 hk1 hS => ?_)
  have hP : va_P D vwCl (pool G (adH B0) (va_up σ1 16 u7)) H := ho_at ht hB
  have hPo := hPo.kept (fun k q hk => hk1 q.1 (vx_lt hPo hk) (wo_out1 hk))
  have hPd := hPd.kept (fun k q hk => hk1 q.1 (vx_lt hPd hk) (wo_out2 hk))
  refine lv_iload hx hb dL_law_1854 (lv_at hl 1 rfl) ?_
  refine lv_icmp_eq (tgt := 1861) hx hb dL_law_1856 (by decide) (fun c9 => ?_) (fun c9 => absurd (hw8.trans h490) c9)
  have hdone : ∀ (k0 n0 : Nat), k0 ≤ cells + 4 → n0 ≤ slots + 24 → ∀ ls2 : Array Slot, lv_has ls2 8 [(7, .int r7), (6, .int r6), (5, .int (nI i)), (4, .ref (B0+291)), (3, .ref (B0+290)), (2, .ref (adH B0 279)), (1, .ref (adH B0 270)), (0, .ref b)] → W p l e R s m args below meth c H locs k0 n0 Q (F0 m 2317 ls2 []) := fun k0 n0 hk0 hn0 ls2 hl2 => W.widen (k := cells + 4) (n := slots + 24) hk0 hn0 (cont _ z1.2 g H locs ls2 ⟨hP, hPo, hPd, (top_16 hT1).mono (by omega), okS_16 ok6 ok7⟩ hS (lv_sub hl2 [2, 3, 4, 5, 6, 7] rfl))
  refine lv_iload hx hb dL_law_1861 (lv_at hl 1 rfl) ?_
  refine lv_if_ne (tgt := 1878) hx hb dL_law_1863 (by decide) (fun c8 => ?_) (fun c8 => ?_)
  · refine lv_goto (tgt := 2317) hx hb dL_law_1878 (by decide) ?_
    exact hdone _ _ (by omega) (by omega) ls hl
  obtain ⟨v9, hv9, rfl⟩ := hval c8
  refine lv_aload_n hx hb dL_law_1866 rfl (lv_at hl 4 rfl) ?_
  refine lv_iconst (v := 0) hx hb dL_law_1867 (by decide) ?_
  refine va_lald (tys := [(cL, .long)]) hx hb hKo hPo 0 0 rfl rfl (vp_in_iff.mpr (by decide)) dL_law_1868 ?_
  have hv9 : z1.2 (0 : Int32).toNatClampNeg = _ := hv9
  rw [hv9]
  refine lv_iload hx hb dL_law_1869 (lv_at hl 0 rfl) ?_
  refine lv_i2l (v := v9.toInt64) hx hb dL_law_1871 rfl ?_
  refine W.lcmp hx hb dL_law_1872 ?_
  refine lv_if_eq (tgt := 1878) hx hb dL_law_1873 (by decide) (fun c7 => ?_) (fun c7 => absurd (lg_cmp_self _) c7)
  refine lv_goto (tgt := 2317) hx hb dL_law_1878 (by decide) ?_
  exact hdone _ _ (by omega) (by omega) ls hl
set_option maxHeartbeats 2000000 in
set_option maxRecDepth 100000 in
theorem law_25 {p : Program} {l : Launch} {e : Env} {R : Room} {s : State} {m : MethodId} {args : Array Value} {below : List Frame} {meth : Method} {c : Code} {Q : State → Prop} (hl0 : l.stackTraces = false) {D : va_G} {G : CY} {B0 b L i cells slots : Nat} {xs : Nat → Int32} {cL cD : ClassId} {K : Int} {σ : Nat → Nat → Int32} {f : Nat → Int64} {g : Nat → UInt64} {H : Heap} {locs : List Loc} {ls : Array Slot}
    (hx : p.tables.exec = Jvm.exec) (hb : c.code = code) (hml : c.maxLocals = 8) (hown : s.vm.findClass RL = some m.cls) (hts : ∀ w ∈ lw_tbl, w.before args s = true) (hLA : LA D G B0 cL cD b L xs s) (hLI : LI D G B0 cL cD K σ f g H) (hS : va_S (AC B0) s.heap H locs) (hl : lv_has ls 8 [(5, .int (nI i)), (4, .ref (B0+291)), (3, .ref (B0+290)), (2, .ref (adH B0 279)), (1, .ref (adH B0 270)), (0, .ref b)]) (hi : i + 7 ≤ L) (hL : L ≤ 3584) (hK8 : K ≤ 800000000) (hfr : 20 ≤ R.frames) (hlo : 400 ≤ R.locals) (hce : cells + 4 ≤ R.cells) (hsl : slots + 24 ≤ R.slots)
    (cont : ∀ (σ2 : Nat → Nat → Int32) (f2 : Nat → Int64) (g2 : Nat → UInt64) (H2 : Heap) (locs2 : List Loc) (ls2 : Array Slot), LI D G B0 cL cD (K+500000) σ2 f2 g2 H2 → va_S (AC B0) s.heap H2 locs2 → lv_has ls2 8 [(5, .int (nI i)), (4, .ref (B0+291)), (3, .ref (B0+290)), (2, .ref (adH B0 279)), (1, .ref (adH B0 270)), (0, .ref b)] → W p l e R s m args below meth c H2 locs2 (cells + 4) (slots + 24) Q (F0 m 2317 ls2 [])) : W p l e R s m args below meth c H locs cells slots Q (F0 m 1881 ls []) := by
  obtain ⟨hK, hN, hT, hLw, ⟨adK, adV, hG, hR⟩, hNc, hKo, hKd, hX, hbl, hsz⟩ := id hLA
  obtain ⟨hP, hPo, hPd, hTop, hO⟩ := hLI
  have hA := adH_ok B0
  have hbA : ¬ AC B0 b := fun z => by have z : B0 ≤ b := z; omega
  refine lv_aload_n hx hb dL_law_1881 rfl (lv_at hl 4 rfl) ?_
  refine lv_aload_n hx hb dL_law_1882 rfl (lv_at hl 5 rfl) ?_
  refine lv_iload hx hb dL_law_1883 (lv_at hl 0 rfl) ?_
  refine lv_iconst (v := 1) hx hb dL_law_1885 (by decide) ?_
  refine lv_iadd hx hb dL_law_1886 ?_
  refine va_sld hx hb hX hbl hbA hS (in_scr hi hL (k := 1) (by decide)) dL_law_1887 ?_
  refine lv_aload_n hx hb dL_law_1888 rfl (lv_at hl 5 rfl) ?_
  refine lv_iload hx hb dL_law_1889 (lv_at hl 0 rfl) ?_
  refine lv_iconst (v := 2) hx hb dL_law_1891 (by decide) ?_
  refine lv_iadd hx hb dL_law_1892 ?_
  refine va_sld hx hb hX hbl hbA hS (in_scr hi hL (k := 2) (by decide)) dL_law_1893 ?_
  refine lv_aload_n hx hb dL_law_1894 rfl (lv_at hl 5 rfl) ?_
  refine lv_iload hx hb dL_law_1895 (lv_at hl 0 rfl) ?_
  refine lv_iconst (v := 3) hx hb dL_law_1897 (by decide) ?_
  refine lv_iadd hx hb dL_law_1898 ?_
  refine va_sld hx hb hX hbl hbA hS (in_scr hi hL (k := 3) (by decide)) dL_law_1899 ?_
  refine lv_aload_n hx hb dL_law_1900 rfl (lv_at hl 2 rfl) ?_
  have hPM := t_apex (a := (xs (nI i + 1).toNatClampNeg)) (b := (xs (nI i + 2).toNatClampNeg)) (c1 := (xs (nI i + 3).toNatClampNeg)) hTop (by omega)
  refine vx_calli (vx_runSX (As := [.ref (adH B0 270), .int (xs (nI i + 1).toNatClampNeg), .int (xs (nI i + 2).toNatClampNeg), .int (xs (nI i + 3).toNatClampNeg), .ref (B0+290)]) (rest := []) ⟨hx, hb, hml, hown, hts⟩ (cL_apex_met l hl0 hA σ (xs (nI i + 1).toNatClampNeg) (xs (nI i + 2).toNatClampNeg) (xs (nI i + 3).toNatClampNeg) cL f hO hPM.hE) (vx_cwSW 5 hts gL_law_L_apex rfl rfl rfl hd_L_apexS ⟨Nat.le_trans (by decide) hfr, Nat.le_trans (by decide) hlo⟩) ⟨hw1_blind, hw1_pre hK hN hT hLw hG hR hNc hsz hS hP hPo hKo⟩ rfl rfl hl.1 rfl (lv_room (Nat.le_of_ble_eq_true rfl)) dL_law_1901 ⟨by omega, by omega⟩) hS (fun q _ h => aw1_ac h) (fun q h => aw1_ac h) (fun q _ h => aw1_ac h) (fun _ _ _ _ _ _ _ _ _ hw9 _ _ _ _ _ _ _ => hw9.elim) (fun r6 z1 t H locs ht hvm hw6 hB hz1 hk1 hS => ?_)
  obtain ⟨ok6, hw6⟩ := hw6
  obtain ⟨σ1, eσ1⟩ : ∃ z, z = z1.1 := ⟨_, rfl⟩
  obtain ⟨hB1, hB2⟩ := hB
  rw [← eσ1] at ok6 hw6 hB1
  have hP : va_P D vwCl (pool G (adH B0) σ1) H := ho_at ht hB1
  have hPo : va_P D vwCl [(B0+290, .inl (cL, 1, .inr (.inl z1.2)))] H := by rw [← ht]; exact hB2
  have hPd := hPd.kept (fun k q hk => hk1 q.1 (vx_lt hPd hk) (wo_o21 hk))
  refine lv_istore (lv' := [(6, .int r6), (5, .int (nI i)), (4, .ref (B0+291)), (3, .ref (B0+290)), (2, .ref (adH B0 279)), (1, .ref (adH B0 270)), (0, .ref b)]) hx hb dL_law_1904 hl (by decide) rfl (fun ls hl => ?_)
  refine lv_aload_n hx hb dL_law_1906 rfl (lv_at hl 4 rfl) ?_
  refine lv_aload_n hx hb dL_law_1907 rfl (lv_at hl 6 rfl) ?_
  refine lv_iload hx hb dL_law_1908 (lv_at hl 1 rfl) ?_
  refine lv_iconst (v := 1) hx hb dL_law_1910 (by decide) ?_
  refine lv_iadd hx hb dL_law_1911 ?_
  refine va_sld hx hb hX hbl hbA hS (in_scr hi hL (k := 1) (by decide)) dL_law_1912 ?_
  refine lv_aload_n hx hb dL_law_1913 rfl (lv_at hl 6 rfl) ?_
  refine lv_iload hx hb dL_law_1914 (lv_at hl 1 rfl) ?_
  refine lv_iconst (v := 2) hx hb dL_law_1916 (by decide) ?_
  refine lv_iadd hx hb dL_law_1917 ?_
  refine va_sld hx hb hX hbl hbA hS (in_scr hi hL (k := 2) (by decide)) dL_law_1918 ?_
  refine lv_aload_n hx hb dL_law_1919 rfl (lv_at hl 6 rfl) ?_
  refine lv_iload hx hb dL_law_1920 (lv_at hl 1 rfl) ?_
  refine lv_iconst (v := 3) hx hb dL_law_1922 (by decide) ?_
  refine lv_iadd hx hb dL_law_1923 ?_
  refine va_sld hx hb hX hbl hbA hS (in_scr hi hL (k := 3) (by decide)) dL_law_1924 ?_
  have hls := ls_of (P := fun v => z1.2 0 = v.toInt64) hPM (cd2_i (by decide)) hw6
  obtain ⟨hT1, h16, h490, hval⟩ := hls
  have hu : va_up σ1 16 (σ 16) = σ1 := by rw [← h16]; exact up_eta σ1 16
  rw [← hu] at hP
  refine va_calli (va_runV (As := [.int (xs (nI i + 1).toNatClampNeg), .int (xs (nI i + 2).toNatClampNeg), .int (xs (nI i + 3).toNatClampNeg)]) (rest := []) ⟨hx, hb, hml, hown, hts⟩ (c7_apex l hA σ1 (σ 16) (xs (nI i + 1).toNatClampNeg) (xs (nI i + 2).toNatClampNeg) (xs (nI i + 3).toNatClampNeg) hO.2.2) (cwV 3 hts gL_law_X7_apex rfl rfl rfl hd_X7_apexV ⟨Nat.le_trans (by decide) hfr, Nat.le_trans (by decide) hlo⟩) ⟨hp_blind, va_recv hK hP (ci := 9) (q0 := 279) rfl c_279, hp_pre hK hN hP⟩ rfl rfl hl.1 rfl (lv_room (Nat.le_of_ble_eq_true rfl)) dL_law_1925 ⟨by omega, by omega⟩) hS (fun q _ h => aa_ac h) (fun q h => aa_ac h) (fun r7 u7 t H locs ht hvm hw7 hB hz1 hk1 hS => ?_)
  have hP : va_P D vwCl (pool G (adH B0) (va_up σ1 16 u7)) H := ho_at ht hB
  have hPo := hPo.kept (fun k q hk => hk1 q.1 (vx_lt hPo hk) (wo_out1 hk))
  have hPd := hPd.kept (fun k q hk => hk1 q.1 (vx_lt hPd hk) (wo_out2 hk))
  obtain ⟨eq7, ok7⟩ := hw7
  rw [← eq7] at hT1 h490 hval
  refine lv_istore (lv' := [(7, .int r7), (6, .int r6), (5, .int (nI i)), (4, .ref (B0+291)), (3, .ref (B0+290)), (2, .ref (adH B0 279)), (1, .ref (adH B0 270)), (0, .ref b)]) hx hb dL_law_1928 hl (by decide) rfl (fun ls hl => ?_)
  refine lv_aload_n hx hb dL_law_1930 rfl (lv_at hl 5 rfl) ?_
  refine va_calli (va_runV (As := []) (rest := []) ⟨hx, hb, hml, hown, hts⟩ (c7_thrown l hA σ1 u7) (cwV 0 hts gL_law_X7_thrown rfl rfl rfl hd_X7_thrownV ⟨Nat.le_trans (by decide) hfr, Nat.le_trans (by decide) hlo⟩) ⟨hp_blind, va_recv hK hP (ci := 9) (q0 := 279) rfl c_279, hp_pre hK hN hP⟩ rfl rfl hl.1 rfl (lv_room (Nat.le_of_ble_eq_true rfl)) dL_law_1931 ⟨by omega, by omega⟩) hS (fun q _ h => aa_ac h) (fun q h => aa_ac h) (fun r8 _ t H locs ht hvm hw8 hB hz1 hk1 hS => ?_)
  have hP : va_P D vwCl (pool G (adH B0) (va_up σ1 16 u7)) H := ho_at ht hB
  have hPo := hPo.kept (fun k q hk => hk1 q.1 (vx_lt hPo hk) (wo_out1 hk))
  have hPd := hPd.kept (fun k q hk => hk1 q.1 (vx_lt hPd hk) (wo_out2 hk))
  refine lv_iload hx hb dL_law_1934 (lv_at hl 1 rfl) ?_
  refine lv_icmp_eq (tgt := 1941) hx hb dL_law_1936 (by decide) (fun c9 => ?_) (fun c9 => absurd (hw8.trans h490) c9)
  have hdone : ∀ (k0 n0 : Nat), k0 ≤ cells + 4 → n0 ≤ slots + 24 → ∀ ls2 : Array Slot, lv_has ls2 8 [(7, .int r7), (6, .int r6), (5, .int (nI i)), (4, .ref (B0+291)), (3, .ref (B0+290)), (2, .ref (adH B0 279)), (1, .ref (adH B0 270)), (0, .ref b)] → W p l e R s m args below meth c H locs k0 n0 Q (F0 m 2317 ls2 []) := fun k0 n0 hk0 hn0 ls2 hl2 => W.widen (k := cells + 4) (n := slots + 24) hk0 hn0 (cont _ z1.2 g H locs ls2 ⟨hP, hPo, hPd, (top_16 hT1).mono (by omega), okS_16 ok6 ok7⟩ hS (lv_sub hl2 [2, 3, 4, 5, 6, 7] rfl))
  refine lv_iload hx hb dL_law_1941 (lv_at hl 1 rfl) ?_
  refine lv_if_ne (tgt := 1958) hx hb dL_law_1943 (by decide) (fun c8 => ?_) (fun c8 => ?_)
  · refine lv_goto (tgt := 2317) hx hb dL_law_1958 (by decide) ?_
    exact hdone _ _ (by omega) (by omega) ls hl
  obtain ⟨v9, hv9, rfl⟩ := hval c8
  refine lv_aload_n hx hb dL_law_1946 rfl (lv_at hl 4 rfl) ?_
  refine lv_iconst (v := 0) hx hb dL_law_1947 (by decide) ?_
  refine va_lald (tys := [(cL, .long)]) hx hb hKo hPo 0 0 rfl rfl (vp_in_iff.mpr (by decide)) dL_law_1948 ?_
  have hv9 : z1.2 (0 : Int32).toNatClampNeg = _ := hv9
  rw [hv9]
  refine lv_iload hx hb dL_law_1949 (lv_at hl 0 rfl) ?_
  refine lv_i2l (v := v9.toInt64) hx hb dL_law_1951 rfl ?_
  refine W.lcmp hx hb dL_law_1952 ?_
  refine lv_if_eq (tgt := 1958) hx hb dL_law_1953 (by decide) (fun c7 => ?_) (fun c7 => absurd (lg_cmp_self _) c7)
  refine lv_goto (tgt := 2317) hx hb dL_law_1958 (by decide) ?_
  exact hdone _ _ (by omega) (by omega) ls hl
set_option maxHeartbeats 2000000 in
set_option maxRecDepth 100000 in
theorem law_26 {p : Program} {l : Launch} {e : Env} {R : Room} {s : State} {m : MethodId} {args : Array Value} {below : List Frame} {meth : Method} {c : Code} {Q : State → Prop} (hl0 : l.stackTraces = false) {D : va_G} {G : CY} {B0 b L i cells slots : Nat} {xs : Nat → Int32} {cL cD : ClassId} {K : Int} {σ : Nat → Nat → Int32} {f : Nat → Int64} {g : Nat → UInt64} {H : Heap} {locs : List Loc} {ls : Array Slot}
    (hx : p.tables.exec = Jvm.exec) (hb : c.code = code) (hml : c.maxLocals = 8) (hown : s.vm.findClass RL = some m.cls) (hts : ∀ w ∈ lw_tbl, w.before args s = true) (hLA : LA D G B0 cL cD b L xs s) (hLI : LI D G B0 cL cD K σ f g H) (hS : va_S (AC B0) s.heap H locs) (hl : lv_has ls 8 [(5, .int (nI i)), (4, .ref (B0+291)), (3, .ref (B0+290)), (2, .ref (adH B0 279)), (1, .ref (adH B0 270)), (0, .ref b)]) (hi : i + 7 ≤ L) (hL : L ≤ 3584) (hK8 : K ≤ 800000000) (hfr : 20 ≤ R.frames) (hlo : 400 ≤ R.locals) (hce : cells + 4 ≤ R.cells) (hsl : slots + 24 ≤ R.slots)
    (cont : ∀ (σ2 : Nat → Nat → Int32) (f2 : Nat → Int64) (g2 : Nat → UInt64) (H2 : Heap) (locs2 : List Loc) (ls2 : Array Slot), LI D G B0 cL cD (K+500000) σ2 f2 g2 H2 → va_S (AC B0) s.heap H2 locs2 → lv_has ls2 8 [(5, .int (nI i)), (4, .ref (B0+291)), (3, .ref (B0+290)), (2, .ref (adH B0 279)), (1, .ref (adH B0 270)), (0, .ref b)] → W p l e R s m args below meth c H2 locs2 (cells + 4) (slots + 24) Q (F0 m 2317 ls2 [])) : W p l e R s m args below meth c H locs cells slots Q (F0 m 1961 ls []) := by
  obtain ⟨hK, hN, hT, hLw, ⟨adK, adV, hG, hR⟩, hNc, hKo, hKd, hX, hbl, hsz⟩ := id hLA
  obtain ⟨hP, hPo, hPd, hTop, hO⟩ := hLI
  have hA := adH_ok B0
  have hbA : ¬ AC B0 b := fun z => by have z : B0 ≤ b := z; omega
  refine lv_aload_n hx hb dL_law_1961 rfl (lv_at hl 4 rfl) ?_
  refine lv_aload_n hx hb dL_law_1962 rfl (lv_at hl 5 rfl) ?_
  refine lv_iload hx hb dL_law_1963 (lv_at hl 0 rfl) ?_
  refine lv_iconst (v := 1) hx hb dL_law_1965 (by decide) ?_
  refine lv_iadd hx hb dL_law_1966 ?_
  refine va_sld hx hb hX hbl hbA hS (in_scr hi hL (k := 1) (by decide)) dL_law_1967 ?_
  refine lv_aload_n hx hb dL_law_1968 rfl (lv_at hl 5 rfl) ?_
  refine lv_iload hx hb dL_law_1969 (lv_at hl 0 rfl) ?_
  refine lv_iconst (v := 2) hx hb dL_law_1971 (by decide) ?_
  refine lv_iadd hx hb dL_law_1972 ?_
  refine va_sld hx hb hX hbl hbA hS (in_scr hi hL (k := 2) (by decide)) dL_law_1973 ?_
  refine lv_aload_n hx hb dL_law_1974 rfl (lv_at hl 2 rfl) ?_
  have hPM := t_statistic (a := (xs (nI i + 1).toNatClampNeg)) (b := (xs (nI i + 2).toNatClampNeg)) hTop
  refine vx_calli (vx_runSX (As := [.ref (adH B0 270), .int (xs (nI i + 1).toNatClampNeg), .int (xs (nI i + 2).toNatClampNeg), .ref (B0+290)]) (rest := []) ⟨hx, hb, hml, hown, hts⟩ (cL_statistic_met l hl0 hA σ (xs (nI i + 1).toNatClampNeg) (xs (nI i + 2).toNatClampNeg) cL f hO hPM.hE) (vx_cwSW 4 hts gL_law_L_statistic rfl rfl rfl hd_L_statisticS ⟨Nat.le_trans (by decide) hfr, Nat.le_trans (by decide) hlo⟩) ⟨hw1_blind, hw1_pre hK hN hT hLw hG hR hNc hsz hS hP hPo hKo⟩ rfl rfl hl.1 rfl (lv_room (Nat.le_of_ble_eq_true rfl)) dL_law_1975 ⟨by omega, by omega⟩) hS (fun q _ h => aw1_ac h) (fun q h => aw1_ac h) (fun q _ h => aw1_ac h) (fun _ _ _ _ _ _ _ _ _ hw9 _ _ _ _ _ _ _ => hw9.elim) (fun r6 z1 t H locs ht hvm hw6 hB hz1 hk1 hS => ?_)
  obtain ⟨ok6, hw6⟩ := hw6
  obtain ⟨σ1, eσ1⟩ : ∃ z, z = z1.1 := ⟨_, rfl⟩
  obtain ⟨hB1, hB2⟩ := hB
  rw [← eσ1] at ok6 hw6 hB1
  have hP : va_P D vwCl (pool G (adH B0) σ1) H := ho_at ht hB1
  have hPo : va_P D vwCl [(B0+290, .inl (cL, 1, .inr (.inl z1.2)))] H := by rw [← ht]; exact hB2
  have hPd := hPd.kept (fun k q hk => hk1 q.1 (vx_lt hPd hk) (wo_o21 hk))
  refine lv_istore (lv' := [(6, .int r6), (5, .int (nI i)), (4, .ref (B0+291)), (3, .ref (B0+290)), (2, .ref (adH B0 279)), (1, .ref (adH B0 270)), (0, .ref b)]) hx hb dL_law_1978 hl (by decide) rfl (fun ls hl => ?_)
  refine lv_aload_n hx hb dL_law_1980 rfl (lv_at hl 4 rfl) ?_
  refine lv_aload_n hx hb dL_law_1981 rfl (lv_at hl 6 rfl) ?_
  refine lv_iload hx hb dL_law_1982 (lv_at hl 1 rfl) ?_
  refine lv_iconst (v := 1) hx hb dL_law_1984 (by decide) ?_
  refine lv_iadd hx hb dL_law_1985 ?_
  refine va_sld hx hb hX hbl hbA hS (in_scr hi hL (k := 1) (by decide)) dL_law_1986 ?_
  refine lv_aload_n hx hb dL_law_1987 rfl (lv_at hl 6 rfl) ?_
  refine lv_iload hx hb dL_law_1988 (lv_at hl 1 rfl) ?_
  refine lv_iconst (v := 2) hx hb dL_law_1990 (by decide) ?_
  refine lv_iadd hx hb dL_law_1991 ?_
  refine va_sld hx hb hX hbl hbA hS (in_scr hi hL (k := 2) (by decide)) dL_law_1992 ?_
  have hls := ls_of (P := fun v => z1.2 0 = v.toInt64) hPM (cd2_i (by decide)) hw6
  obtain ⟨hT1, h16, h490, hval⟩ := hls
  have hu : va_up σ1 16 (σ 16) = σ1 := by rw [← h16]; exact up_eta σ1 16
  rw [← hu] at hP
  refine va_calli (va_runV (As := [.int (xs (nI i + 1).toNatClampNeg), .int (xs (nI i + 2).toNatClampNeg)]) (rest := []) ⟨hx, hb, hml, hown, hts⟩ (c7_statistic l hA σ1 (σ 16) (xs (nI i + 1).toNatClampNeg) (xs (nI i + 2).toNatClampNeg) hO.2.2) (cwV 2 hts gL_law_X7_statistic rfl rfl rfl hd_X7_statisticV ⟨Nat.le_trans (by decide) hfr, Nat.le_trans (by decide) hlo⟩) ⟨hp_blind, va_recv hK hP (ci := 9) (q0 := 279) rfl c_279, hp_pre hK hN hP⟩ rfl rfl hl.1 rfl (lv_room (Nat.le_of_ble_eq_true rfl)) dL_law_1993 ⟨by omega, by omega⟩) hS (fun q _ h => aa_ac h) (fun q h => aa_ac h) (fun r7 u7 t H locs ht hvm hw7 hB hz1 hk1 hS => ?_)
  have hP : va_P D vwCl (pool G (adH B0) (va_up σ1 16 u7)) H := ho_at ht hB
  have hPo := hPo.kept (fun k q hk => hk1 q.1 (vx_lt hPo hk) (wo_out1 hk))
  have hPd := hPd.kept (fun k q hk => hk1 q.1 (vx_lt hPd hk) (wo_out2 hk))
  obtain ⟨eq7, ok7⟩ := hw7
  rw [← eq7] at hT1 h490 hval
  refine lv_istore (lv' := [(7, .int r7), (6, .int r6), (5, .int (nI i)), (4, .ref (B0+291)), (3, .ref (B0+290)), (2, .ref (adH B0 279)), (1, .ref (adH B0 270)), (0, .ref b)]) hx hb dL_law_1996 hl (by decide) rfl (fun ls hl => ?_)
  refine lv_aload_n hx hb dL_law_1998 rfl (lv_at hl 5 rfl) ?_
  refine va_calli (va_runV (As := []) (rest := []) ⟨hx, hb, hml, hown, hts⟩ (c7_thrown l hA σ1 u7) (cwV 0 hts gL_law_X7_thrown rfl rfl rfl hd_X7_thrownV ⟨Nat.le_trans (by decide) hfr, Nat.le_trans (by decide) hlo⟩) ⟨hp_blind, va_recv hK hP (ci := 9) (q0 := 279) rfl c_279, hp_pre hK hN hP⟩ rfl rfl hl.1 rfl (lv_room (Nat.le_of_ble_eq_true rfl)) dL_law_1999 ⟨by omega, by omega⟩) hS (fun q _ h => aa_ac h) (fun q h => aa_ac h) (fun r8 _ t H locs ht hvm hw8 hB hz1 hk1 hS => ?_)
  have hP : va_P D vwCl (pool G (adH B0) (va_up σ1 16 u7)) H := ho_at ht hB
  have hPo := hPo.kept (fun k q hk => hk1 q.1 (vx_lt hPo hk) (wo_out1 hk))
  have hPd := hPd.kept (fun k q hk => hk1 q.1 (vx_lt hPd hk) (wo_out2 hk))
  refine lv_iload hx hb dL_law_2002 (lv_at hl 1 rfl) ?_
  refine lv_icmp_eq (tgt := 2009) hx hb dL_law_2004 (by decide) (fun c9 => ?_) (fun c9 => absurd (hw8.trans h490) c9)
  have hdone : ∀ (k0 n0 : Nat), k0 ≤ cells + 4 → n0 ≤ slots + 24 → ∀ ls2 : Array Slot, lv_has ls2 8 [(7, .int r7), (6, .int r6), (5, .int (nI i)), (4, .ref (B0+291)), (3, .ref (B0+290)), (2, .ref (adH B0 279)), (1, .ref (adH B0 270)), (0, .ref b)] → W p l e R s m args below meth c H locs k0 n0 Q (F0 m 2317 ls2 []) := fun k0 n0 hk0 hn0 ls2 hl2 => W.widen (k := cells + 4) (n := slots + 24) hk0 hn0 (cont _ z1.2 g H locs ls2 ⟨hP, hPo, hPd, (top_16 hT1).mono (by omega), okS_16 ok6 ok7⟩ hS (lv_sub hl2 [2, 3, 4, 5, 6, 7] rfl))
  refine lv_iload hx hb dL_law_2009 (lv_at hl 1 rfl) ?_
  refine lv_if_ne (tgt := 2026) hx hb dL_law_2011 (by decide) (fun c8 => ?_) (fun c8 => ?_)
  · refine lv_goto (tgt := 2317) hx hb dL_law_2026 (by decide) ?_
    exact hdone _ _ (by omega) (by omega) ls hl
  obtain ⟨v9, hv9, rfl⟩ := hval c8
  refine lv_aload_n hx hb dL_law_2014 rfl (lv_at hl 4 rfl) ?_
  refine lv_iconst (v := 0) hx hb dL_law_2015 (by decide) ?_
  refine va_lald (tys := [(cL, .long)]) hx hb hKo hPo 0 0 rfl rfl (vp_in_iff.mpr (by decide)) dL_law_2016 ?_
  have hv9 : z1.2 (0 : Int32).toNatClampNeg = _ := hv9
  rw [hv9]
  refine lv_iload hx hb dL_law_2017 (lv_at hl 0 rfl) ?_
  refine lv_i2l (v := v9.toInt64) hx hb dL_law_2019 rfl ?_
  refine W.lcmp hx hb dL_law_2020 ?_
  refine lv_if_eq (tgt := 2026) hx hb dL_law_2021 (by decide) (fun c7 => ?_) (fun c7 => absurd (lg_cmp_self _) c7)
  refine lv_goto (tgt := 2317) hx hb dL_law_2026 (by decide) ?_
  exact hdone _ _ (by omega) (by omega) ls hl
set_option maxHeartbeats 2000000 in
set_option maxRecDepth 100000 in
theorem law_27 {p : Program} {l : Launch} {e : Env} {R : Room} {s : State} {m : MethodId} {args : Array Value} {below : List Frame} {meth : Method} {c : Code} {Q : State → Prop} (hl0 : l.stackTraces = false) {D : va_G} {G : CY} {B0 b L i cells slots : Nat} {xs : Nat → Int32} {cL cD : ClassId} {K : Int} {σ : Nat → Nat → Int32} {f : Nat → Int64} {g : Nat → UInt64} {H : Heap} {locs : List Loc} {ls : Array Slot}
    (hx : p.tables.exec = Jvm.exec) (hb : c.code = code) (hml : c.maxLocals = 8) (hown : s.vm.findClass RL = some m.cls) (hts : ∀ w ∈ lw_tbl, w.before args s = true) (hLA : LA D G B0 cL cD b L xs s) (hLI : LI D G B0 cL cD K σ f g H) (hS : va_S (AC B0) s.heap H locs) (hl : lv_has ls 8 [(5, .int (nI i)), (4, .ref (B0+291)), (3, .ref (B0+290)), (2, .ref (adH B0 279)), (1, .ref (adH B0 270)), (0, .ref b)]) (hi : i + 7 ≤ L) (hL : L ≤ 3584) (hK8 : K ≤ 800000000) (hfr : 20 ≤ R.frames) (hlo : 400 ≤ R.locals) (hce : cells + 4 ≤ R.cells) (hsl : slots + 24 ≤ R.slots)
    (cont : ∀ (σ2 : Nat → Nat → Int32) (f2 : Nat → Int64) (g2 : Nat → UInt64) (H2 : Heap) (locs2 : List Loc) (ls2 : Array Slot), LI D G B0 cL cD (K+500000) σ2 f2 g2 H2 → va_S (AC B0) s.heap H2 locs2 → lv_has ls2 8 [(5, .int (nI i)), (4, .ref (B0+291)), (3, .ref (B0+290)), (2, .ref (adH B0 279)), (1, .ref (adH B0 270)), (0, .ref b)] → W p l e R s m args below meth c H2 locs2 (cells + 4) (slots + 24) Q (F0 m 2317 ls2 [])) : W p l e R s m args below meth c H locs cells slots Q (F0 m 2029 ls []) := by
  obtain ⟨hK, hN, hT, hLw, ⟨adK, adV, hG, hR⟩, hNc, hKo, hKd, hX, hbl, hsz⟩ := id hLA
  obtain ⟨hP, hPo, hPd, hTop, hO⟩ := hLI
  have hA := adH_ok B0
  have hbA : ¬ AC B0 b := fun z => by have z : B0 ≤ b := z; omega
  refine lv_aload_n hx hb dL_law_2029 rfl (lv_at hl 4 rfl) ?_
  refine lv_aload_n hx hb dL_law_2030 rfl (lv_at hl 5 rfl) ?_
  refine lv_iload hx hb dL_law_2031 (lv_at hl 0 rfl) ?_
  refine lv_iconst (v := 1) hx hb dL_law_2033 (by decide) ?_
  refine lv_iadd hx hb dL_law_2034 ?_
  refine va_sld hx hb hX hbl hbA hS (in_scr hi hL (k := 1) (by decide)) dL_law_2035 ?_
  refine lv_aload hx hb dL_law_2036 (lv_at hl 1 rfl) ?_
  have hPM := t_meanMoves (a := (xs (nI i + 1).toNatClampNeg)) hTop
  refine vx_calli (vx_runSX (As := [.ref (adH B0 270), .int (xs (nI i + 1).toNatClampNeg), .ref (B0+291)]) (rest := []) ⟨hx, hb, hml, hown, hts⟩ (cL_meanMoves_met l hl0 hA σ (xs (nI i + 1).toNatClampNeg) cD g hO hPM.hE hPM.hF) (vx_cwSW 3 hts gL_law_L_meanMoves rfl rfl rfl hd_L_meanMovesS ⟨Nat.le_trans (by decide) hfr, Nat.le_trans (by decide) hlo⟩) ⟨hw2_blind, hw2_pre hK hN hT hLw hG hR hNc hsz hS hP hPd hKd⟩ rfl rfl hl.1 rfl (lv_room (Nat.le_of_ble_eq_true rfl)) dL_law_2038 ⟨by omega, by omega⟩) hS (fun q _ h => aw2_ac h) (fun q h => aw2_ac h) (fun q _ h => aw2_ac h) (fun _ _ _ _ _ _ _ _ _ hw9 _ _ _ _ _ _ _ => hw9.elim) (fun r6 z1 t H locs ht hvm hw6 hB hz1 hk1 hS => ?_)
  obtain ⟨ok6, hw6⟩ := hw6
  obtain ⟨σ1, eσ1⟩ : ∃ z, z = z1.1 := ⟨_, rfl⟩
  obtain ⟨hB1, hB2⟩ := hB
  rw [← eσ1] at ok6 hw6 hB1
  have hP : va_P D vwCl (pool G (adH B0) σ1) H := ho_at ht hB1
  have hPd : va_P D vwCl [(B0+291, .inl (cD, 1, .inr (.inr (.inr (.inl z1.2)))))] H := by rw [← ht]; exact hB2
  have hPo := hPo.kept (fun k q hk => hk1 q.1 (vx_lt hPo hk) (wo_o12 hk))
  refine lv_istore (lv' := [(6, .int r6), (5, .int (nI i)), (4, .ref (B0+291)), (3, .ref (B0+290)), (2, .ref (adH B0 279)), (1, .ref (adH B0 270)), (0, .ref b)]) hx hb dL_law_2041 hl (by decide) rfl (fun ls hl => ?_)
  refine lv_aload_n hx hb dL_law_2043 rfl (lv_at hl 4 rfl) ?_
  refine lv_aload_n hx hb dL_law_2044 rfl (lv_at hl 6 rfl) ?_
  refine lv_iload hx hb dL_law_2045 (lv_at hl 1 rfl) ?_
  refine lv_iconst (v := 1) hx hb dL_law_2047 (by decide) ?_
  refine lv_iadd hx hb dL_law_2048 ?_
  refine va_sld hx hb hX hbl hbA hS (in_scr hi hL (k := 1) (by decide)) dL_law_2049 ?_
  have hls := lsf_of (P := fun v => z1.2 0 = FP.f2d v) hPM (cd2_i (by decide)) hw6
  obtain ⟨hT1, h16, h490, hval⟩ := hls
  have hu : va_up σ1 16 (σ 16) = σ1 := by rw [← h16]; exact up_eta σ1 16
  rw [← hu] at hP
  refine va_callf (va_runV (As := [.int (xs (nI i + 1).toNatClampNeg)]) (rest := []) ⟨hx, hb, hml, hown, hts⟩ (c7_meanMoves l hA σ1 (σ 16) (xs (nI i + 1).toNatClampNeg) hO.2.2) (cwV 1 hts gL_law_X7_meanMoves rfl rfl rfl hd_X7_meanMovesV ⟨Nat.le_trans (by decide) hfr, Nat.le_trans (by decide) hlo⟩) ⟨hp_blind, va_recv hK hP (ci := 9) (q0 := 279) rfl c_279, hp_pre hK hN hP⟩ rfl rfl hl.1 rfl (lv_room (Nat.le_of_ble_eq_true rfl)) dL_law_2050 ⟨by omega, by omega⟩) hS (fun q _ h => aa_ac h) (fun q h => aa_ac h) (fun r7 u7 t H locs ht hvm hw7 hB hz1 hk1 hS => ?_)
  have hP : va_P D vwCl (pool G (adH B0) (va_up σ1 16 u7)) H := ho_at ht hB
  have hPo := hPo.kept (fun k q hk => hk1 q.1 (vx_lt hPo hk) (wo_out1 hk))
  have hPd := hPd.kept (fun k q hk => hk1 q.1 (vx_lt hPd hk) (wo_out2 hk))
  obtain ⟨eq7, ok7⟩ := hw7
  rw [← eq7] at hT1 h490 hval
  refine lv_fstore (lv' := [(7, .float r7), (6, .int r6), (5, .int (nI i)), (4, .ref (B0+291)), (3, .ref (B0+290)), (2, .ref (adH B0 279)), (1, .ref (adH B0 270)), (0, .ref b)]) hx hb dL_law_2053 hl (by decide) rfl (fun ls hl => ?_)
  refine lv_aload_n hx hb dL_law_2055 rfl (lv_at hl 5 rfl) ?_
  refine va_calli (va_runV (As := []) (rest := []) ⟨hx, hb, hml, hown, hts⟩ (c7_thrown l hA σ1 u7) (cwV 0 hts gL_law_X7_thrown rfl rfl rfl hd_X7_thrownV ⟨Nat.le_trans (by decide) hfr, Nat.le_trans (by decide) hlo⟩) ⟨hp_blind, va_recv hK hP (ci := 9) (q0 := 279) rfl c_279, hp_pre hK hN hP⟩ rfl rfl hl.1 rfl (lv_room (Nat.le_of_ble_eq_true rfl)) dL_law_2056 ⟨by omega, by omega⟩) hS (fun q _ h => aa_ac h) (fun q h => aa_ac h) (fun r8 _ t H locs ht hvm hw8 hB hz1 hk1 hS => ?_)
  have hP : va_P D vwCl (pool G (adH B0) (va_up σ1 16 u7)) H := ho_at ht hB
  have hPo := hPo.kept (fun k q hk => hk1 q.1 (vx_lt hPo hk) (wo_out1 hk))
  have hPd := hPd.kept (fun k q hk => hk1 q.1 (vx_lt hPd hk) (wo_out2 hk))
  refine lv_iload hx hb dL_law_2059 (lv_at hl 1 rfl) ?_
  refine lv_icmp_eq (tgt := 2066) hx hb dL_law_2061 (by decide) (fun c9 => ?_) (fun c9 => absurd (hw8.trans h490) c9)
  have hdone : ∀ (k0 n0 : Nat), k0 ≤ cells + 4 → n0 ≤ slots + 24 → ∀ ls2 : Array Slot, lv_has ls2 8 [(7, .float r7), (6, .int r6), (5, .int (nI i)), (4, .ref (B0+291)), (3, .ref (B0+290)), (2, .ref (adH B0 279)), (1, .ref (adH B0 270)), (0, .ref b)] → W p l e R s m args below meth c H locs k0 n0 Q (F0 m 2317 ls2 []) := fun k0 n0 hk0 hn0 ls2 hl2 => W.widen (k := cells + 4) (n := slots + 24) hk0 hn0 (cont _ f z1.2 H locs ls2 ⟨hP, hPo, hPd, (top_16 hT1).mono (by omega), okS_16 ok6 ok7⟩ hS (lv_sub hl2 [2, 3, 4, 5, 6, 7] rfl))
  refine lv_iload hx hb dL_law_2066 (lv_at hl 1 rfl) ?_
  refine lv_if_ne (tgt := 2104) hx hb dL_law_2068 (by decide) (fun c8 => ?_) (fun c8 => ?_)
  · refine lv_goto (tgt := 2317) hx hb dL_law_2104 (by decide) ?_
    exact hdone _ _ (by omega) (by omega) ls hl
  obtain ⟨v9, hv9, rfl⟩ := hval c8
  refine lv_aload hx hb dL_law_2071 (lv_at hl 3 rfl) ?_
  refine lv_iconst (v := 0) hx hb dL_law_2073 (by decide) ?_
  refine va_dald (tys := [(cD, .double)]) hx hb hKd hPd 0 0 rfl rfl (vp_in_iff.mpr (by decide)) dL_law_2074 ?_
  have hv9a : z1.2 (0 : Int32).toNatClampNeg = _ := hv9.1
  rw [hv9a]
  refine lv_fload hx hb dL_law_2075 (lv_at hl 0 rfl) ?_
  refine lv_f2d hx hb dL_law_2077 (fl_vn64 (fl_f2d hv9.2)) ?_
  refine lv_dcmp hx hb dL_law_2078 ?_
  rw [fl_dcmp (fl_f2d hv9.2)]
  refine lv_if_eq (tgt := 2104) hx hb dL_law_2079 (by decide) (fun c7 => ?_) (fun c7 => absurd rfl c7)
  refine lv_goto (tgt := 2317) hx hb dL_law_2104 (by decide) ?_
  exact hdone _ _ (by omega) (by omega) ls hl
