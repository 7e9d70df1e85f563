/-! THE LAW'S CASES -/
set_option maxHeartbeats 2000000 in
set_option maxRecDepth 100000 in
theorem law_28 {p : Program} {l : Launch} {e : Env} {R : Room} {s : State} {m : MethodId} {args : Array Value} {below : List Frame} {meth : Method} {c : Code} {Q : State → Prop} (hl0 : l.stackTraces = false) {D : va_G} {G : CY} {B0 b L i cells slots : Nat} {xs : Nat → Int32} {cL cD : ClassId} {K : Int} {σ : Nat → Nat → Int32} {f : Nat → Int64} {g : Nat → UInt64} {H : Heap} {locs : List Loc} {ls : Array Slot}
    (hx : p.tables.exec = Jvm.exec) (hb : c.code = code) (hml : c.maxLocals = 8) (hown : s.vm.findClass RL = some m.cls) (hts : ∀ w ∈ lw_tbl, w.before args s = true) (hLA : LA D G B0 cL cD b L xs s) (hLI : LI D G B0 cL cD K σ f g H) (hS : va_S (AC B0) s.heap H locs) (hl : lv_has ls 8 [(5, .int (nI i)), (4, .ref (B0+291)), (3, .ref (B0+290)), (2, .ref (adH B0 279)), (1, .ref (adH B0 270)), (0, .ref b)]) (hi : i + 7 ≤ L) (hL : L ≤ 3584) (hK8 : K ≤ 800000000) (hfr : 20 ≤ R.frames) (hlo : 400 ≤ R.locals) (hce : cells + 4 ≤ R.cells) (hsl : slots + 24 ≤ R.slots)
    (cont : ∀ (σ2 : Nat → Nat → Int32) (f2 : Nat → Int64) (g2 : Nat → UInt64) (H2 : Heap) (locs2 : List Loc) (ls2 : Array Slot), LI D G B0 cL cD (K+500000) σ2 f2 g2 H2 → va_S (AC B0) s.heap H2 locs2 → lv_has ls2 8 [(5, .int (nI i)), (4, .ref (B0+291)), (3, .ref (B0+290)), (2, .ref (adH B0 279)), (1, .ref (adH B0 270)), (0, .ref b)] → W p l e R s m args below meth c H2 locs2 (cells + 4) (slots + 24) Q (F0 m 2317 ls2 [])) : W p l e R s m args below meth c H locs cells slots Q (F0 m 2107 ls []) := by
  obtain ⟨hK, hN, hT, hLw, ⟨adK, adV, hG, hR⟩, hNc, hKo, hKd, hX, hbl, hsz⟩ := id hLA
  obtain ⟨hP, hPo, hPd, hTop, hO⟩ := hLI
  have hA := adH_ok B0
  have hbA : ¬ AC B0 b := fun z => by have z : B0 ≤ b := z; omega
  refine lv_aload_n hx hb dL_law_2107 rfl (lv_at hl 4 rfl) ?_
  refine lv_aload_n hx hb dL_law_2108 rfl (lv_at hl 5 rfl) ?_
  refine lv_iload hx hb dL_law_2109 (lv_at hl 0 rfl) ?_
  refine lv_iconst (v := 1) hx hb dL_law_2111 (by decide) ?_
  refine lv_iadd hx hb dL_law_2112 ?_
  refine va_sld hx hb hX hbl hbA hS (in_scr hi hL (k := 1) (by decide)) dL_law_2113 ?_
  refine lv_i2c hx hb dL_law_2114 rfl ?_
  have hPM := t_append (a := (vp_nar .char (xs (nI i + 1).toNatClampNeg))) hTop
  refine vx_calli (vx_runSX (As := [.ref (adH B0 270), .int (vp_nar .char (xs (nI i + 1).toNatClampNeg))]) (rest := []) ⟨hx, hb, hml, hown, hts⟩ (cL_append_met l hl0 hA σ (vp_nar .char (xs (nI i + 1).toNatClampNeg)) hO hPM.hE) (vx_cwSW 2 hts gL_law_L_append rfl rfl rfl hd_L_appendS ⟨Nat.le_trans (by decide) hfr, Nat.le_trans (by decide) hlo⟩) ⟨hw0_blind, hw0_pre hK hN hT hLw hG hR hNc hsz hS hP⟩ rfl rfl hl.1 rfl (lv_room (Nat.le_of_ble_eq_true rfl)) dL_law_2115 ⟨by omega, by omega⟩) hS (fun q _ h => aa_ac h) (fun q h => aa_ac h) (fun q _ h => aa_ac h) (fun _ _ _ _ _ _ _ _ _ hw9 _ _ _ _ _ _ _ => hw9.elim) (fun r6 z1 t H locs ht hvm hw6 hB hz1 hk1 hS => ?_)
  obtain ⟨ok6, hw6⟩ := hw6
  obtain ⟨σ1, eσ1⟩ : ∃ z, z = z1 := ⟨_, rfl⟩
  rw [← eσ1] at ok6 hw6 hB
  have hP : va_P D vwCl (pool G (adH B0) σ1) H := ho_at ht hB
  have hPo := hPo.kept (fun k q hk => hk1 q.1 (vx_lt hPo hk) (wo_out1 hk))
  have hPd := hPd.kept (fun k q hk => hk1 q.1 (vx_lt hPd hk) (wo_out2 hk))
  refine lv_istore (lv' := [(6, .int r6), (5, .int (nI i)), (4, .ref (B0+291)), (3, .ref (B0+290)), (2, .ref (adH B0 279)), (1, .ref (adH B0 270)), (0, .ref b)]) hx hb dL_law_2118 hl (by decide) rfl (fun ls hl => ?_)
  refine lv_aload_n hx hb dL_law_2120 rfl (lv_at hl 4 rfl) ?_
  refine lv_aload_n hx hb dL_law_2121 rfl (lv_at hl 6 rfl) ?_
  refine lv_iload hx hb dL_law_2122 (lv_at hl 1 rfl) ?_
  refine lv_iconst (v := 1) hx hb dL_law_2124 (by decide) ?_
  refine lv_iadd hx hb dL_law_2125 ?_
  refine va_sld hx hb hX hbl hbA hS (in_scr hi hL (k := 1) (by decide)) dL_law_2126 ?_
  refine lv_i2c hx hb dL_law_2127 rfl ?_
  have hls := ls_of (P := fun v => True) hPM cd1_i (hw6.imp (fun ⟨v, h1, h2⟩ => ⟨v, h1, h2, trivial⟩) id)
  obtain ⟨hT1, h16, h490, hval⟩ := hls
  have hu : va_up σ1 16 (σ 16) = σ1 := by rw [← h16]; exact up_eta σ1 16
  rw [← hu] at hP
  refine va_callv (va_runV (As := [.int (vp_nar .char (xs (nI i + 1).toNatClampNeg))]) (rest := []) ⟨hx, hb, hml, hown, hts⟩ (c7_append l hA σ1 (σ 16) (vp_nar .char (xs (nI i + 1).toNatClampNeg)) hO.2.2) (cwV 1 hts gL_law_X7_append rfl rfl rfl hd_X7_appendV ⟨Nat.le_trans (by decide) hfr, Nat.le_trans (by decide) hlo⟩) ⟨hp_blind, va_recv hK hP (ci := 9) (q0 := 279) rfl c_279, hp_pre hK hN hP⟩ rfl rfl hl.1 rfl (lv_room (Nat.le_of_ble_eq_true rfl)) dL_law_2128 ⟨by omega, by omega⟩) hS (fun q _ h => aa_ac h) (fun q h => aa_ac h) (fun u7 t H locs ht hvm hw7 hB hz1 hk1 hS => ?_)
  have hP : va_P D vwCl (pool G (adH B0) (va_up σ1 16 u7)) H := ho_at ht hB
  have hPo := hPo.kept (fun k q hk => hk1 q.1 (vx_lt hPo hk) (wo_out1 hk))
  have hPd := hPd.kept (fun k q hk => hk1 q.1 (vx_lt hPd hk) (wo_out2 hk))
  obtain ⟨eq7, ok7⟩ := hw7
  rw [← eq7] at hT1 h490
  refine lv_aload_n hx hb dL_law_2131 rfl (lv_at hl 4 rfl) ?_
  refine va_calli (va_runV (As := []) (rest := []) ⟨hx, hb, hml, hown, hts⟩ (c7_thrown l hA σ1 u7) (cwV 0 hts gL_law_X7_thrown rfl rfl rfl hd_X7_thrownV ⟨Nat.le_trans (by decide) hfr, Nat.le_trans (by decide) hlo⟩) ⟨hp_blind, va_recv hK hP (ci := 9) (q0 := 279) rfl c_279, hp_pre hK hN hP⟩ rfl rfl hl.1 rfl (lv_room (Nat.le_of_ble_eq_true rfl)) dL_law_2132 ⟨by omega, by omega⟩) hS (fun q _ h => aa_ac h) (fun q h => aa_ac h) (fun r8 _ t H locs ht hvm hw8 hB hz1 hk1 hS => ?_)
  have hP : va_P D vwCl (pool G (adH B0) (va_up σ1 16 u7)) H := ho_at ht hB
  have hPo := hPo.kept (fun k q hk => hk1 q.1 (vx_lt hPo hk) (wo_out1 hk))
  have hPd := hPd.kept (fun k q hk => hk1 q.1 (vx_lt hPd hk) (wo_out2 hk))
  refine lv_iload hx hb dL_law_2135 (lv_at hl 0 rfl) ?_
  refine lv_icmp_eq (tgt := 2142) hx hb dL_law_2137 (by decide) (fun c9 => ?_) (fun c9 => absurd (hw8.trans h490) c9)
  have hdone : ∀ (k0 n0 : Nat), k0 ≤ cells + 4 → n0 ≤ slots + 24 → ∀ ls2 : Array Slot, lv_has ls2 8 [(6, .int r6), (5, .int (nI i)), (4, .ref (B0+291)), (3, .ref (B0+290)), (2, .ref (adH B0 279)), (1, .ref (adH B0 270)), (0, .ref b)] → W p l e R s m args below meth c H locs k0 n0 Q (F0 m 2317 ls2 []) := fun k0 n0 hk0 hn0 ls2 hl2 => W.widen (k := cells + 4) (n := slots + 24) hk0 hn0 (cont _ f g H locs ls2 ⟨hP, hPo, hPd, (top_16 hT1).mono (by omega), okS_16 ok6 ok7⟩ hS (lv_sub hl2 [1, 2, 3, 4, 5, 6] rfl))
  refine lv_goto (tgt := 2317) hx hb dL_law_2142 (by decide) ?_
  exact hdone _ _ (by omega) (by omega) ls hl
set_option maxHeartbeats 2000000 in
set_option maxRecDepth 100000 in
theorem law_29 {p : Program} {l : Launch} {e : Env} {R : Room} {s : State} {m : MethodId} {args : Array Value} {below : List Frame} {meth : Method} {c : Code} {Q : State → Prop} (hl0 : l.stackTraces = false) {D : va_G} {G : CY} {B0 b L i cells slots : Nat} {xs : Nat → Int32} {cL cD : ClassId} {K : Int} {σ : Nat → Nat → Int32} {f : Nat → Int64} {g : Nat → UInt64} {H : Heap} {locs : List Loc} {ls : Array Slot}
    (hx : p.tables.exec = Jvm.exec) (hb : c.code = code) (hml : c.maxLocals = 8) (hown : s.vm.findClass RL = some m.cls) (hts : ∀ w ∈ lw_tbl, w.before args s = true) (hLA : LA D G B0 cL cD b L xs s) (hLI : LI D G B0 cL cD K σ f g H) (hS : va_S (AC B0) s.heap H locs) (hl : lv_has ls 8 [(5, .int (nI i)), (4, .ref (B0+291)), (3, .ref (B0+290)), (2, .ref (adH B0 279)), (1, .ref (adH B0 270)), (0, .ref b)]) (hi : i + 7 ≤ L) (hL : L ≤ 3584) (hK8 : K ≤ 800000000) (hfr : 20 ≤ R.frames) (hlo : 400 ≤ R.locals) (hce : cells + 4 ≤ R.cells) (hsl : slots + 24 ≤ R.slots)
    (cont : ∀ (σ2 : Nat → Nat → Int32) (f2 : Nat → Int64) (g2 : Nat → UInt64) (H2 : Heap) (locs2 : List Loc) (ls2 : Array Slot), LI D G B0 cL cD (K+500000) σ2 f2 g2 H2 → va_S (AC B0) s.heap H2 locs2 → lv_has ls2 8 [(5, .int (nI i)), (4, .ref (B0+291)), (3, .ref (B0+290)), (2, .ref (adH B0 279)), (1, .ref (adH B0 270)), (0, .ref b)] → W p l e R s m args below meth c H2 locs2 (cells + 4) (slots + 24) Q (F0 m 2317 ls2 [])) : W p l e R s m args below meth c H locs cells slots Q (F0 m 2145 ls []) := by
  obtain ⟨hK, hN, hT, hLw, ⟨adK, adV, hG, hR⟩, hNc, hKo, hKd, hX, hbl, hsz⟩ := id hLA
  obtain ⟨hP, hPo, hPd, hTop, hO⟩ := hLI
  have hA := adH_ok B0
  have hbA : ¬ AC B0 b := fun z => by have z : B0 ≤ b := z; omega
  refine lv_aload_n hx hb dL_law_2145 rfl (lv_at hl 4 rfl) ?_
  refine lv_aload_n hx hb dL_law_2146 rfl (lv_at hl 5 rfl) ?_
  refine lv_iload hx hb dL_law_2147 (lv_at hl 0 rfl) ?_
  refine lv_iconst (v := 1) hx hb dL_law_2149 (by decide) ?_
  refine lv_iadd hx hb dL_law_2150 ?_
  refine va_sld hx hb hX hbl hbA hS (in_scr hi hL (k := 1) (by decide)) dL_law_2151 ?_
  refine lv_aload_n hx hb dL_law_2152 rfl (lv_at hl 5 rfl) ?_
  refine lv_iload hx hb dL_law_2153 (lv_at hl 0 rfl) ?_
  refine lv_iconst (v := 2) hx hb dL_law_2155 (by decide) ?_
  refine lv_iadd hx hb dL_law_2156 ?_
  refine va_sld hx hb hX hbl hbA hS (in_scr hi hL (k := 2) (by decide)) dL_law_2157 ?_
  refine lv_aload_n hx hb dL_law_2158 rfl (lv_at hl 2 rfl) ?_
  have hPM := t_readTiles (a := (xs (nI i + 1).toNatClampNeg)) (b := (xs (nI i + 2).toNatClampNeg)) hTop
  refine vx_calli (vx_runSX (As := [.ref (adH B0 270), .int (xs (nI i + 1).toNatClampNeg), .int (xs (nI i + 2).toNatClampNeg), .ref (B0+290)]) (rest := []) ⟨hx, hb, hml, hown, hts⟩ (cL_readTiles_met l hl0 hA σ (xs (nI i + 1).toNatClampNeg) (xs (nI i + 2).toNatClampNeg) cL f hO hPM.hE) (vx_cwSW 4 hts gL_law_L_readTiles rfl rfl rfl hd_L_readTilesS ⟨Nat.le_trans (by decide) hfr, Nat.le_trans (by decide) hlo⟩) ⟨hw1_blind, hw1_pre hK hN hT hLw hG hR hNc hsz hS hP hPo hKo⟩ rfl rfl hl.1 rfl (lv_room (Nat.le_of_ble_eq_true rfl)) dL_law_2159 ⟨by omega, by omega⟩) hS (fun q _ h => aw1_ac h) (fun q h => aw1_ac h) (fun q _ h => aw1_ac h) (fun _ _ _ _ _ _ _ _ _ hw9 _ _ _ _ _ _ _ => hw9.elim) (fun r6 z1 t H locs ht hvm hw6 hB hz1 hk1 hS => ?_)
  obtain ⟨ok6, hw6⟩ := hw6
  obtain ⟨σ1, eσ1⟩ : ∃ z, z = z1.1 := ⟨_, rfl⟩
  obtain ⟨hB1, hB2⟩ := hB
  rw [← eσ1] at ok6 hw6 hB1
  have hP : va_P D vwCl (pool G (adH B0) σ1) H := ho_at ht hB1
  have hPo : va_P D vwCl [(B0+290, .inl (cL, 1, .inr (.inl z1.2)))] H := by rw [← ht]; exact hB2
  have hPd := hPd.kept (fun k q hk => hk1 q.1 (vx_lt hPd hk) (wo_o21 hk))
  refine lv_istore (lv' := [(6, .int r6), (5, .int (nI i)), (4, .ref (B0+291)), (3, .ref (B0+290)), (2, .ref (adH B0 279)), (1, .ref (adH B0 270)), (0, .ref b)]) hx hb dL_law_2162 hl (by decide) rfl (fun ls hl => ?_)
  refine lv_aload_n hx hb dL_law_2164 rfl (lv_at hl 4 rfl) ?_
  refine lv_aload_n hx hb dL_law_2165 rfl (lv_at hl 6 rfl) ?_
  refine lv_iload hx hb dL_law_2166 (lv_at hl 1 rfl) ?_
  refine lv_iconst (v := 1) hx hb dL_law_2168 (by decide) ?_
  refine lv_iadd hx hb dL_law_2169 ?_
  refine va_sld hx hb hX hbl hbA hS (in_scr hi hL (k := 1) (by decide)) dL_law_2170 ?_
  refine lv_aload_n hx hb dL_law_2171 rfl (lv_at hl 6 rfl) ?_
  refine lv_iload hx hb dL_law_2172 (lv_at hl 1 rfl) ?_
  refine lv_iconst (v := 2) hx hb dL_law_2174 (by decide) ?_
  refine lv_iadd hx hb dL_law_2175 ?_
  refine va_sld hx hb hX hbl hbA hS (in_scr hi hL (k := 2) (by decide)) dL_law_2176 ?_
  have hls := ls_of (P := fun v => z1.2 0 = v.toInt64) hPM (cd3_i (by decide) (by decide) (by decide)) hw6
  obtain ⟨hT1, h16, h490, hval⟩ := hls
  have hu : va_up σ1 16 (σ 16) = σ1 := by rw [← h16]; exact up_eta σ1 16
  rw [← hu] at hP
  refine va_calli (va_runV (As := [.int (xs (nI i + 1).toNatClampNeg), .int (xs (nI i + 2).toNatClampNeg)]) (rest := []) ⟨hx, hb, hml, hown, hts⟩ (c7_readTiles l hA σ1 (σ 16) (xs (nI i + 1).toNatClampNeg) (xs (nI i + 2).toNatClampNeg) hO.2.2) (cwV 2 hts gL_law_X7_readTiles rfl rfl rfl hd_X7_readTilesV ⟨Nat.le_trans (by decide) hfr, Nat.le_trans (by decide) hlo⟩) ⟨hp_blind, va_recv hK hP (ci := 9) (q0 := 279) rfl c_279, hp_pre hK hN hP⟩ rfl rfl hl.1 rfl (lv_room (Nat.le_of_ble_eq_true rfl)) dL_law_2177 ⟨by omega, by omega⟩) hS (fun q _ h => aa_ac h) (fun q h => aa_ac h) (fun r7 u7 t H locs ht hvm hw7 hB hz1 hk1 hS => ?_)
  have hP : va_P D vwCl (pool G (adH B0) (va_up σ1 16 u7)) H := ho_at ht hB
  have hPo := hPo.kept (fun k q hk => hk1 q.1 (vx_lt hPo hk) (wo_out1 hk))
  have hPd := hPd.kept (fun k q hk => hk1 q.1 (vx_lt hPd hk) (wo_out2 hk))
  obtain ⟨eq7, ok7⟩ := hw7
  rw [← eq7] at hT1 h490 hval
  refine lv_istore (lv' := [(7, .int r7), (6, .int r6), (5, .int (nI i)), (4, .ref (B0+291)), (3, .ref (B0+290)), (2, .ref (adH B0 279)), (1, .ref (adH B0 270)), (0, .ref b)]) hx hb dL_law_2180 hl (by decide) rfl (fun ls hl => ?_)
  refine lv_aload_n hx hb dL_law_2182 rfl (lv_at hl 5 rfl) ?_
  refine va_calli (va_runV (As := []) (rest := []) ⟨hx, hb, hml, hown, hts⟩ (c7_thrown l hA σ1 u7) (cwV 0 hts gL_law_X7_thrown rfl rfl rfl hd_X7_thrownV ⟨Nat.le_trans (by decide) hfr, Nat.le_trans (by decide) hlo⟩) ⟨hp_blind, va_recv hK hP (ci := 9) (q0 := 279) rfl c_279, hp_pre hK hN hP⟩ rfl rfl hl.1 rfl (lv_room (Nat.le_of_ble_eq_true rfl)) dL_law_2183 ⟨by omega, by omega⟩) hS (fun q _ h => aa_ac h) (fun q h => aa_ac h) (fun r8 _ t H locs ht hvm hw8 hB hz1 hk1 hS => ?_)
  have hP : va_P D vwCl (pool G (adH B0) (va_up σ1 16 u7)) H := ho_at ht hB
  have hPo := hPo.kept (fun k q hk => hk1 q.1 (vx_lt hPo hk) (wo_out1 hk))
  have hPd := hPd.kept (fun k q hk => hk1 q.1 (vx_lt hPd hk) (wo_out2 hk))
  refine lv_iload hx hb dL_law_2186 (lv_at hl 1 rfl) ?_
  refine lv_icmp_eq (tgt := 2193) hx hb dL_law_2188 (by decide) (fun c9 => ?_) (fun c9 => absurd (hw8.trans h490) c9)
  have hdone : ∀ (k0 n0 : Nat), k0 ≤ cells + 4 → n0 ≤ slots + 24 → ∀ ls2 : Array Slot, lv_has ls2 8 [(7, .int r7), (6, .int r6), (5, .int (nI i)), (4, .ref (B0+291)), (3, .ref (B0+290)), (2, .ref (adH B0 279)), (1, .ref (adH B0 270)), (0, .ref b)] → W p l e R s m args below meth c H locs k0 n0 Q (F0 m 2317 ls2 []) := fun k0 n0 hk0 hn0 ls2 hl2 => W.widen (k := cells + 4) (n := slots + 24) hk0 hn0 (cont _ z1.2 g H locs ls2 ⟨hP, hPo, hPd, (top_16 hT1).mono (by omega), okS_16 ok6 ok7⟩ hS (lv_sub hl2 [2, 3, 4, 5, 6, 7] rfl))
  refine lv_iload hx hb dL_law_2193 (lv_at hl 1 rfl) ?_
  refine lv_if_ne (tgt := 2210) hx hb dL_law_2195 (by decide) (fun c8 => ?_) (fun c8 => ?_)
  · refine lv_goto (tgt := 2317) hx hb dL_law_2210 (by decide) ?_
    exact hdone _ _ (by omega) (by omega) ls hl
  obtain ⟨v9, hv9, rfl⟩ := hval c8
  refine lv_aload_n hx hb dL_law_2198 rfl (lv_at hl 4 rfl) ?_
  refine lv_iconst (v := 0) hx hb dL_law_2199 (by decide) ?_
  refine va_lald (tys := [(cL, .long)]) hx hb hKo hPo 0 0 rfl rfl (vp_in_iff.mpr (by decide)) dL_law_2200 ?_
  have hv9 : z1.2 (0 : Int32).toNatClampNeg = _ := hv9
  rw [hv9]
  refine lv_iload hx hb dL_law_2201 (lv_at hl 0 rfl) ?_
  refine lv_i2l (v := v9.toInt64) hx hb dL_law_2203 rfl ?_
  refine W.lcmp hx hb dL_law_2204 ?_
  refine lv_if_eq (tgt := 2210) hx hb dL_law_2205 (by decide) (fun c7 => ?_) (fun c7 => absurd (lg_cmp_self _) c7)
  refine lv_goto (tgt := 2317) hx hb dL_law_2210 (by decide) ?_
  exact hdone _ _ (by omega) (by omega) ls hl
set_option maxHeartbeats 2000000 in
set_option maxRecDepth 100000 in
theorem law_30 {p : Program} {l : Launch} {e : Env} {R : Room} {s : State} {m : MethodId} {args : Array Value} {below : List Frame} {meth : Method} {c : Code} {Q : State → Prop} (hl0 : l.stackTraces = false) {D : va_G} {G : CY} {B0 b L i cells slots : Nat} {xs : Nat → Int32} {cL cD : ClassId} {K : Int} {σ : Nat → Nat → Int32} {f : Nat → Int64} {g : Nat → UInt64} {H : Heap} {locs : List Loc} {ls : Array Slot}
    (hx : p.tables.exec = Jvm.exec) (hb : c.code = code) (hml : c.maxLocals = 8) (hown : s.vm.findClass RL = some m.cls) (hts : ∀ w ∈ lw_tbl, w.before args s = true) (hLA : LA D G B0 cL cD b L xs s) (hLI : LI D G B0 cL cD K σ f g H) (hS : va_S (AC B0) s.heap H locs) (hl : lv_has ls 8 [(5, .int (nI i)), (4, .ref (B0+291)), (3, .ref (B0+290)), (2, .ref (adH B0 279)), (1, .ref (adH B0 270)), (0, .ref b)]) (hi : i + 7 ≤ L) (hL : L ≤ 3584) (hK8 : K ≤ 800000000) (hfr : 20 ≤ R.frames) (hlo : 400 ≤ R.locals) (hce : cells + 4 ≤ R.cells) (hsl : slots + 24 ≤ R.slots)
    (cont : ∀ (σ2 : Nat → Nat → Int32) (f2 : Nat → Int64) (g2 : Nat → UInt64) (H2 : Heap) (locs2 : List Loc) (ls2 : Array Slot), LI D G B0 cL cD (K+500000) σ2 f2 g2 H2 → va_S (AC B0) s.heap H2 locs2 → lv_has ls2 8 [(5, .int (nI i)), (4, .ref (B0+291)), (3, .ref (B0+290)), (2, .ref (adH B0 279)), (1, .ref (adH B0 270)), (0, .ref b)] → W p l e R s m args below meth c H2 locs2 (cells + 4) (slots + 24) Q (F0 m 2317 ls2 [])) : W p l e R s m args below meth c H locs cells slots Q (F0 m 2213 ls []) := by
  obtain ⟨hK, hN, hT, hLw, ⟨adK, adV, hG, hR⟩, hNc, hKo, hKd, hX, hbl, hsz⟩ := id hLA
  obtain ⟨hP, hPo, hPd, hTop, hO⟩ := hLI
  have hA := adH_ok B0
  have hbA : ¬ AC B0 b := fun z => by have z : B0 ≤ b := z; omega
  refine lv_aload_n hx hb dL_law_2213 rfl (lv_at hl 4 rfl) ?_
  refine lv_aload_n hx hb dL_law_2214 rfl (lv_at hl 5 rfl) ?_
  refine lv_iload hx hb dL_law_2215 (lv_at hl 0 rfl) ?_
  refine lv_iconst (v := 1) hx hb dL_law_2217 (by decide) ?_
  refine lv_iadd hx hb dL_law_2218 ?_
  refine va_sld hx hb hX hbl hbA hS (in_scr hi hL (k := 1) (by decide)) dL_law_2219 ?_
  refine lv_aload_n hx hb dL_law_2220 rfl (lv_at hl 2 rfl) ?_
  have hPM := t_play (a := (xs (nI i + 1).toNatClampNeg)) hTop (by omega)
  refine vx_calli (vx_runSX (As := [.ref (adH B0 270), .int (xs (nI i + 1).toNatClampNeg), .ref (B0+290)]) (rest := []) ⟨hx, hb, hml, hown, hts⟩ (cL_play_met l hl0 hA σ (xs (nI i + 1).toNatClampNeg) cL f hO hPM.hE) (vx_cwSW 3 hts gL_law_L_play rfl rfl rfl hd_L_playS ⟨Nat.le_trans (by decide) hfr, Nat.le_trans (by decide) hlo⟩) ⟨hw1_blind, hw1_pre hK hN hT hLw hG hR hNc hsz hS hP hPo hKo⟩ rfl rfl hl.1 rfl (lv_room (Nat.le_of_ble_eq_true rfl)) dL_law_2221 ⟨by omega, by omega⟩) hS (fun q _ h => aw1_ac h) (fun q h => aw1_ac h) (fun q _ h => aw1_ac h) (fun _ _ _ _ _ _ _ _ _ hw9 _ _ _ _ _ _ _ => hw9.elim) (fun r6 z1 t H locs ht hvm hw6 hB hz1 hk1 hS => ?_)
  obtain ⟨ok6, hw6⟩ := hw6
  obtain ⟨σ1, eσ1⟩ : ∃ z, z = z1.1 := ⟨_, rfl⟩
  obtain ⟨hB1, hB2⟩ := hB
  rw [← eσ1] at ok6 hw6 hB1
  have hP : va_P D vwCl (pool G (adH B0) σ1) H := ho_at ht hB1
  have hPo : va_P D vwCl [(B0+290, .inl (cL, 1, .inr (.inl z1.2)))] H := by rw [← ht]; exact hB2
  have hPd := hPd.kept (fun k q hk => hk1 q.1 (vx_lt hPd hk) (wo_o21 hk))
  refine lv_istore (lv' := [(6, .int r6), (5, .int (nI i)), (4, .ref (B0+291)), (3, .ref (B0+290)), (2, .ref (adH B0 279)), (1, .ref (adH B0 270)), (0, .ref b)]) hx hb dL_law_2224 hl (by decide) rfl (fun ls hl => ?_)
  refine lv_aload_n hx hb dL_law_2226 rfl (lv_at hl 4 rfl) ?_
  refine lv_aload_n hx hb dL_law_2227 rfl (lv_at hl 6 rfl) ?_
  refine lv_iload hx hb dL_law_2228 (lv_at hl 1 rfl) ?_
  refine lv_iconst (v := 1) hx hb dL_law_2230 (by decide) ?_
  refine lv_iadd hx hb dL_law_2231 ?_
  refine va_sld hx hb hX hbl hbA hS (in_scr hi hL (k := 1) (by decide)) dL_law_2232 ?_
  have hls := ls_of (P := fun v => z1.2 0 = v.toInt64) hPM (cd3_i (by decide) (by decide) (by decide)) hw6
  obtain ⟨hT1, h16, h490, hval⟩ := hls
  have hu : va_up σ1 16 (σ 16) = σ1 := by rw [← h16]; exact up_eta σ1 16
  rw [← hu] at hP
  refine va_calli (va_runV (As := [.int (xs (nI i + 1).toNatClampNeg)]) (rest := []) ⟨hx, hb, hml, hown, hts⟩ (c7_play l hA σ1 (σ 16) (xs (nI i + 1).toNatClampNeg) hO.2.2) (cwV 1 hts gL_law_X7_play rfl rfl rfl hd_X7_playV ⟨Nat.le_trans (by decide) hfr, Nat.le_trans (by decide) hlo⟩) ⟨hp_blind, va_recv hK hP (ci := 9) (q0 := 279) rfl c_279, hp_pre hK hN hP⟩ rfl rfl hl.1 rfl (lv_room (Nat.le_of_ble_eq_true rfl)) dL_law_2233 ⟨by omega, by omega⟩) hS (fun q _ h => aa_ac h) (fun q h => aa_ac h) (fun r7 u7 t H locs ht hvm hw7 hB hz1 hk1 hS => ?_)
  have hP : va_P D vwCl (pool G (adH B0) (va_up σ1 16 u7)) H := ho_at ht hB
  have hPo := hPo.kept (fun k q hk => hk1 q.1 (vx_lt hPo hk) (wo_out1 hk))
  have hPd := hPd.kept (fun k q hk => hk1 q.1 (vx_lt hPd hk) (wo_out2 hk))
  obtain ⟨eq7, ok7⟩ := hw7
  rw [← eq7] at hT1 h490 hval
  refine lv_istore (lv' := [(7, .int r7), (6, .int r6), (5, .int (nI i)), (4, .ref (B0+291)), (3, .ref (B0+290)), (2, .ref (adH B0 279)), (1, .ref (adH B0 270)), (0, .ref b)]) hx hb dL_law_2236 hl (by decide) rfl (fun ls hl => ?_)
  refine lv_aload_n hx hb dL_law_2238 rfl (lv_at hl 5 rfl) ?_
  refine va_calli (va_runV (As := []) (rest := []) ⟨hx, hb, hml, hown, hts⟩ (c7_thrown l hA σ1 u7) (cwV 0 hts gL_law_X7_thrown rfl rfl rfl hd_X7_thrownV ⟨Nat.le_trans (by decide) hfr, Nat.le_trans (by decide) hlo⟩) ⟨hp_blind, va_recv hK hP (ci := 9) (q0 := 279) rfl c_279, hp_pre hK hN hP⟩ rfl rfl hl.1 rfl (lv_room (Nat.le_of_ble_eq_true rfl)) dL_law_2239 ⟨by omega, by omega⟩) hS (fun q _ h => aa_ac h) (fun q h => aa_ac h) (fun r8 _ t H locs ht hvm hw8 hB hz1 hk1 hS => ?_)
  have hP : va_P D vwCl (pool G (adH B0) (va_up σ1 16 u7)) H := ho_at ht hB
  have hPo := hPo.kept (fun k q hk => hk1 q.1 (vx_lt hPo hk) (wo_out1 hk))
  have hPd := hPd.kept (fun k q hk => hk1 q.1 (vx_lt hPd hk) (wo_out2 hk))
  refine lv_iload hx hb dL_law_2242 (lv_at hl 1 rfl) ?_
  refine lv_icmp_eq (tgt := 2249) hx hb dL_law_2244 (by decide) (fun c9 => ?_) (fun c9 => absurd (hw8.trans h490) c9)
  have hdone : ∀ (k0 n0 : Nat), k0 ≤ cells + 4 → n0 ≤ slots + 24 → ∀ ls2 : Array Slot, lv_has ls2 8 [(7, .int r7), (6, .int r6), (5, .int (nI i)), (4, .ref (B0+291)), (3, .ref (B0+290)), (2, .ref (adH B0 279)), (1, .ref (adH B0 270)), (0, .ref b)] → W p l e R s m args below meth c H locs k0 n0 Q (F0 m 2317 ls2 []) := fun k0 n0 hk0 hn0 ls2 hl2 => W.widen (k := cells + 4) (n := slots + 24) hk0 hn0 (cont _ z1.2 g H locs ls2 ⟨hP, hPo, hPd, (top_16 hT1).mono (by omega), okS_16 ok6 ok7⟩ hS (lv_sub hl2 [2, 3, 4, 5, 6, 7] rfl))
  refine lv_iload hx hb dL_law_2249 (lv_at hl 1 rfl) ?_
  refine lv_if_ne (tgt := 2266) hx hb dL_law_2251 (by decide) (fun c8 => ?_) (fun c8 => ?_)
  · refine lv_goto (tgt := 2317) hx hb dL_law_2266 (by decide) ?_
    exact hdone _ _ (by omega) (by omega) ls hl
  obtain ⟨v9, hv9, rfl⟩ := hval c8
  refine lv_aload_n hx hb dL_law_2254 rfl (lv_at hl 4 rfl) ?_
  refine lv_iconst (v := 0) hx hb dL_law_2255 (by decide) ?_
  refine va_lald (tys := [(cL, .long)]) hx hb hKo hPo 0 0 rfl rfl (vp_in_iff.mpr (by decide)) dL_law_2256 ?_
  have hv9 : z1.2 (0 : Int32).toNatClampNeg = _ := hv9
  rw [hv9]
  refine lv_iload hx hb dL_law_2257 (lv_at hl 0 rfl) ?_
  refine lv_i2l (v := v9.toInt64) hx hb dL_law_2259 rfl ?_
  refine W.lcmp hx hb dL_law_2260 ?_
  refine lv_if_eq (tgt := 2266) hx hb dL_law_2261 (by decide) (fun c7 => ?_) (fun c7 => absurd (lg_cmp_self _) c7)
  refine lv_goto (tgt := 2317) hx hb dL_law_2266 (by decide) ?_
  exact hdone _ _ (by omega) (by omega) ls hl
set_option maxHeartbeats 2000000 in
set_option maxRecDepth 100000 in
theorem law_31 {p : Program} {l : Launch} {e : Env} {R : Room} {s : State} {m : MethodId} {args : Array Value} {below : List Frame} {meth : Method} {c : Code} {Q : State → Prop} (hl0 : l.stackTraces = false) {D : va_G} {G : CY} {B0 b L i cells slots : Nat} {xs : Nat → Int32} {cL cD : ClassId} {K : Int} {σ : Nat → Nat → Int32} {f : Nat → Int64} {g : Nat → UInt64} {H : Heap} {locs : List Loc} {ls : Array Slot}
    (hx : p.tables.exec = Jvm.exec) (hb : c.code = code) (hml : c.maxLocals = 8) (hown : s.vm.findClass RL = some m.cls) (hts : ∀ w ∈ lw_tbl, w.before args s = true) (hLA : LA D G B0 cL cD b L xs s) (hLI : LI D G B0 cL cD K σ f g H) (hS : va_S (AC B0) s.heap H locs) (hl : lv_has ls 8 [(5, .int (nI i)), (4, .ref (B0+291)), (3, .ref (B0+290)), (2, .ref (adH B0 279)), (1, .ref (adH B0 270)), (0, .ref b)]) (hi : i + 7 ≤ L) (hL : L ≤ 3584) (hK8 : K ≤ 800000000) (hfr : 20 ≤ R.frames) (hlo : 400 ≤ R.locals) (hce : cells + 4 ≤ R.cells) (hsl : slots + 24 ≤ R.slots)
    (cont : ∀ (σ2 : Nat → Nat → Int32) (f2 : Nat → Int64) (g2 : Nat → UInt64) (H2 : Heap) (locs2 : List Loc) (ls2 : Array Slot), LI D G B0 cL cD (K+500000) σ2 f2 g2 H2 → va_S (AC B0) s.heap H2 locs2 → lv_has ls2 8 [(5, .int (nI i)), (4, .ref (B0+291)), (3, .ref (B0+290)), (2, .ref (adH B0 279)), (1, .ref (adH B0 270)), (0, .ref b)] → W p l e R s m args below meth c H2 locs2 (cells + 4) (slots + 24) Q (F0 m 2317 ls2 [])) : W p l e R s m args below meth c H locs cells slots Q (F0 m 2269 ls []) := by
  obtain ⟨hK, hN, hT, hLw, ⟨adK, adV, hG, hR⟩, hNc, hKo, hKd, hX, hbl, hsz⟩ := id hLA
  obtain ⟨hP, hPo, hPd, hTop, hO⟩ := hLI
  have hA := adH_ok B0
  have hbA : ¬ AC B0 b := fun z => by have z : B0 ≤ b := z; omega
  refine lv_aload_n hx hb dL_law_2269 rfl (lv_at hl 4 rfl) ?_
  obtain ⟨tv, tt⟩ := t_fault hTop
  refine va_calli (va_runV (As := []) (rest := []) ⟨hx, hb, hml, hown, hts⟩ (c6_faultPosition l hA σ hO) (cwV 0 hts gL_law_X6_faultPosition rfl rfl rfl hd_X6_faultPositionV ⟨Nat.le_trans (by decide) hfr, Nat.le_trans (by decide) hlo⟩) ⟨hp_blind, va_recv hK hP (ci := 8) (q0 := 270) rfl g_270, hp_pre hK hN hP⟩ rfl rfl hl.1 rfl (lv_room (Nat.le_of_ble_eq_true rfl)) dL_law_2270 ⟨by omega, by omega⟩) hS (fun q _ h => aa_ac h) (fun q h => aa_ac h) (fun r6 _ t H locs ht hvm hw6 hB hz1 hk1 hS => ?_)
  have hP : va_P D vwCl (pool G (adH B0) σ) H := ho_at ht hB
  have hu : va_up σ 16 (σ 16) = σ := up_eta σ 16
  have hPo := hPo.kept (fun k q hk => hk1 q.1 (vx_lt hPo hk) (wo_out1 hk))
  have hPd := hPd.kept (fun k q hk => hk1 q.1 (vx_lt hPd hk) (wo_out2 hk))
  refine lv_aload_n hx hb dL_law_2273 rfl (lv_at hl 3 rfl) ?_
  rw [← hu] at hP
  refine va_calli (va_runV (As := []) (rest := [.int r6]) ⟨hx, hb, hml, hown, hts⟩ (c7_faultPosition l hA σ (σ 16) hO.2.2) (cwV 0 hts gL_law_X7_faultPosition rfl rfl rfl hd_X7_faultPositionV ⟨Nat.le_trans (by decide) hfr, Nat.le_trans (by decide) hlo⟩) ⟨hp_blind, va_recv hK hP (ci := 9) (q0 := 279) rfl c_279, hp_pre hK hN hP⟩ rfl rfl hl.1 rfl (lv_room (Nat.le_of_ble_eq_true rfl)) dL_law_2274 ⟨by omega, by omega⟩) hS (fun q _ h => aa_ac h) (fun q h => aa_ac h) (fun r7 u7 t H locs ht hvm hw7 hB hz1 hk1 hS => ?_)
  have hP : va_P D vwCl (pool G (adH B0) (va_up σ 16 u7)) H := ho_at ht hB
  have hPo := hPo.kept (fun k q hk => hk1 q.1 (vx_lt hPo hk) (wo_out1 hk))
  have hPd := hPd.kept (fun k q hk => hk1 q.1 (vx_lt hPd hk) (wo_out2 hk))
  obtain ⟨eq7, ok7⟩ := hw7
  rw [← eq7] at tv tt
  refine lv_icmp_eq (tgt := 2317) hx hb dL_law_2277 (by decide) (fun c9 => ?_) (fun c9 => absurd (hw6.trans tv) c9)
  refine W.widen (k := cells + 4) (n := slots + 24) (by omega) (by omega) (cont _ f g H locs ls ⟨hP, hPo, hPd, (top_16 tt).mono (by omega), okS_16 hO ok7⟩ hS hl)
set_option maxHeartbeats 2000000 in
set_option maxRecDepth 100000 in
theorem law_32 {p : Program} {l : Launch} {e : Env} {R : Room} {s : State} {m : MethodId} {args : Array Value} {below : List Frame} {meth : Method} {c : Code} {Q : State → Prop} (hl0 : l.stackTraces = false) {D : va_G} {G : CY} {B0 b L i cells slots : Nat} {xs : Nat → Int32} {cL cD : ClassId} {K : Int} {σ : Nat → Nat → Int32} {f : Nat → Int64} {g : Nat → UInt64} {H : Heap} {locs : List Loc} {ls : Array Slot}
    (hx : p.tables.exec = Jvm.exec) (hb : c.code = code) (hml : c.maxLocals = 8) (hown : s.vm.findClass RL = some m.cls) (hts : ∀ w ∈ lw_tbl, w.before args s = true) (hLA : LA D G B0 cL cD b L xs s) (hLI : LI D G B0 cL cD K σ f g H) (hS : va_S (AC B0) s.heap H locs) (hl : lv_has ls 8 [(5, .int (nI i)), (4, .ref (B0+291)), (3, .ref (B0+290)), (2, .ref (adH B0 279)), (1, .ref (adH B0 270)), (0, .ref b)]) (hi : i + 7 ≤ L) (hL : L ≤ 3584) (hK8 : K ≤ 800000000) (hfr : 20 ≤ R.frames) (hlo : 400 ≤ R.locals) (hce : cells + 4 ≤ R.cells) (hsl : slots + 24 ≤ R.slots)
    (cont : ∀ (σ2 : Nat → Nat → Int32) (f2 : Nat → Int64) (g2 : Nat → UInt64) (H2 : Heap) (locs2 : List Loc) (ls2 : Array Slot), LI D G B0 cL cD (K+500000) σ2 f2 g2 H2 → va_S (AC B0) s.heap H2 locs2 → lv_has ls2 8 [(5, .int (nI i)), (4, .ref (B0+291)), (3, .ref (B0+290)), (2, .ref (adH B0 279)), (1, .ref (adH B0 270)), (0, .ref b)] → W p l e R s m args below meth c H2 locs2 (cells + 4) (slots + 24) Q (F0 m 2317 ls2 [])) : W p l e R s m args below meth c H locs cells slots Q (F0 m 2282 ls []) := by
  obtain ⟨hK, hN, hT, hLw, ⟨adK, adV, hG, hR⟩, hNc, hKo, hKd, hX, hbl, hsz⟩ := id hLA
  obtain ⟨hP, hPo, hPd, hTop, hO⟩ := hLI
  have hA := adH_ok B0
  have hbA : ¬ AC B0 b := fun z => by have z : B0 ≤ b := z; omega
  refine lv_aload_n hx hb dL_law_2282 rfl (lv_at hl 4 rfl) ?_
  obtain ⟨ts1, ts2, ts3⟩ := t_save hTop
  refine va_callv (va_runV (As := []) (rest := []) ⟨hx, hb, hml, hown, hts⟩ (c6_save l hA σ hO) (cwV 0 hts gL_law_X6_save rfl rfl rfl hd_X6_saveV ⟨Nat.le_trans (by decide) hfr, Nat.le_trans (by decide) hlo⟩) ⟨hp_blind, va_recv hK hP (ci := 8) (q0 := 270) rfl g_270, hp_pre hK hN hP⟩ rfl rfl hl.1 rfl (lv_room (Nat.le_of_ble_eq_true rfl)) dL_law_2283 ⟨by omega, by omega⟩) hS (fun q _ h => aa_ac h) (fun q h => aa_ac h) (fun σ1 t H locs ht hvm hw6 hB hz1 hk1 hS => ?_)
  obtain ⟨rfl, ok6⟩ := hw6
  have hP : va_P D vwCl (pool G (adH B0) (f6_save σ)) H := ho_at ht hB
  have hu : va_up (f6_save σ) 16 (σ 16) = f6_save σ := by rw [← ts3]; exact up_eta _ 16
  have hPo := hPo.kept (fun k q hk => hk1 q.1 (vx_lt hPo hk) (wo_out1 hk))
  have hPd := hPd.kept (fun k q hk => hk1 q.1 (vx_lt hPd hk) (wo_out2 hk))
  refine lv_aload_n hx hb dL_law_2286 rfl (lv_at hl 3 rfl) ?_
  rw [← hu] at hP
  refine va_callv (va_runV (As := []) (rest := []) ⟨hx, hb, hml, hown, hts⟩ (c7_save l hA (f6_save σ) (σ 16) hO.2.2) (cwV 0 hts gL_law_X7_save rfl rfl rfl hd_X7_saveV ⟨Nat.le_trans (by decide) hfr, Nat.le_trans (by decide) hlo⟩) ⟨hp_blind, va_recv hK hP (ci := 9) (q0 := 279) rfl c_279, hp_pre hK hN hP⟩ rfl rfl hl.1 rfl (lv_room (Nat.le_of_ble_eq_true rfl)) dL_law_2287 ⟨by omega, by omega⟩) hS (fun q _ h => aa_ac h) (fun q h => aa_ac h) (fun u7 t H locs ht hvm hw7 hB hz1 hk1 hS => ?_)
  have hP : va_P D vwCl (pool G (adH B0) (va_up (f6_save σ) 16 u7)) H := ho_at ht hB
  have hPo := hPo.kept (fun k q hk => hk1 q.1 (vx_lt hPo hk) (wo_out1 hk))
  have hPd := hPd.kept (fun k q hk => hk1 q.1 (vx_lt hPd hk) (wo_out2 hk))
  obtain ⟨rfl, ok7⟩ := hw7
  refine lv_goto (tgt := 2317) hx hb dL_law_2290 (by decide) ?_
  refine W.widen (k := cells + 4) (n := slots + 24) (by omega) (by omega) (cont _ f g H locs ls ⟨hP, hPo, hPd, (top_16 ts2).mono (by omega), okS_16 ok6 ok7⟩ hS hl)
set_option maxHeartbeats 2000000 in
set_option maxRecDepth 100000 in
theorem law_33 {p : Program} {l : Launch} {e : Env} {R : Room} {s : State} {m : MethodId} {args : Array Value} {below : List Frame} {meth : Method} {c : Code} {Q : State → Prop} (hl0 : l.stackTraces = false) {D : va_G} {G : CY} {B0 b L i cells slots : Nat} {xs : Nat → Int32} {cL cD : ClassId} {K : Int} {σ : Nat → Nat → Int32} {f : Nat → Int64} {g : Nat → UInt64} {H : Heap} {locs : List Loc} {ls : Array Slot}
    (hx : p.tables.exec = Jvm.exec) (hb : c.code = code) (hml : c.maxLocals = 8) (hown : s.vm.findClass RL = some m.cls) (hts : ∀ w ∈ lw_tbl, w.before args s = true) (hLA : LA D G B0 cL cD b L xs s) (hLI : LI D G B0 cL cD K σ f g H) (hS : va_S (AC B0) s.heap H locs) (hl : lv_has ls 8 [(5, .int (nI i)), (4, .ref (B0+291)), (3, .ref (B0+290)), (2, .ref (adH B0 279)), (1, .ref (adH B0 270)), (0, .ref b)]) (hi : i + 7 ≤ L) (hL : L ≤ 3584) (hK8 : K ≤ 800000000) (hfr : 20 ≤ R.frames) (hlo : 400 ≤ R.locals) (hce : cells + 4 ≤ R.cells) (hsl : slots + 24 ≤ R.slots)
    (cont : ∀ (σ2 : Nat → Nat → Int32) (f2 : Nat → Int64) (g2 : Nat → UInt64) (H2 : Heap) (locs2 : List Loc) (ls2 : Array Slot), LI D G B0 cL cD (K+500000) σ2 f2 g2 H2 → va_S (AC B0) s.heap H2 locs2 → lv_has ls2 8 [(5, .int (nI i)), (4, .ref (B0+291)), (3, .ref (B0+290)), (2, .ref (adH B0 279)), (1, .ref (adH B0 270)), (0, .ref b)] → W p l e R s m args below meth c H2 locs2 (cells + 4) (slots + 24) Q (F0 m 2317 ls2 [])) : W p l e R s m args below meth c H locs cells slots Q (F0 m 2293 ls []) := by
  obtain ⟨hK, hN, hT, hLw, ⟨adK, adV, hG, hR⟩, hNc, hKo, hKd, hX, hbl, hsz⟩ := id hLA
  obtain ⟨hP, hPo, hPd, hTop, hO⟩ := hLI
  have hA := adH_ok B0
  have hbA : ¬ AC B0 b := fun z => by have z : B0 ≤ b := z; omega
  refine lv_aload_n hx hb dL_law_2293 rfl (lv_at hl 4 rfl) ?_
  have hPM := t_restore  hTop
  refine vx_calli (vx_runSX (As := [.ref (adH B0 270)]) (rest := []) ⟨hx, hb, hml, hown, hts⟩ (cL_restore_met l hl0 hA σ  hO hPM.hE) (vx_cwSW 1 hts gL_law_L_restore rfl rfl rfl hd_L_restoreS ⟨Nat.le_trans (by decide) hfr, Nat.le_trans (by decide) hlo⟩) ⟨hw0_blind, hw0_pre hK hN hT hLw hG hR hNc hsz hS hP⟩ rfl rfl hl.1 rfl (lv_room (Nat.le_of_ble_eq_true rfl)) dL_law_2294 ⟨by omega, by omega⟩) hS (fun q _ h => aa_ac h) (fun q h => aa_ac h) (fun q _ h => aa_ac h) (fun _ _ _ _ _ _ _ _ _ hw9 _ _ _ _ _ _ _ => hw9.elim) (fun r6 z1 t H locs ht hvm hw6 hB hz1 hk1 hS => ?_)
  obtain ⟨ok6, hw6⟩ := hw6
  obtain ⟨σ1, eσ1⟩ : ∃ z, z = z1 := ⟨_, rfl⟩
  rw [← eσ1] at ok6 hw6 hB
  have hP : va_P D vwCl (pool G (adH B0) σ1) H := ho_at ht hB
  have hPo := hPo.kept (fun k q hk => hk1 q.1 (vx_lt hPo hk) (wo_out1 hk))
  have hPd := hPd.kept (fun k q hk => hk1 q.1 (vx_lt hPd hk) (wo_out2 hk))
  refine lv_istore (lv' := [(6, .int r6), (5, .int (nI i)), (4, .ref (B0+291)), (3, .ref (B0+290)), (2, .ref (adH B0 279)), (1, .ref (adH B0 270)), (0, .ref b)]) hx hb dL_law_2297 hl (by decide) rfl (fun ls hl => ?_)
  refine lv_aload_n hx hb dL_law_2299 rfl (lv_at hl 4 rfl) ?_
  have hls := ls_of (P := fun v => True) hPM cd1_i (hw6.imp (fun ⟨v, h1, h2⟩ => ⟨v, h1, h2, trivial⟩) id)
  obtain ⟨hT1, h16, h490, hval⟩ := hls
  have hu : va_up σ1 16 (σ 16) = σ1 := by rw [← h16]; exact up_eta σ1 16
  rw [← hu] at hP
  refine va_callv (va_runV (As := []) (rest := []) ⟨hx, hb, hml, hown, hts⟩ (c7_restore l hA σ1 (σ 16)  hO.2.2) (cwV 0 hts gL_law_X7_restore rfl rfl rfl hd_X7_restoreV ⟨Nat.le_trans (by decide) hfr, Nat.le_trans (by decide) hlo⟩) ⟨hp_blind, va_recv hK hP (ci := 9) (q0 := 279) rfl c_279, hp_pre hK hN hP⟩ rfl rfl hl.1 rfl (lv_room (Nat.le_of_ble_eq_true rfl)) dL_law_2300 ⟨by omega, by omega⟩) hS (fun q _ h => aa_ac h) (fun q h => aa_ac h) (fun u7 t H locs ht hvm hw7 hB hz1 hk1 hS => ?_)
  have hP : va_P D vwCl (pool G (adH B0) (va_up σ1 16 u7)) H := ho_at ht hB
  have hPo := hPo.kept (fun k q hk => hk1 q.1 (vx_lt hPo hk) (wo_out1 hk))
  have hPd := hPd.kept (fun k q hk => hk1 q.1 (vx_lt hPd hk) (wo_out2 hk))
  obtain ⟨eq7, ok7⟩ := hw7
  rw [← eq7] at hT1 h490
  refine lv_aload_n hx hb dL_law_2303 rfl (lv_at hl 4 rfl) ?_
  refine va_calli (va_runV (As := []) (rest := []) ⟨hx, hb, hml, hown, hts⟩ (c7_thrown l hA σ1 u7) (cwV 0 hts gL_law_X7_thrown rfl rfl rfl hd_X7_thrownV ⟨Nat.le_trans (by decide) hfr, Nat.le_trans (by decide) hlo⟩) ⟨hp_blind, va_recv hK hP (ci := 9) (q0 := 279) rfl c_279, hp_pre hK hN hP⟩ rfl rfl hl.1 rfl (lv_room (Nat.le_of_ble_eq_true rfl)) dL_law_2304 ⟨by omega, by omega⟩) hS (fun q _ h => aa_ac h) (fun q h => aa_ac h) (fun r8 _ t H locs ht hvm hw8 hB hz1 hk1 hS => ?_)
  have hP : va_P D vwCl (pool G (adH B0) (va_up σ1 16 u7)) H := ho_at ht hB
  have hPo := hPo.kept (fun k q hk => hk1 q.1 (vx_lt hPo hk) (wo_out1 hk))
  have hPd := hPd.kept (fun k q hk => hk1 q.1 (vx_lt hPd hk) (wo_out2 hk))
  refine lv_iload hx hb dL_law_2307 (lv_at hl 0 rfl) ?_
  refine lv_icmp_eq (tgt := 2314) hx hb dL_law_2309 (by decide) (fun c9 => ?_) (fun c9 => absurd (hw8.trans h490) c9)
  have hdone : ∀ (k0 n0 : Nat), k0 ≤ cells + 4 → n0 ≤ slots + 24 → ∀ ls2 : Array Slot, lv_has ls2 8 [(6, .int r6), (5, .int (nI i)), (4, .ref (B0+291)), (3, .ref (B0+290)), (2, .ref (adH B0 279)), (1, .ref (adH B0 270)), (0, .ref b)] → W p l e R s m args below meth c H locs k0 n0 Q (F0 m 2317 ls2 []) := fun k0 n0 hk0 hn0 ls2 hl2 => W.widen (k := cells + 4) (n := slots + 24) hk0 hn0 (cont _ f g H locs ls2 ⟨hP, hPo, hPd, (top_16 hT1).mono (by omega), okS_16 ok6 ok7⟩ hS (lv_sub hl2 [1, 2, 3, 4, 5, 6] rfl))
  refine lv_goto (tgt := 2317) hx hb dL_law_2314 (by decide) ?_
  exact hdone _ _ (by omega) (by omega) ls hl
