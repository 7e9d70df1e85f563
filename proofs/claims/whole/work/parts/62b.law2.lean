/-! THE LAW'S CASES -/
set_option maxHeartbeats 2000000 in
set_option maxRecDepth 100000 in
theorem law_9 {p : Program} {l : Launch} {e : Env} {R : Room} {s : State} {m : MethodId} {args : Array Value} {below : List Frame} {meth : Method} {c : Code} {Q : State → Prop} (hl0 : l.stackTraces = false) {D : va_G} {G : CY} {B0 b L i cells slots : Nat} {xs : Nat → Int32} {cL cD : ClassId} {K : Int} {σ : Nat → Nat → Int32} {f : Nat → Int64} {g : Nat → UInt64} {H : Heap} {locs : List Loc} {ls : Array Slot}
    (hx : p.tables.exec = Jvm.exec) (hb : c.code = code) (hml : c.maxLocals = 8) (hown : s.vm.findClass RL = some m.cls) (hts : ∀ w ∈ lw_tbl, w.before args s = true) (hLA : LA D G B0 cL cD b L xs s) (hLI : LI D G B0 cL cD K σ f g H) (hS : va_S (AC B0) s.heap H locs) (hl : lv_has ls 8 [(5, .int (nI i)), (4, .ref (B0+291)), (3, .ref (B0+290)), (2, .ref (adH B0 279)), (1, .ref (adH B0 270)), (0, .ref b)]) (hi : i + 7 ≤ L) (hL : L ≤ 3584) (hK8 : K ≤ 800000000) (hfr : 20 ≤ R.frames) (hlo : 400 ≤ R.locals) (hce : cells + 4 ≤ R.cells) (hsl : slots + 24 ≤ R.slots)
    (cont : ∀ (σ2 : Nat → Nat → Int32) (f2 : Nat → Int64) (g2 : Nat → UInt64) (H2 : Heap) (locs2 : List Loc) (ls2 : Array Slot), LI D G B0 cL cD (K+500000) σ2 f2 g2 H2 → va_S (AC B0) s.heap H2 locs2 → lv_has ls2 8 [(5, .int (nI i)), (4, .ref (B0+291)), (3, .ref (B0+290)), (2, .ref (adH B0 279)), (1, .ref (adH B0 270)), (0, .ref b)] → W p l e R s m args below meth c H2 locs2 (cells + 4) (slots + 24) Q (F0 m 2317 ls2 [])) : W p l e R s m args below meth c H locs cells slots Q (F0 m 882 ls []) := by
  obtain ⟨hK, hN, hT, hLw, ⟨adK, adV, hG, hR⟩, hNc, hKo, hKd, hX, hbl, hsz⟩ := id hLA
  obtain ⟨hP, hPo, hPd, hTop, hO⟩ := hLI
  have hA := adH_ok B0
  have hbA : ¬ AC B0 b := fun z => by have z : B0 ≤ b := z; omega
  refine lv_aload_n hx hb dL_law_882 rfl (lv_at hl 4 rfl) ?_
  refine lv_aload_n hx hb dL_law_883 rfl (lv_at hl 5 rfl) ?_
  refine lv_iload hx hb dL_law_884 (lv_at hl 0 rfl) ?_
  refine lv_iconst (v := 1) hx hb dL_law_886 (by decide) ?_
  refine lv_iadd hx hb dL_law_887 ?_
  refine va_sld hx hb hX hbl hbA hS (in_scr hi hL (k := 1) (by decide)) dL_law_888 ?_
  refine lv_aload_n hx hb dL_law_889 rfl (lv_at hl 5 rfl) ?_
  refine lv_iload hx hb dL_law_890 (lv_at hl 0 rfl) ?_
  refine lv_iconst (v := 2) hx hb dL_law_892 (by decide) ?_
  refine lv_iadd hx hb dL_law_893 ?_
  refine va_sld hx hb hX hbl hbA hS (in_scr hi hL (k := 2) (by decide)) dL_law_894 ?_
  refine lv_aload_n hx hb dL_law_895 rfl (lv_at hl 2 rfl) ?_
  have hPM := t_platform (a := (xs (nI i + 1).toNatClampNeg)) (b := (xs (nI i + 2).toNatClampNeg)) hTop
  refine vx_calli (vx_runSX (As := [.ref (adH B0 270), .int (xs (nI i + 1).toNatClampNeg), .int (xs (nI i + 2).toNatClampNeg), .ref (B0+290)]) (rest := []) ⟨hx, hb, hml, hown, hts⟩ (cL_platform_met l hl0 hA σ (xs (nI i + 1).toNatClampNeg) (xs (nI i + 2).toNatClampNeg) cL f hO hPM.hE) (vx_cwSW 4 hts gL_law_L_platform rfl rfl rfl hd_L_platformS ⟨Nat.le_trans (by decide) hfr, Nat.le_trans (by decide) hlo⟩) ⟨hw1_blind, hw1_pre hK hN hT hLw hG hR hNc hsz hS hP hPo hKo⟩ rfl rfl hl.1 rfl (lv_room (Nat.le_of_ble_eq_true rfl)) dL_law_896 ⟨by omega, by omega⟩) hS (fun q _ h => aw1_ac h) (fun q h => aw1_ac h) (fun q _ h => aw1_ac h) (fun _ _ _ _ _ _ _ _ _ hw9 _ _ _ _ _ _ _ => hw9.elim) (fun r6 z1 t H locs ht hvm hw6 hB hz1 hk1 hS => ?_)
  obtain ⟨ok6, hw6⟩ := hw6
  obtain ⟨σ1, eσ1⟩ : ∃ z, z = z1.1 := ⟨_, rfl⟩
  obtain ⟨hB1, hB2⟩ := hB
  rw [← eσ1] at ok6 hw6 hB1
  have hP : va_P D vwCl (pool G (adH B0) σ1) H := ho_at ht hB1
  have hPo : va_P D vwCl [(B0+290, .inl (cL, 1, .inr (.inl z1.2)))] H := by rw [← ht]; exact hB2
  have hPd := hPd.kept (fun k q hk => hk1 q.1 (vx_lt hPd hk) (wo_o21 hk))
  refine lv_istore (lv' := [(6, .int r6), (5, .int (nI i)), (4, .ref (B0+291)), (3, .ref (B0+290)), (2, .ref (adH B0 279)), (1, .ref (adH B0 270)), (0, .ref b)]) hx hb dL_law_899 hl (by decide) rfl (fun ls hl => ?_)
  refine lv_aload_n hx hb dL_law_901 rfl (lv_at hl 4 rfl) ?_
  refine lv_aload_n hx hb dL_law_902 rfl (lv_at hl 6 rfl) ?_
  refine lv_iload hx hb dL_law_903 (lv_at hl 1 rfl) ?_
  refine lv_iconst (v := 1) hx hb dL_law_905 (by decide) ?_
  refine lv_iadd hx hb dL_law_906 ?_
  refine va_sld hx hb hX hbl hbA hS (in_scr hi hL (k := 1) (by decide)) dL_law_907 ?_
  refine lv_aload_n hx hb dL_law_908 rfl (lv_at hl 6 rfl) ?_
  refine lv_iload hx hb dL_law_909 (lv_at hl 1 rfl) ?_
  refine lv_iconst (v := 2) hx hb dL_law_911 (by decide) ?_
  refine lv_iadd hx hb dL_law_912 ?_
  refine va_sld hx hb hX hbl hbA hS (in_scr hi hL (k := 2) (by decide)) dL_law_913 ?_
  have hls := ls_of (P := fun v => z1.2 0 = v.toInt64) hPM (cd2_i (by decide)) hw6
  obtain ⟨hT1, h16, h490, hval⟩ := hls
  have hu : va_up σ1 16 (σ 16) = σ1 := by rw [← h16]; exact up_eta σ1 16
  rw [← hu] at hP
  refine va_calli (va_runV (As := [.int (xs (nI i + 1).toNatClampNeg), .int (xs (nI i + 2).toNatClampNeg)]) (rest := []) ⟨hx, hb, hml, hown, hts⟩ (c7_platform l hA σ1 (σ 16) (xs (nI i + 1).toNatClampNeg) (xs (nI i + 2).toNatClampNeg) hO.2.2) (cwV 2 hts gL_law_X7_platform rfl rfl rfl hd_X7_platformV ⟨Nat.le_trans (by decide) hfr, Nat.le_trans (by decide) hlo⟩) ⟨hp_blind, va_recv hK hP (ci := 9) (q0 := 279) rfl c_279, hp_pre hK hN hP⟩ rfl rfl hl.1 rfl (lv_room (Nat.le_of_ble_eq_true rfl)) dL_law_914 ⟨by omega, by omega⟩) hS (fun q _ h => aa_ac h) (fun q h => aa_ac h) (fun r7 u7 t H locs ht hvm hw7 hB hz1 hk1 hS => ?_)
  have hP : va_P D vwCl (pool G (adH B0) (va_up σ1 16 u7)) H := ho_at ht hB
  have hPo := hPo.kept (fun k q hk => hk1 q.1 (vx_lt hPo hk) (wo_out1 hk))
  have hPd := hPd.kept (fun k q hk => hk1 q.1 (vx_lt hPd hk) (wo_out2 hk))
  obtain ⟨eq7, ok7⟩ := hw7
  rw [← eq7] at hT1 h490 hval
  refine lv_istore (lv' := [(7, .int r7), (6, .int r6), (5, .int (nI i)), (4, .ref (B0+291)), (3, .ref (B0+290)), (2, .ref (adH B0 279)), (1, .ref (adH B0 270)), (0, .ref b)]) hx hb dL_law_917 hl (by decide) rfl (fun ls hl => ?_)
  refine lv_aload_n hx hb dL_law_919 rfl (lv_at hl 5 rfl) ?_
  refine va_calli (va_runV (As := []) (rest := []) ⟨hx, hb, hml, hown, hts⟩ (c7_thrown l hA σ1 u7) (cwV 0 hts gL_law_X7_thrown rfl rfl rfl hd_X7_thrownV ⟨Nat.le_trans (by decide) hfr, Nat.le_trans (by decide) hlo⟩) ⟨hp_blind, va_recv hK hP (ci := 9) (q0 := 279) rfl c_279, hp_pre hK hN hP⟩ rfl rfl hl.1 rfl (lv_room (Nat.le_of_ble_eq_true rfl)) dL_law_920 ⟨by omega, by omega⟩) hS (fun q _ h => aa_ac h) (fun q h => aa_ac h) (fun r8 _ t H locs ht hvm hw8 hB hz1 hk1 hS => ?_)
  have hP : va_P D vwCl (pool G (adH B0) (va_up σ1 16 u7)) H := ho_at ht hB
  have hPo := hPo.kept (fun k q hk => hk1 q.1 (vx_lt hPo hk) (wo_out1 hk))
  have hPd := hPd.kept (fun k q hk => hk1 q.1 (vx_lt hPd hk) (wo_out2 hk))
  refine lv_iload hx hb dL_law_923 (lv_at hl 1 rfl) ?_
  refine lv_icmp_eq (tgt := 930) hx hb dL_law_925 (by decide) (fun c9 => ?_) (fun c9 => absurd (hw8.trans h490) c9)
  have hdone : ∀ (k0 n0 : Nat), k0 ≤ cells + 4 → n0 ≤ slots + 24 → ∀ ls2 : Array Slot, lv_has ls2 8 [(7, .int r7), (6, .int r6), (5, .int (nI i)), (4, .ref (B0+291)), (3, .ref (B0+290)), (2, .ref (adH B0 279)), (1, .ref (adH B0 270)), (0, .ref b)] → W p l e R s m args below meth c H locs k0 n0 Q (F0 m 2317 ls2 []) := fun k0 n0 hk0 hn0 ls2 hl2 => W.widen (k := cells + 4) (n := slots + 24) hk0 hn0 (cont _ z1.2 g H locs ls2 ⟨hP, hPo, hPd, (top_16 hT1).mono (by omega), okS_16 ok6 ok7⟩ hS (lv_sub hl2 [2, 3, 4, 5, 6, 7] rfl))
  refine lv_iload hx hb dL_law_930 (lv_at hl 1 rfl) ?_
  refine lv_if_ne (tgt := 947) hx hb dL_law_932 (by decide) (fun c8 => ?_) (fun c8 => ?_)
  · refine lv_goto (tgt := 2317) hx hb dL_law_947 (by decide) ?_
    exact hdone _ _ (by omega) (by omega) ls hl
  obtain ⟨v9, hv9, rfl⟩ := hval c8
  refine lv_aload_n hx hb dL_law_935 rfl (lv_at hl 4 rfl) ?_
  refine lv_iconst (v := 0) hx hb dL_law_936 (by decide) ?_
  refine va_lald (tys := [(cL, .long)]) hx hb hKo hPo 0 0 rfl rfl (vp_in_iff.mpr (by decide)) dL_law_937 ?_
  have hv9 : z1.2 (0 : Int32).toNatClampNeg = _ := hv9
  rw [hv9]
  refine lv_iload hx hb dL_law_938 (lv_at hl 0 rfl) ?_
  refine lv_i2l (v := v9.toInt64) hx hb dL_law_940 rfl ?_
  refine W.lcmp hx hb dL_law_941 ?_
  refine lv_if_eq (tgt := 947) hx hb dL_law_942 (by decide) (fun c7 => ?_) (fun c7 => absurd (lg_cmp_self _) c7)
  refine lv_goto (tgt := 2317) hx hb dL_law_947 (by decide) ?_
  exact hdone _ _ (by omega) (by omega) ls hl
set_option maxHeartbeats 2000000 in
set_option maxRecDepth 100000 in
theorem law_10 {p : Program} {l : Launch} {e : Env} {R : Room} {s : State} {m : MethodId} {args : Array Value} {below : List Frame} {meth : Method} {c : Code} {Q : State → Prop} (hl0 : l.stackTraces = false) {D : va_G} {G : CY} {B0 b L i cells slots : Nat} {xs : Nat → Int32} {cL cD : ClassId} {K : Int} {σ : Nat → Nat → Int32} {f : Nat → Int64} {g : Nat → UInt64} {H : Heap} {locs : List Loc} {ls : Array Slot}
    (hx : p.tables.exec = Jvm.exec) (hb : c.code = code) (hml : c.maxLocals = 8) (hown : s.vm.findClass RL = some m.cls) (hts : ∀ w ∈ lw_tbl, w.before args s = true) (hLA : LA D G B0 cL cD b L xs s) (hLI : LI D G B0 cL cD K σ f g H) (hS : va_S (AC B0) s.heap H locs) (hl : lv_has ls 8 [(5, .int (nI i)), (4, .ref (B0+291)), (3, .ref (B0+290)), (2, .ref (adH B0 279)), (1, .ref (adH B0 270)), (0, .ref b)]) (hi : i + 7 ≤ L) (hL : L ≤ 3584) (hK8 : K ≤ 800000000) (hfr : 20 ≤ R.frames) (hlo : 400 ≤ R.locals) (hce : cells + 4 ≤ R.cells) (hsl : slots + 24 ≤ R.slots)
    (cont : ∀ (σ2 : Nat → Nat → Int32) (f2 : Nat → Int64) (g2 : Nat → UInt64) (H2 : Heap) (locs2 : List Loc) (ls2 : Array Slot), LI D G B0 cL cD (K+500000) σ2 f2 g2 H2 → va_S (AC B0) s.heap H2 locs2 → lv_has ls2 8 [(5, .int (nI i)), (4, .ref (B0+291)), (3, .ref (B0+290)), (2, .ref (adH B0 279)), (1, .ref (adH B0 270)), (0, .ref b)] → W p l e R s m args below meth c H2 locs2 (cells + 4) (slots + 24) Q (F0 m 2317 ls2 [])) : W p l e R s m args below meth c H locs cells slots Q (F0 m 950 ls []) := by
  obtain ⟨hK, hN, hT, hLw, ⟨adK, adV, hG, hR⟩, hNc, hKo, hKd, hX, hbl, hsz⟩ := id hLA
  obtain ⟨hP, hPo, hPd, hTop, hO⟩ := hLI
  have hA := adH_ok B0
  have hbA : ¬ AC B0 b := fun z => by have z : B0 ≤ b := z; omega
  refine lv_aload_n hx hb dL_law_950 rfl (lv_at hl 4 rfl) ?_
  refine lv_aload_n hx hb dL_law_951 rfl (lv_at hl 5 rfl) ?_
  refine lv_iload hx hb dL_law_952 (lv_at hl 0 rfl) ?_
  refine lv_iconst (v := 1) hx hb dL_law_954 (by decide) ?_
  refine lv_iadd hx hb dL_law_955 ?_
  refine va_sld hx hb hX hbl hbA hS (in_scr hi hL (k := 1) (by decide)) dL_law_956 ?_
  refine lv_aload_n hx hb dL_law_957 rfl (lv_at hl 2 rfl) ?_
  have hPM := t_count (a := (xs (nI i + 1).toNatClampNeg)) hTop
  refine vx_calli (vx_runSX (As := [.ref (adH B0 270), .int (xs (nI i + 1).toNatClampNeg), .ref (B0+290)]) (rest := []) ⟨hx, hb, hml, hown, hts⟩ (cL_count_met l hl0 hA σ (xs (nI i + 1).toNatClampNeg) cL f hO hPM.hE) (vx_cwSW 3 hts gL_law_L_count rfl rfl rfl hd_L_countS ⟨Nat.le_trans (by decide) hfr, Nat.le_trans (by decide) hlo⟩) ⟨hw1_blind, hw1_pre hK hN hT hLw hG hR hNc hsz hS hP hPo hKo⟩ rfl rfl hl.1 rfl (lv_room (Nat.le_of_ble_eq_true rfl)) dL_law_958 ⟨by omega, by omega⟩) hS (fun q _ h => aw1_ac h) (fun q h => aw1_ac h) (fun q _ h => aw1_ac h) (fun _ _ _ _ _ _ _ _ _ hw9 _ _ _ _ _ _ _ => hw9.elim) (fun r6 z1 t H locs ht hvm hw6 hB hz1 hk1 hS => ?_)
  obtain ⟨ok6, hw6⟩ := hw6
  obtain ⟨σ1, eσ1⟩ : ∃ z, z = z1.1 := ⟨_, rfl⟩
  obtain ⟨hB1, hB2⟩ := hB
  rw [← eσ1] at ok6 hw6 hB1
  have hP : va_P D vwCl (pool G (adH B0) σ1) H := ho_at ht hB1
  have hPo : va_P D vwCl [(B0+290, .inl (cL, 1, .inr (.inl z1.2)))] H := by rw [← ht]; exact hB2
  have hPd := hPd.kept (fun k q hk => hk1 q.1 (vx_lt hPd hk) (wo_o21 hk))
  refine lv_istore (lv' := [(6, .int r6), (5, .int (nI i)), (4, .ref (B0+291)), (3, .ref (B0+290)), (2, .ref (adH B0 279)), (1, .ref (adH B0 270)), (0, .ref b)]) hx hb dL_law_961 hl (by decide) rfl (fun ls hl => ?_)
  refine lv_aload_n hx hb dL_law_963 rfl (lv_at hl 4 rfl) ?_
  refine lv_aload_n hx hb dL_law_964 rfl (lv_at hl 6 rfl) ?_
  refine lv_iload hx hb dL_law_965 (lv_at hl 1 rfl) ?_
  refine lv_iconst (v := 1) hx hb dL_law_967 (by decide) ?_
  refine lv_iadd hx hb dL_law_968 ?_
  refine va_sld hx hb hX hbl hbA hS (in_scr hi hL (k := 1) (by decide)) dL_law_969 ?_
  have hls := ls_of (P := fun v => z1.2 0 = v.toInt64) hPM cd1_i hw6
  obtain ⟨hT1, h16, h490, hval⟩ := hls
  have hu : va_up σ1 16 (σ 16) = σ1 := by rw [← h16]; exact up_eta σ1 16
  rw [← hu] at hP
  refine va_calli (va_runV (As := [.int (xs (nI i + 1).toNatClampNeg)]) (rest := []) ⟨hx, hb, hml, hown, hts⟩ (c7_count l hA σ1 (σ 16) (xs (nI i + 1).toNatClampNeg) hO.2.2) (cwV 1 hts gL_law_X7_count rfl rfl rfl hd_X7_countV ⟨Nat.le_trans (by decide) hfr, Nat.le_trans (by decide) hlo⟩) ⟨hp_blind, va_recv hK hP (ci := 9) (q0 := 279) rfl c_279, hp_pre hK hN hP⟩ rfl rfl hl.1 rfl (lv_room (Nat.le_of_ble_eq_true rfl)) dL_law_970 ⟨by omega, by omega⟩) hS (fun q _ h => aa_ac h) (fun q h => aa_ac h) (fun r7 u7 t H locs ht hvm hw7 hB hz1 hk1 hS => ?_)
  have hP : va_P D vwCl (pool G (adH B0) (va_up σ1 16 u7)) H := ho_at ht hB
  have hPo := hPo.kept (fun k q hk => hk1 q.1 (vx_lt hPo hk) (wo_out1 hk))
  have hPd := hPd.kept (fun k q hk => hk1 q.1 (vx_lt hPd hk) (wo_out2 hk))
  obtain ⟨eq7, ok7⟩ := hw7
  rw [← eq7] at hT1 h490 hval
  refine lv_istore (lv' := [(7, .int r7), (6, .int r6), (5, .int (nI i)), (4, .ref (B0+291)), (3, .ref (B0+290)), (2, .ref (adH B0 279)), (1, .ref (adH B0 270)), (0, .ref b)]) hx hb dL_law_973 hl (by decide) rfl (fun ls hl => ?_)
  refine lv_aload_n hx hb dL_law_975 rfl (lv_at hl 5 rfl) ?_
  refine va_calli (va_runV (As := []) (rest := []) ⟨hx, hb, hml, hown, hts⟩ (c7_thrown l hA σ1 u7) (cwV 0 hts gL_law_X7_thrown rfl rfl rfl hd_X7_thrownV ⟨Nat.le_trans (by decide) hfr, Nat.le_trans (by decide) hlo⟩) ⟨hp_blind, va_recv hK hP (ci := 9) (q0 := 279) rfl c_279, hp_pre hK hN hP⟩ rfl rfl hl.1 rfl (lv_room (Nat.le_of_ble_eq_true rfl)) dL_law_976 ⟨by omega, by omega⟩) hS (fun q _ h => aa_ac h) (fun q h => aa_ac h) (fun r8 _ t H locs ht hvm hw8 hB hz1 hk1 hS => ?_)
  have hP : va_P D vwCl (pool G (adH B0) (va_up σ1 16 u7)) H := ho_at ht hB
  have hPo := hPo.kept (fun k q hk => hk1 q.1 (vx_lt hPo hk) (wo_out1 hk))
  have hPd := hPd.kept (fun k q hk => hk1 q.1 (vx_lt hPd hk) (wo_out2 hk))
  refine lv_iload hx hb dL_law_979 (lv_at hl 1 rfl) ?_
  refine lv_icmp_eq (tgt := 986) hx hb dL_law_981 (by decide) (fun c9 => ?_) (fun c9 => absurd (hw8.trans h490) c9)
  have hdone : ∀ (k0 n0 : Nat), k0 ≤ cells + 4 → n0 ≤ slots + 24 → ∀ ls2 : Array Slot, lv_has ls2 8 [(7, .int r7), (6, .int r6), (5, .int (nI i)), (4, .ref (B0+291)), (3, .ref (B0+290)), (2, .ref (adH B0 279)), (1, .ref (adH B0 270)), (0, .ref b)] → W p l e R s m args below meth c H locs k0 n0 Q (F0 m 2317 ls2 []) := fun k0 n0 hk0 hn0 ls2 hl2 => W.widen (k := cells + 4) (n := slots + 24) hk0 hn0 (cont _ z1.2 g H locs ls2 ⟨hP, hPo, hPd, (top_16 hT1).mono (by omega), okS_16 ok6 ok7⟩ hS (lv_sub hl2 [2, 3, 4, 5, 6, 7] rfl))
  refine lv_iload hx hb dL_law_986 (lv_at hl 1 rfl) ?_
  refine lv_if_ne (tgt := 1003) hx hb dL_law_988 (by decide) (fun c8 => ?_) (fun c8 => ?_)
  · refine lv_goto (tgt := 2317) hx hb dL_law_1003 (by decide) ?_
    exact hdone _ _ (by omega) (by omega) ls hl
  obtain ⟨v9, hv9, rfl⟩ := hval c8
  refine lv_aload_n hx hb dL_law_991 rfl (lv_at hl 4 rfl) ?_
  refine lv_iconst (v := 0) hx hb dL_law_992 (by decide) ?_
  refine va_lald (tys := [(cL, .long)]) hx hb hKo hPo 0 0 rfl rfl (vp_in_iff.mpr (by decide)) dL_law_993 ?_
  have hv9 : z1.2 (0 : Int32).toNatClampNeg = _ := hv9
  rw [hv9]
  refine lv_iload hx hb dL_law_994 (lv_at hl 0 rfl) ?_
  refine lv_i2l (v := v9.toInt64) hx hb dL_law_996 rfl ?_
  refine W.lcmp hx hb dL_law_997 ?_
  refine lv_if_eq (tgt := 1003) hx hb dL_law_998 (by decide) (fun c7 => ?_) (fun c7 => absurd (lg_cmp_self _) c7)
  refine lv_goto (tgt := 2317) hx hb dL_law_1003 (by decide) ?_
  exact hdone _ _ (by omega) (by omega) ls hl
set_option maxHeartbeats 2000000 in
set_option maxRecDepth 100000 in
theorem law_11 {p : Program} {l : Launch} {e : Env} {R : Room} {s : State} {m : MethodId} {args : Array Value} {below : List Frame} {meth : Method} {c : Code} {Q : State → Prop} (hl0 : l.stackTraces = false) {D : va_G} {G : CY} {B0 b L i cells slots : Nat} {xs : Nat → Int32} {cL cD : ClassId} {K : Int} {σ : Nat → Nat → Int32} {f : Nat → Int64} {g : Nat → UInt64} {H : Heap} {locs : List Loc} {ls : Array Slot}
    (hx : p.tables.exec = Jvm.exec) (hb : c.code = code) (hml : c.maxLocals = 8) (hown : s.vm.findClass RL = some m.cls) (hts : ∀ w ∈ lw_tbl, w.before args s = true) (hLA : LA D G B0 cL cD b L xs s) (hLI : LI D G B0 cL cD K σ f g H) (hS : va_S (AC B0) s.heap H locs) (hl : lv_has ls 8 [(5, .int (nI i)), (4, .ref (B0+291)), (3, .ref (B0+290)), (2, .ref (adH B0 279)), (1, .ref (adH B0 270)), (0, .ref b)]) (hi : i + 7 ≤ L) (hL : L ≤ 3584) (hK8 : K ≤ 800000000) (hfr : 20 ≤ R.frames) (hlo : 400 ≤ R.locals) (hce : cells + 4 ≤ R.cells) (hsl : slots + 24 ≤ R.slots)
    (cont : ∀ (σ2 : Nat → Nat → Int32) (f2 : Nat → Int64) (g2 : Nat → UInt64) (H2 : Heap) (locs2 : List Loc) (ls2 : Array Slot), LI D G B0 cL cD (K+500000) σ2 f2 g2 H2 → va_S (AC B0) s.heap H2 locs2 → lv_has ls2 8 [(5, .int (nI i)), (4, .ref (B0+291)), (3, .ref (B0+290)), (2, .ref (adH B0 279)), (1, .ref (adH B0 270)), (0, .ref b)] → W p l e R s m args below meth c H2 locs2 (cells + 4) (slots + 24) Q (F0 m 2317 ls2 [])) : W p l e R s m args below meth c H locs cells slots Q (F0 m 1006 ls []) := by
  obtain ⟨hK, hN, hT, hLw, ⟨adK, adV, hG, hR⟩, hNc, hKo, hKd, hX, hbl, hsz⟩ := id hLA
  obtain ⟨hP, hPo, hPd, hTop, hO⟩ := hLI
  have hA := adH_ok B0
  have hbA : ¬ AC B0 b := fun z => by have z : B0 ≤ b := z; omega
  refine lv_aload_n hx hb dL_law_1006 rfl (lv_at hl 4 rfl) ?_
  refine lv_aload_n hx hb dL_law_1007 rfl (lv_at hl 5 rfl) ?_
  refine lv_iload hx hb dL_law_1008 (lv_at hl 0 rfl) ?_
  refine lv_iconst (v := 1) hx hb dL_law_1010 (by decide) ?_
  refine lv_iadd hx hb dL_law_1011 ?_
  refine va_sld hx hb hX hbl hbA hS (in_scr hi hL (k := 1) (by decide)) dL_law_1012 ?_
  refine lv_aload_n hx hb dL_law_1013 rfl (lv_at hl 5 rfl) ?_
  refine lv_iload hx hb dL_law_1014 (lv_at hl 0 rfl) ?_
  refine lv_iconst (v := 2) hx hb dL_law_1016 (by decide) ?_
  refine lv_iadd hx hb dL_law_1017 ?_
  refine va_sld hx hb hX hbl hbA hS (in_scr hi hL (k := 2) (by decide)) dL_law_1018 ?_
  refine lv_aload_n hx hb dL_law_1019 rfl (lv_at hl 2 rfl) ?_
  have hPM := t_setS (a := (xs (nI i + 1).toNatClampNeg)) (b := (xs (nI i + 2).toNatClampNeg)) hTop
  refine vx_calli (vx_runSX (As := [.ref (adH B0 270), .int (xs (nI i + 1).toNatClampNeg), .int (xs (nI i + 2).toNatClampNeg), .ref (B0+290)]) (rest := []) ⟨hx, hb, hml, hown, hts⟩ (cL_set_met l hl0 hA σ (xs (nI i + 1).toNatClampNeg) (xs (nI i + 2).toNatClampNeg) cL f hO hPM.hE) (vx_cwSW 4 hts gL_law_L_set rfl rfl rfl hd_L_setS ⟨Nat.le_trans (by decide) hfr, Nat.le_trans (by decide) hlo⟩) ⟨hw1_blind, hw1_pre hK hN hT hLw hG hR hNc hsz hS hP hPo hKo⟩ rfl rfl hl.1 rfl (lv_room (Nat.le_of_ble_eq_true rfl)) dL_law_1020 ⟨by omega, by omega⟩) hS (fun q _ h => aw1_ac h) (fun q h => aw1_ac h) (fun q _ h => aw1_ac h) (fun _ _ _ _ _ _ _ _ _ hw9 _ _ _ _ _ _ _ => hw9.elim) (fun r6 z1 t H locs ht hvm hw6 hB hz1 hk1 hS => ?_)
  obtain ⟨ok6, hw6⟩ := hw6
  obtain ⟨σ1, eσ1⟩ : ∃ z, z = z1.1 := ⟨_, rfl⟩
  obtain ⟨hB1, hB2⟩ := hB
  rw [← eσ1] at ok6 hw6 hB1
  have hP : va_P D vwCl (pool G (adH B0) σ1) H := ho_at ht hB1
  have hPo : va_P D vwCl [(B0+290, .inl (cL, 1, .inr (.inl z1.2)))] H := by rw [← ht]; exact hB2
  have hPd := hPd.kept (fun k q hk => hk1 q.1 (vx_lt hPd hk) (wo_o21 hk))
  refine lv_istore (lv' := [(6, .int r6), (5, .int (nI i)), (4, .ref (B0+291)), (3, .ref (B0+290)), (2, .ref (adH B0 279)), (1, .ref (adH B0 270)), (0, .ref b)]) hx hb dL_law_1023 hl (by decide) rfl (fun ls hl => ?_)
  refine lv_aload_n hx hb dL_law_1025 rfl (lv_at hl 4 rfl) ?_
  refine lv_aload_n hx hb dL_law_1026 rfl (lv_at hl 6 rfl) ?_
  refine lv_iload hx hb dL_law_1027 (lv_at hl 1 rfl) ?_
  refine lv_iconst (v := 1) hx hb dL_law_1029 (by decide) ?_
  refine lv_iadd hx hb dL_law_1030 ?_
  refine va_sld hx hb hX hbl hbA hS (in_scr hi hL (k := 1) (by decide)) dL_law_1031 ?_
  refine lv_aload_n hx hb dL_law_1032 rfl (lv_at hl 6 rfl) ?_
  refine lv_iload hx hb dL_law_1033 (lv_at hl 1 rfl) ?_
  refine lv_iconst (v := 2) hx hb dL_law_1035 (by decide) ?_
  refine lv_iadd hx hb dL_law_1036 ?_
  refine va_sld hx hb hX hbl hbA hS (in_scr hi hL (k := 2) (by decide)) dL_law_1037 ?_
  have hls := ls_of (P := fun v => z1.2 0 = v.toInt64) hPM (cd2_i (by decide)) hw6
  obtain ⟨hT1, h16, h490, hval⟩ := hls
  have hu : va_up σ1 16 (σ 16) = σ1 := by rw [← h16]; exact up_eta σ1 16
  rw [← hu] at hP
  refine va_calli (va_runV (As := [.int (xs (nI i + 1).toNatClampNeg), .int (xs (nI i + 2).toNatClampNeg)]) (rest := []) ⟨hx, hb, hml, hown, hts⟩ (c7_set l hA σ1 (σ 16) (xs (nI i + 1).toNatClampNeg) (xs (nI i + 2).toNatClampNeg) hO.2.2) (cwV 2 hts gL_law_X7_set rfl rfl rfl hd_X7_setV ⟨Nat.le_trans (by decide) hfr, Nat.le_trans (by decide) hlo⟩) ⟨hp_blind, va_recv hK hP (ci := 9) (q0 := 279) rfl c_279, hp_pre hK hN hP⟩ rfl rfl hl.1 rfl (lv_room (Nat.le_of_ble_eq_true rfl)) dL_law_1038 ⟨by omega, by omega⟩) hS (fun q _ h => aa_ac h) (fun q h => aa_ac h) (fun r7 u7 t H locs ht hvm hw7 hB hz1 hk1 hS => ?_)
  have hP : va_P D vwCl (pool G (adH B0) (va_up σ1 16 u7)) H := ho_at ht hB
  have hPo := hPo.kept (fun k q hk => hk1 q.1 (vx_lt hPo hk) (wo_out1 hk))
  have hPd := hPd.kept (fun k q hk => hk1 q.1 (vx_lt hPd hk) (wo_out2 hk))
  obtain ⟨eq7, ok7⟩ := hw7
  rw [← eq7] at hT1 h490 hval
  refine lv_istore (lv' := [(7, .int r7), (6, .int r6), (5, .int (nI i)), (4, .ref (B0+291)), (3, .ref (B0+290)), (2, .ref (adH B0 279)), (1, .ref (adH B0 270)), (0, .ref b)]) hx hb dL_law_1041 hl (by decide) rfl (fun ls hl => ?_)
  refine lv_aload_n hx hb dL_law_1043 rfl (lv_at hl 5 rfl) ?_
  refine va_calli (va_runV (As := []) (rest := []) ⟨hx, hb, hml, hown, hts⟩ (c7_thrown l hA σ1 u7) (cwV 0 hts gL_law_X7_thrown rfl rfl rfl hd_X7_thrownV ⟨Nat.le_trans (by decide) hfr, Nat.le_trans (by decide) hlo⟩) ⟨hp_blind, va_recv hK hP (ci := 9) (q0 := 279) rfl c_279, hp_pre hK hN hP⟩ rfl rfl hl.1 rfl (lv_room (Nat.le_of_ble_eq_true rfl)) dL_law_1044 ⟨by omega, by omega⟩) hS (fun q _ h => aa_ac h) (fun q h => aa_ac h) (fun r8 _ t H locs ht hvm hw8 hB hz1 hk1 hS => ?_)
  have hP : va_P D vwCl (pool G (adH B0) (va_up σ1 16 u7)) H := ho_at ht hB
  have hPo := hPo.kept (fun k q hk => hk1 q.1 (vx_lt hPo hk) (wo_out1 hk))
  have hPd := hPd.kept (fun k q hk => hk1 q.1 (vx_lt hPd hk) (wo_out2 hk))
  refine lv_iload hx hb dL_law_1047 (lv_at hl 1 rfl) ?_
  refine lv_icmp_eq (tgt := 1054) hx hb dL_law_1049 (by decide) (fun c9 => ?_) (fun c9 => absurd (hw8.trans h490) c9)
  have hdone : ∀ (k0 n0 : Nat), k0 ≤ cells + 4 → n0 ≤ slots + 24 → ∀ ls2 : Array Slot, lv_has ls2 8 [(7, .int r7), (6, .int r6), (5, .int (nI i)), (4, .ref (B0+291)), (3, .ref (B0+290)), (2, .ref (adH B0 279)), (1, .ref (adH B0 270)), (0, .ref b)] → W p l e R s m args below meth c H locs k0 n0 Q (F0 m 2317 ls2 []) := fun k0 n0 hk0 hn0 ls2 hl2 => W.widen (k := cells + 4) (n := slots + 24) hk0 hn0 (cont _ z1.2 g H locs ls2 ⟨hP, hPo, hPd, (top_16 hT1).mono (by omega), okS_16 ok6 ok7⟩ hS (lv_sub hl2 [2, 3, 4, 5, 6, 7] rfl))
  refine lv_iload hx hb dL_law_1054 (lv_at hl 1 rfl) ?_
  refine lv_if_ne (tgt := 1071) hx hb dL_law_1056 (by decide) (fun c8 => ?_) (fun c8 => ?_)
  · refine lv_goto (tgt := 2317) hx hb dL_law_1071 (by decide) ?_
    exact hdone _ _ (by omega) (by omega) ls hl
  obtain ⟨v9, hv9, rfl⟩ := hval c8
  refine lv_aload_n hx hb dL_law_1059 rfl (lv_at hl 4 rfl) ?_
  refine lv_iconst (v := 0) hx hb dL_law_1060 (by decide) ?_
  refine va_lald (tys := [(cL, .long)]) hx hb hKo hPo 0 0 rfl rfl (vp_in_iff.mpr (by decide)) dL_law_1061 ?_
  have hv9 : z1.2 (0 : Int32).toNatClampNeg = _ := hv9
  rw [hv9]
  refine lv_iload hx hb dL_law_1062 (lv_at hl 0 rfl) ?_
  refine lv_i2l (v := v9.toInt64) hx hb dL_law_1064 rfl ?_
  refine W.lcmp hx hb dL_law_1065 ?_
  refine lv_if_eq (tgt := 1071) hx hb dL_law_1066 (by decide) (fun c7 => ?_) (fun c7 => absurd (lg_cmp_self _) c7)
  refine lv_goto (tgt := 2317) hx hb dL_law_1071 (by decide) ?_
  exact hdone _ _ (by omega) (by omega) ls hl
set_option maxHeartbeats 2000000 in
set_option maxRecDepth 100000 in
theorem law_13 {p : Program} {l : Launch} {e : Env} {R : Room} {s : State} {m : MethodId} {args : Array Value} {below : List Frame} {meth : Method} {c : Code} {Q : State → Prop} (hl0 : l.stackTraces = false) {D : va_G} {G : CY} {B0 b L i cells slots : Nat} {xs : Nat → Int32} {cL cD : ClassId} {K : Int} {σ : Nat → Nat → Int32} {f : Nat → Int64} {g : Nat → UInt64} {H : Heap} {locs : List Loc} {ls : Array Slot}
    (hx : p.tables.exec = Jvm.exec) (hb : c.code = code) (hml : c.maxLocals = 8) (hown : s.vm.findClass RL = some m.cls) (hts : ∀ w ∈ lw_tbl, w.before args s = true) (hLA : LA D G B0 cL cD b L xs s) (hLI : LI D G B0 cL cD K σ f g H) (hS : va_S (AC B0) s.heap H locs) (hl : lv_has ls 8 [(5, .int (nI i)), (4, .ref (B0+291)), (3, .ref (B0+290)), (2, .ref (adH B0 279)), (1, .ref (adH B0 270)), (0, .ref b)]) (hi : i + 7 ≤ L) (hL : L ≤ 3584) (hK8 : K ≤ 800000000) (hfr : 20 ≤ R.frames) (hlo : 400 ≤ R.locals) (hce : cells + 4 ≤ R.cells) (hsl : slots + 24 ≤ R.slots)
    (cont : ∀ (σ2 : Nat → Nat → Int32) (f2 : Nat → Int64) (g2 : Nat → UInt64) (H2 : Heap) (locs2 : List Loc) (ls2 : Array Slot), LI D G B0 cL cD (K+500000) σ2 f2 g2 H2 → va_S (AC B0) s.heap H2 locs2 → lv_has ls2 8 [(5, .int (nI i)), (4, .ref (B0+291)), (3, .ref (B0+290)), (2, .ref (adH B0 279)), (1, .ref (adH B0 270)), (0, .ref b)] → W p l e R s m args below meth c H2 locs2 (cells + 4) (slots + 24) Q (F0 m 2317 ls2 [])) : W p l e R s m args below meth c H locs cells slots Q (F0 m 1130 ls []) := by
  obtain ⟨hK, hN, hT, hLw, ⟨adK, adV, hG, hR⟩, hNc, hKo, hKd, hX, hbl, hsz⟩ := id hLA
  obtain ⟨hP, hPo, hPd, hTop, hO⟩ := hLI
  have hA := adH_ok B0
  have hbA : ¬ AC B0 b := fun z => by have z : B0 ≤ b := z; omega
  refine lv_aload_n hx hb dL_law_1130 rfl (lv_at hl 4 rfl) ?_
  refine lv_aload_n hx hb dL_law_1131 rfl (lv_at hl 5 rfl) ?_
  refine lv_iload hx hb dL_law_1132 (lv_at hl 0 rfl) ?_
  refine lv_iconst (v := 1) hx hb dL_law_1134 (by decide) ?_
  refine lv_iadd hx hb dL_law_1135 ?_
  refine va_sld hx hb hX hbl hbA hS (in_scr hi hL (k := 1) (by decide)) dL_law_1136 ?_
  refine lv_aload_n hx hb dL_law_1137 rfl (lv_at hl 5 rfl) ?_
  refine lv_iload hx hb dL_law_1138 (lv_at hl 0 rfl) ?_
  refine lv_iconst (v := 2) hx hb dL_law_1140 (by decide) ?_
  refine lv_iadd hx hb dL_law_1141 ?_
  refine va_sld hx hb hX hbl hbA hS (in_scr hi hL (k := 2) (by decide)) dL_law_1142 ?_
  refine lv_aload_n hx hb dL_law_1143 rfl (lv_at hl 2 rfl) ?_
  have hPM := t_tickUntilStanding (a := (xs (nI i + 1).toNatClampNeg)) (b := (xs (nI i + 2).toNatClampNeg)) hTop (by omega)
  refine vx_calli (vx_runSX (As := [.ref (adH B0 270), .int (xs (nI i + 1).toNatClampNeg), .int (xs (nI i + 2).toNatClampNeg), .ref (B0+290)]) (rest := []) ⟨hx, hb, hml, hown, hts⟩ (cL_tickUntilStanding_met l hl0 hA σ (xs (nI i + 1).toNatClampNeg) (xs (nI i + 2).toNatClampNeg) cL f hO hPM.hE) (vx_cwSW 4 hts gL_law_L_tickUntilStanding rfl rfl rfl hd_L_tickUntilStandingS ⟨Nat.le_trans (by decide) hfr, Nat.le_trans (by decide) hlo⟩) ⟨hw1_blind, hw1_pre hK hN hT hLw hG hR hNc hsz hS hP hPo hKo⟩ rfl rfl hl.1 rfl (lv_room (Nat.le_of_ble_eq_true rfl)) dL_law_1144 ⟨by omega, by omega⟩) hS (fun q _ h => aw1_ac h) (fun q h => aw1_ac h) (fun q _ h => aw1_ac h) (fun _ _ _ _ _ _ _ _ _ hw9 _ _ _ _ _ _ _ => hw9.elim) (fun r6 z1 t H locs ht hvm hw6 hB hz1 hk1 hS => ?_)
  obtain ⟨ok6, hw6⟩ := hw6
  obtain ⟨σ1, eσ1⟩ : ∃ z, z = z1.1 := ⟨_, rfl⟩
  obtain ⟨hB1, hB2⟩ := hB
  rw [← eσ1] at ok6 hw6 hB1
  have hP : va_P D vwCl (pool G (adH B0) σ1) H := ho_at ht hB1
  have hPo : va_P D vwCl [(B0+290, .inl (cL, 1, .inr (.inl z1.2)))] H := by rw [← ht]; exact hB2
  have hPd := hPd.kept (fun k q hk => hk1 q.1 (vx_lt hPd hk) (wo_o21 hk))
  refine lv_istore (lv' := [(6, .int r6), (5, .int (nI i)), (4, .ref (B0+291)), (3, .ref (B0+290)), (2, .ref (adH B0 279)), (1, .ref (adH B0 270)), (0, .ref b)]) hx hb dL_law_1147 hl (by decide) rfl (fun ls hl => ?_)
  refine lv_aload_n hx hb dL_law_1149 rfl (lv_at hl 4 rfl) ?_
  refine lv_aload_n hx hb dL_law_1150 rfl (lv_at hl 6 rfl) ?_
  refine lv_iload hx hb dL_law_1151 (lv_at hl 1 rfl) ?_
  refine lv_iconst (v := 1) hx hb dL_law_1153 (by decide) ?_
  refine lv_iadd hx hb dL_law_1154 ?_
  refine va_sld hx hb hX hbl hbA hS (in_scr hi hL (k := 1) (by decide)) dL_law_1155 ?_
  refine lv_aload_n hx hb dL_law_1156 rfl (lv_at hl 6 rfl) ?_
  refine lv_iload hx hb dL_law_1157 (lv_at hl 1 rfl) ?_
  refine lv_iconst (v := 2) hx hb dL_law_1159 (by decide) ?_
  refine lv_iadd hx hb dL_law_1160 ?_
  refine va_sld hx hb hX hbl hbA hS (in_scr hi hL (k := 2) (by decide)) dL_law_1161 ?_
  have hls := ls_of (P := fun v => z1.2 0 = v.toInt64) hPM (cd3_i (by decide) (by decide) (by decide)) hw6
  obtain ⟨hT1, h16, h490, hval⟩ := hls
  have hu : va_up σ1 16 (σ 16) = σ1 := by rw [← h16]; exact up_eta σ1 16
  rw [← hu] at hP
  refine va_calli (va_runV (As := [.int (xs (nI i + 1).toNatClampNeg), .int (xs (nI i + 2).toNatClampNeg)]) (rest := []) ⟨hx, hb, hml, hown, hts⟩ (c7_tickUntilStanding l hA σ1 (σ 16) (xs (nI i + 1).toNatClampNeg) (xs (nI i + 2).toNatClampNeg) hO.2.2) (cwV 2 hts gL_law_X7_tickUntilStanding rfl rfl rfl hd_X7_tickUntilStandingV ⟨Nat.le_trans (by decide) hfr, Nat.le_trans (by decide) hlo⟩) ⟨hp_blind, va_recv hK hP (ci := 9) (q0 := 279) rfl c_279, hp_pre hK hN hP⟩ rfl rfl hl.1 rfl (lv_room (Nat.le_of_ble_eq_true rfl)) dL_law_1162 ⟨by omega, by omega⟩) hS (fun q _ h => aa_ac h) (fun q h => aa_ac h) (fun r7 u7 t H locs ht hvm hw7 hB hz1 hk1 hS => ?_)
  have hP : va_P D vwCl (pool G (adH B0) (va_up σ1 16 u7)) H := ho_at ht hB
  have hPo := hPo.kept (fun k q hk => hk1 q.1 (vx_lt hPo hk) (wo_out1 hk))
  have hPd := hPd.kept (fun k q hk => hk1 q.1 (vx_lt hPd hk) (wo_out2 hk))
  obtain ⟨eq7, ok7⟩ := hw7
  rw [← eq7] at hT1 h490 hval
  refine lv_istore (lv' := [(7, .int r7), (6, .int r6), (5, .int (nI i)), (4, .ref (B0+291)), (3, .ref (B0+290)), (2, .ref (adH B0 279)), (1, .ref (adH B0 270)), (0, .ref b)]) hx hb dL_law_1165 hl (by decide) rfl (fun ls hl => ?_)
  refine lv_aload_n hx hb dL_law_1167 rfl (lv_at hl 5 rfl) ?_
  refine va_calli (va_runV (As := []) (rest := []) ⟨hx, hb, hml, hown, hts⟩ (c7_thrown l hA σ1 u7) (cwV 0 hts gL_law_X7_thrown rfl rfl rfl hd_X7_thrownV ⟨Nat.le_trans (by decide) hfr, Nat.le_trans (by decide) hlo⟩) ⟨hp_blind, va_recv hK hP (ci := 9) (q0 := 279) rfl c_279, hp_pre hK hN hP⟩ rfl rfl hl.1 rfl (lv_room (Nat.le_of_ble_eq_true rfl)) dL_law_1168 ⟨by omega, by omega⟩) hS (fun q _ h => aa_ac h) (fun q h => aa_ac h) (fun r8 _ t H locs ht hvm hw8 hB hz1 hk1 hS => ?_)
  have hP : va_P D vwCl (pool G (adH B0) (va_up σ1 16 u7)) H := ho_at ht hB
  have hPo := hPo.kept (fun k q hk => hk1 q.1 (vx_lt hPo hk) (wo_out1 hk))
  have hPd := hPd.kept (fun k q hk => hk1 q.1 (vx_lt hPd hk) (wo_out2 hk))
  refine lv_iload hx hb dL_law_1171 (lv_at hl 1 rfl) ?_
  refine lv_icmp_eq (tgt := 1178) hx hb dL_law_1173 (by decide) (fun c9 => ?_) (fun c9 => absurd (hw8.trans h490) c9)
  have hdone : ∀ (k0 n0 : Nat), k0 ≤ cells + 4 → n0 ≤ slots + 24 → ∀ ls2 : Array Slot, lv_has ls2 8 [(7, .int r7), (6, .int r6), (5, .int (nI i)), (4, .ref (B0+291)), (3, .ref (B0+290)), (2, .ref (adH B0 279)), (1, .ref (adH B0 270)), (0, .ref b)] → W p l e R s m args below meth c H locs k0 n0 Q (F0 m 2317 ls2 []) := fun k0 n0 hk0 hn0 ls2 hl2 => W.widen (k := cells + 4) (n := slots + 24) hk0 hn0 (cont _ z1.2 g H locs ls2 ⟨hP, hPo, hPd, (top_16 hT1).mono (by omega), okS_16 ok6 ok7⟩ hS (lv_sub hl2 [2, 3, 4, 5, 6, 7] rfl))
  refine lv_iload hx hb dL_law_1178 (lv_at hl 1 rfl) ?_
  refine lv_if_ne (tgt := 1195) hx hb dL_law_1180 (by decide) (fun c8 => ?_) (fun c8 => ?_)
  · refine lv_goto (tgt := 2317) hx hb dL_law_1195 (by decide) ?_
    exact hdone _ _ (by omega) (by omega) ls hl
  obtain ⟨v9, hv9, rfl⟩ := hval c8
  refine lv_aload_n hx hb dL_law_1183 rfl (lv_at hl 4 rfl) ?_
  refine lv_iconst (v := 0) hx hb dL_law_1184 (by decide) ?_
  refine va_lald (tys := [(cL, .long)]) hx hb hKo hPo 0 0 rfl rfl (vp_in_iff.mpr (by decide)) dL_law_1185 ?_
  have hv9 : z1.2 (0 : Int32).toNatClampNeg = _ := hv9
  rw [hv9]
  refine lv_iload hx hb dL_law_1186 (lv_at hl 0 rfl) ?_
  refine lv_i2l (v := v9.toInt64) hx hb dL_law_1188 rfl ?_
  refine W.lcmp hx hb dL_law_1189 ?_
  refine lv_if_eq (tgt := 1195) hx hb dL_law_1190 (by decide) (fun c7 => ?_) (fun c7 => absurd (lg_cmp_self _) c7)
  refine lv_goto (tgt := 2317) hx hb dL_law_1195 (by decide) ?_
  exact hdone _ _ (by omega) (by omega) ls hl
set_option maxHeartbeats 2000000 in
set_option maxRecDepth 100000 in
theorem law_14 {p : Program} {l : Launch} {e : Env} {R : Room} {s : State} {m : MethodId} {args : Array Value} {below : List Frame} {meth : Method} {c : Code} {Q : State → Prop} (hl0 : l.stackTraces = false) {D : va_G} {G : CY} {B0 b L i cells slots : Nat} {xs : Nat → Int32} {cL cD : ClassId} {K : Int} {σ : Nat → Nat → Int32} {f : Nat → Int64} {g : Nat → UInt64} {H : Heap} {locs : List Loc} {ls : Array Slot}
    (hx : p.tables.exec = Jvm.exec) (hb : c.code = code) (hml : c.maxLocals = 8) (hown : s.vm.findClass RL = some m.cls) (hts : ∀ w ∈ lw_tbl, w.before args s = true) (hLA : LA D G B0 cL cD b L xs s) (hLI : LI D G B0 cL cD K σ f g H) (hS : va_S (AC B0) s.heap H locs) (hl : lv_has ls 8 [(5, .int (nI i)), (4, .ref (B0+291)), (3, .ref (B0+290)), (2, .ref (adH B0 279)), (1, .ref (adH B0 270)), (0, .ref b)]) (hi : i + 7 ≤ L) (hL : L ≤ 3584) (hK8 : K ≤ 800000000) (hfr : 20 ≤ R.frames) (hlo : 400 ≤ R.locals) (hce : cells + 4 ≤ R.cells) (hsl : slots + 24 ≤ R.slots)
    (cont : ∀ (σ2 : Nat → Nat → Int32) (f2 : Nat → Int64) (g2 : Nat → UInt64) (H2 : Heap) (locs2 : List Loc) (ls2 : Array Slot), LI D G B0 cL cD (K+500000) σ2 f2 g2 H2 → va_S (AC B0) s.heap H2 locs2 → lv_has ls2 8 [(5, .int (nI i)), (4, .ref (B0+291)), (3, .ref (B0+290)), (2, .ref (adH B0 279)), (1, .ref (adH B0 270)), (0, .ref b)] → W p l e R s m args below meth c H2 locs2 (cells + 4) (slots + 24) Q (F0 m 2317 ls2 [])) : W p l e R s m args below meth c H locs cells slots Q (F0 m 1198 ls []) := by
  obtain ⟨hK, hN, hT, hLw, ⟨adK, adV, hG, hR⟩, hNc, hKo, hKd, hX, hbl, hsz⟩ := id hLA
  obtain ⟨hP, hPo, hPd, hTop, hO⟩ := hLI
  have hA := adH_ok B0
  have hbA : ¬ AC B0 b := fun z => by have z : B0 ≤ b := z; omega
  refine lv_aload_n hx hb dL_law_1198 rfl (lv_at hl 4 rfl) ?_
  refine lv_aload_n hx hb dL_law_1199 rfl (lv_at hl 2 rfl) ?_
  have hPM := t_undo  hTop
  refine vx_calli (vx_runSX (As := [.ref (adH B0 270), .ref (B0+290)]) (rest := []) ⟨hx, hb, hml, hown, hts⟩ (cL_undo_met l hl0 hA σ  cL f hO hPM.hE) (vx_cwSW 2 hts gL_law_L_undo rfl rfl rfl hd_L_undoS ⟨Nat.le_trans (by decide) hfr, Nat.le_trans (by decide) hlo⟩) ⟨hw1_blind, hw1_pre hK hN hT hLw hG hR hNc hsz hS hP hPo hKo⟩ rfl rfl hl.1 rfl (lv_room (Nat.le_of_ble_eq_true rfl)) dL_law_1200 ⟨by omega, by omega⟩) hS (fun q _ h => aw1_ac h) (fun q h => aw1_ac h) (fun q _ h => aw1_ac h) (fun _ _ _ _ _ _ _ _ _ hw9 _ _ _ _ _ _ _ => hw9.elim) (fun r6 z1 t H locs ht hvm hw6 hB hz1 hk1 hS => ?_)
  obtain ⟨ok6, hw6⟩ := hw6
  obtain ⟨σ1, eσ1⟩ : ∃ z, z = z1.1 := ⟨_, rfl⟩
  obtain ⟨hB1, hB2⟩ := hB
  rw [← eσ1] at ok6 hw6 hB1
  have hP : va_P D vwCl (pool G (adH B0) σ1) H := ho_at ht hB1
  have hPo : va_P D vwCl [(B0+290, .inl (cL, 1, .inr (.inl z1.2)))] H := by rw [← ht]; exact hB2
  have hPd := hPd.kept (fun k q hk => hk1 q.1 (vx_lt hPd hk) (wo_o21 hk))
  refine lv_istore (lv' := [(6, .int r6), (5, .int (nI i)), (4, .ref (B0+291)), (3, .ref (B0+290)), (2, .ref (adH B0 279)), (1, .ref (adH B0 270)), (0, .ref b)]) hx hb dL_law_1203 hl (by decide) rfl (fun ls hl => ?_)
  refine lv_aload_n hx hb dL_law_1205 rfl (lv_at hl 4 rfl) ?_
  have hls := ls_of (P := fun v => z1.2 0 = v.toInt64) hPM cd1_i hw6
  obtain ⟨hT1, h16, h490, hval⟩ := hls
  have hu : va_up σ1 16 (σ 16) = σ1 := by rw [← h16]; exact up_eta σ1 16
  rw [← hu] at hP
  refine va_calli (va_runV (As := []) (rest := []) ⟨hx, hb, hml, hown, hts⟩ (c7_undo l hA σ1 (σ 16)  hO.2.2) (cwV 0 hts gL_law_X7_undo rfl rfl rfl hd_X7_undoV ⟨Nat.le_trans (by decide) hfr, Nat.le_trans (by decide) hlo⟩) ⟨hp_blind, va_recv hK hP (ci := 9) (q0 := 279) rfl c_279, hp_pre hK hN hP⟩ rfl rfl hl.1 rfl (lv_room (Nat.le_of_ble_eq_true rfl)) dL_law_1206 ⟨by omega, by omega⟩) hS (fun q _ h => aa_ac h) (fun q h => aa_ac h) (fun r7 u7 t H locs ht hvm hw7 hB hz1 hk1 hS => ?_)
  have hP : va_P D vwCl (pool G (adH B0) (va_up σ1 16 u7)) H := ho_at ht hB
  have hPo := hPo.kept (fun k q hk => hk1 q.1 (vx_lt hPo hk) (wo_out1 hk))
  have hPd := hPd.kept (fun k q hk => hk1 q.1 (vx_lt hPd hk) (wo_out2 hk))
  obtain ⟨eq7, ok7⟩ := hw7
  rw [← eq7] at hT1 h490 hval
  refine lv_istore (lv' := [(7, .int r7), (6, .int r6), (5, .int (nI i)), (4, .ref (B0+291)), (3, .ref (B0+290)), (2, .ref (adH B0 279)), (1, .ref (adH B0 270)), (0, .ref b)]) hx hb dL_law_1209 hl (by decide) rfl (fun ls hl => ?_)
  refine lv_aload_n hx hb dL_law_1211 rfl (lv_at hl 5 rfl) ?_
  refine va_calli (va_runV (As := []) (rest := []) ⟨hx, hb, hml, hown, hts⟩ (c7_thrown l hA σ1 u7) (cwV 0 hts gL_law_X7_thrown rfl rfl rfl hd_X7_thrownV ⟨Nat.le_trans (by decide) hfr, Nat.le_trans (by decide) hlo⟩) ⟨hp_blind, va_recv hK hP (ci := 9) (q0 := 279) rfl c_279, hp_pre hK hN hP⟩ rfl rfl hl.1 rfl (lv_room (Nat.le_of_ble_eq_true rfl)) dL_law_1212 ⟨by omega, by omega⟩) hS (fun q _ h => aa_ac h) (fun q h => aa_ac h) (fun r8 _ t H locs ht hvm hw8 hB hz1 hk1 hS => ?_)
  have hP : va_P D vwCl (pool G (adH B0) (va_up σ1 16 u7)) H := ho_at ht hB
  have hPo := hPo.kept (fun k q hk => hk1 q.1 (vx_lt hPo hk) (wo_out1 hk))
  have hPd := hPd.kept (fun k q hk => hk1 q.1 (vx_lt hPd hk) (wo_out2 hk))
  refine lv_iload hx hb dL_law_1215 (lv_at hl 1 rfl) ?_
  refine lv_icmp_eq (tgt := 1222) hx hb dL_law_1217 (by decide) (fun c9 => ?_) (fun c9 => absurd (hw8.trans h490) c9)
  have hdone : ∀ (k0 n0 : Nat), k0 ≤ cells + 4 → n0 ≤ slots + 24 → ∀ ls2 : Array Slot, lv_has ls2 8 [(7, .int r7), (6, .int r6), (5, .int (nI i)), (4, .ref (B0+291)), (3, .ref (B0+290)), (2, .ref (adH B0 279)), (1, .ref (adH B0 270)), (0, .ref b)] → W p l e R s m args below meth c H locs k0 n0 Q (F0 m 2317 ls2 []) := fun k0 n0 hk0 hn0 ls2 hl2 => W.widen (k := cells + 4) (n := slots + 24) hk0 hn0 (cont _ z1.2 g H locs ls2 ⟨hP, hPo, hPd, (top_16 hT1).mono (by omega), okS_16 ok6 ok7⟩ hS (lv_sub hl2 [2, 3, 4, 5, 6, 7] rfl))
  refine lv_iload hx hb dL_law_1222 (lv_at hl 1 rfl) ?_
  refine lv_if_ne (tgt := 1239) hx hb dL_law_1224 (by decide) (fun c8 => ?_) (fun c8 => ?_)
  · refine lv_goto (tgt := 2317) hx hb dL_law_1239 (by decide) ?_
    exact hdone _ _ (by omega) (by omega) ls hl
  obtain ⟨v9, hv9, rfl⟩ := hval c8
  refine lv_aload_n hx hb dL_law_1227 rfl (lv_at hl 4 rfl) ?_
  refine lv_iconst (v := 0) hx hb dL_law_1228 (by decide) ?_
  refine va_lald (tys := [(cL, .long)]) hx hb hKo hPo 0 0 rfl rfl (vp_in_iff.mpr (by decide)) dL_law_1229 ?_
  have hv9 : z1.2 (0 : Int32).toNatClampNeg = _ := hv9
  rw [hv9]
  refine lv_iload hx hb dL_law_1230 (lv_at hl 0 rfl) ?_
  refine lv_i2l (v := v9.toInt64) hx hb dL_law_1232 rfl ?_
  refine W.lcmp hx hb dL_law_1233 ?_
  refine lv_if_eq (tgt := 1239) hx hb dL_law_1234 (by decide) (fun c7 => ?_) (fun c7 => absurd (lg_cmp_self _) c7)
  refine lv_goto (tgt := 2317) hx hb dL_law_1239 (by decide) ?_
  exact hdone _ _ (by omega) (by omega) ls hl
set_option maxHeartbeats 2000000 in
set_option maxRecDepth 100000 in
theorem law_15 {p : Program} {l : Launch} {e : Env} {R : Room} {s : State} {m : MethodId} {args : Array Value} {below : List Frame} {meth : Method} {c : Code} {Q : State → Prop} (hl0 : l.stackTraces = false) {D : va_G} {G : CY} {B0 b L i cells slots : Nat} {xs : Nat → Int32} {cL cD : ClassId} {K : Int} {σ : Nat → Nat → Int32} {f : Nat → Int64} {g : Nat → UInt64} {H : Heap} {locs : List Loc} {ls : Array Slot}
    (hx : p.tables.exec = Jvm.exec) (hb : c.code = code) (hml : c.maxLocals = 8) (hown : s.vm.findClass RL = some m.cls) (hts : ∀ w ∈ lw_tbl, w.before args s = true) (hLA : LA D G B0 cL cD b L xs s) (hLI : LI D G B0 cL cD K σ f g H) (hS : va_S (AC B0) s.heap H locs) (hl : lv_has ls 8 [(5, .int (nI i)), (4, .ref (B0+291)), (3, .ref (B0+290)), (2, .ref (adH B0 279)), (1, .ref (adH B0 270)), (0, .ref b)]) (hi : i + 7 ≤ L) (hL : L ≤ 3584) (hK8 : K ≤ 800000000) (hfr : 20 ≤ R.frames) (hlo : 400 ≤ R.locals) (hce : cells + 4 ≤ R.cells) (hsl : slots + 24 ≤ R.slots)
    (cont : ∀ (σ2 : Nat → Nat → Int32) (f2 : Nat → Int64) (g2 : Nat → UInt64) (H2 : Heap) (locs2 : List Loc) (ls2 : Array Slot), LI D G B0 cL cD (K+500000) σ2 f2 g2 H2 → va_S (AC B0) s.heap H2 locs2 → lv_has ls2 8 [(5, .int (nI i)), (4, .ref (B0+291)), (3, .ref (B0+290)), (2, .ref (adH B0 279)), (1, .ref (adH B0 270)), (0, .ref b)] → W p l e R s m args below meth c H2 locs2 (cells + 4) (slots + 24) Q (F0 m 2317 ls2 [])) : W p l e R s m args below meth c H locs cells slots Q (F0 m 1242 ls []) := by
  obtain ⟨hK, hN, hT, hLw, ⟨adK, adV, hG, hR⟩, hNc, hKo, hKd, hX, hbl, hsz⟩ := id hLA
  obtain ⟨hP, hPo, hPd, hTop, hO⟩ := hLI
  have hA := adH_ok B0
  have hbA : ¬ AC B0 b := fun z => by have z : B0 ≤ b := z; omega
  refine lv_aload_n hx hb dL_law_1242 rfl (lv_at hl 4 rfl) ?_
  obtain ⟨tv, tt⟩ := t_clock hTop
  refine va_calli (va_runV (As := []) (rest := []) ⟨hx, hb, hml, hown, hts⟩ (c6_clock l hA σ hO) (cwV 0 hts gL_law_X6_clock rfl rfl rfl hd_X6_clockV ⟨Nat.le_trans (by decide) hfr, Nat.le_trans (by decide) hlo⟩) ⟨hp_blind, va_recv hK hP (ci := 8) (q0 := 270) rfl g_270, hp_pre hK hN hP⟩ rfl rfl hl.1 rfl (lv_room (Nat.le_of_ble_eq_true rfl)) dL_law_1243 ⟨by omega, by omega⟩) hS (fun q _ h => aa_ac h) (fun q h => aa_ac h) (fun r6 _ t H locs ht hvm hw6 hB hz1 hk1 hS => ?_)
  have hP : va_P D vwCl (pool G (adH B0) σ) H := ho_at ht hB
  have hu : va_up σ 16 (σ 16) = σ := up_eta σ 16
  have hPo := hPo.kept (fun k q hk => hk1 q.1 (vx_lt hPo hk) (wo_out1 hk))
  have hPd := hPd.kept (fun k q hk => hk1 q.1 (vx_lt hPd hk) (wo_out2 hk))
  refine lv_aload_n hx hb dL_law_1246 rfl (lv_at hl 3 rfl) ?_
  rw [← hu] at hP
  refine va_calli (va_runV (As := []) (rest := [.int r6]) ⟨hx, hb, hml, hown, hts⟩ (c7_clock l hA σ (σ 16) hO.2.2) (cwV 0 hts gL_law_X7_clock rfl rfl rfl hd_X7_clockV ⟨Nat.le_trans (by decide) hfr, Nat.le_trans (by decide) hlo⟩) ⟨hp_blind, va_recv hK hP (ci := 9) (q0 := 279) rfl c_279, hp_pre hK hN hP⟩ rfl rfl hl.1 rfl (lv_room (Nat.le_of_ble_eq_true rfl)) dL_law_1247 ⟨by omega, by omega⟩) hS (fun q _ h => aa_ac h) (fun q h => aa_ac h) (fun r7 u7 t H locs ht hvm hw7 hB hz1 hk1 hS => ?_)
  have hP : va_P D vwCl (pool G (adH B0) (va_up σ 16 u7)) H := ho_at ht hB
  have hPo := hPo.kept (fun k q hk => hk1 q.1 (vx_lt hPo hk) (wo_out1 hk))
  have hPd := hPd.kept (fun k q hk => hk1 q.1 (vx_lt hPd hk) (wo_out2 hk))
  obtain ⟨eq7, ok7⟩ := hw7
  rw [← eq7] at tv tt
  refine lv_icmp_eq (tgt := 2317) hx hb dL_law_1250 (by decide) (fun c9 => ?_) (fun c9 => absurd (hw6.trans tv) c9)
  refine W.widen (k := cells + 4) (n := slots + 24) (by omega) (by omega) (cont _ f g H locs ls ⟨hP, hPo, hPd, (top_16 tt).mono (by omega), okS_16 hO ok7⟩ hS hl)
set_option maxHeartbeats 2000000 in
set_option maxRecDepth 100000 in
theorem law_16 {p : Program} {l : Launch} {e : Env} {R : Room} {s : State} {m : MethodId} {args : Array Value} {below : List Frame} {meth : Method} {c : Code} {Q : State → Prop} (hl0 : l.stackTraces = false) {D : va_G} {G : CY} {B0 b L i cells slots : Nat} {xs : Nat → Int32} {cL cD : ClassId} {K : Int} {σ : Nat → Nat → Int32} {f : Nat → Int64} {g : Nat → UInt64} {H : Heap} {locs : List Loc} {ls : Array Slot}
    (hx : p.tables.exec = Jvm.exec) (hb : c.code = code) (hml : c.maxLocals = 8) (hown : s.vm.findClass RL = some m.cls) (hts : ∀ w ∈ lw_tbl, w.before args s = true) (hLA : LA D G B0 cL cD b L xs s) (hLI : LI D G B0 cL cD K σ f g H) (hS : va_S (AC B0) s.heap H locs) (hl : lv_has ls 8 [(5, .int (nI i)), (4, .ref (B0+291)), (3, .ref (B0+290)), (2, .ref (adH B0 279)), (1, .ref (adH B0 270)), (0, .ref b)]) (hi : i + 7 ≤ L) (hL : L ≤ 3584) (hK8 : K ≤ 800000000) (hfr : 20 ≤ R.frames) (hlo : 400 ≤ R.locals) (hce : cells + 4 ≤ R.cells) (hsl : slots + 24 ≤ R.slots)
    (cont : ∀ (σ2 : Nat → Nat → Int32) (f2 : Nat → Int64) (g2 : Nat → UInt64) (H2 : Heap) (locs2 : List Loc) (ls2 : Array Slot), LI D G B0 cL cD (K+500000) σ2 f2 g2 H2 → va_S (AC B0) s.heap H2 locs2 → lv_has ls2 8 [(5, .int (nI i)), (4, .ref (B0+291)), (3, .ref (B0+290)), (2, .ref (adH B0 279)), (1, .ref (adH B0 270)), (0, .ref b)] → W p l e R s m args below meth c H2 locs2 (cells + 4) (slots + 24) Q (F0 m 2317 ls2 [])) : W p l e R s m args below meth c H locs cells slots Q (F0 m 1255 ls []) := by
  obtain ⟨hK, hN, hT, hLw, ⟨adK, adV, hG, hR⟩, hNc, hKo, hKd, hX, hbl, hsz⟩ := id hLA
  obtain ⟨hP, hPo, hPd, hTop, hO⟩ := hLI
  have hA := adH_ok B0
  have hbA : ¬ AC B0 b := fun z => by have z : B0 ≤ b := z; omega
  refine lv_aload_n hx hb dL_law_1255 rfl (lv_at hl 4 rfl) ?_
  refine lv_aload_n hx hb dL_law_1256 rfl (lv_at hl 5 rfl) ?_
  refine lv_iload hx hb dL_law_1257 (lv_at hl 0 rfl) ?_
  refine lv_iconst (v := 1) hx hb dL_law_1259 (by decide) ?_
  refine lv_iadd hx hb dL_law_1260 ?_
  refine va_sld hx hb hX hbl hbA hS (in_scr hi hL (k := 1) (by decide)) dL_law_1261 ?_
  refine lv_aload_n hx hb dL_law_1262 rfl (lv_at hl 2 rfl) ?_
  have hPM := t_support (a := (xs (nI i + 1).toNatClampNeg)) hTop (by omega)
  refine vx_calli (vx_runSX (As := [.ref (adH B0 270), .int (xs (nI i + 1).toNatClampNeg), .ref (B0+290)]) (rest := []) ⟨hx, hb, hml, hown, hts⟩ (cL_support_met l hl0 hA σ (xs (nI i + 1).toNatClampNeg) cL f hO hPM.hE) (vx_cwSW 3 hts gL_law_L_support rfl rfl rfl hd_L_supportS ⟨Nat.le_trans (by decide) hfr, Nat.le_trans (by decide) hlo⟩) ⟨hw1_blind, hw1_pre hK hN hT hLw hG hR hNc hsz hS hP hPo hKo⟩ rfl rfl hl.1 rfl (lv_room (Nat.le_of_ble_eq_true rfl)) dL_law_1263 ⟨by omega, by omega⟩) hS (fun q _ h => aw1_ac h) (fun q h => aw1_ac h) (fun q _ h => aw1_ac h) (fun _ _ _ _ _ _ _ _ _ hw9 _ _ _ _ _ _ _ => hw9.elim) (fun r6 z1 t H locs ht hvm hw6 hB hz1 hk1 hS => ?_)
  obtain ⟨ok6, hw6⟩ := hw6
  obtain ⟨σ1, eσ1⟩ : ∃ z, z = z1.1 := ⟨_, rfl⟩
  obtain ⟨hB1, hB2⟩ := hB
  rw [← eσ1] at ok6 hw6 hB1
  have hP : va_P D vwCl (pool G (adH B0) σ1) H := ho_at ht hB1
  have hPo : va_P D vwCl [(B0+290, .inl (cL, 1, .inr (.inl z1.2)))] H := by rw [← ht]; exact hB2
  have hPd := hPd.kept (fun k q hk => hk1 q.1 (vx_lt hPd hk) (wo_o21 hk))
  refine lv_istore (lv' := [(6, .int r6), (5, .int (nI i)), (4, .ref (B0+291)), (3, .ref (B0+290)), (2, .ref (adH B0 279)), (1, .ref (adH B0 270)), (0, .ref b)]) hx hb dL_law_1266 hl (by decide) rfl (fun ls hl => ?_)
  refine lv_aload_n hx hb dL_law_1268 rfl (lv_at hl 4 rfl) ?_
  refine lv_aload_n hx hb dL_law_1269 rfl (lv_at hl 6 rfl) ?_
  refine lv_iload hx hb dL_law_1270 (lv_at hl 1 rfl) ?_
  refine lv_iconst (v := 1) hx hb dL_law_1272 (by decide) ?_
  refine lv_iadd hx hb dL_law_1273 ?_
  refine va_sld hx hb hX hbl hbA hS (in_scr hi hL (k := 1) (by decide)) dL_law_1274 ?_
  have hls := ls_of (P := fun v => z1.2 0 = v.toInt64) hPM cd1_i hw6
  obtain ⟨hT1, h16, h490, hval⟩ := hls
  have hu : va_up σ1 16 (σ 16) = σ1 := by rw [← h16]; exact up_eta σ1 16
  rw [← hu] at hP
  refine va_calli (va_runV (As := [.int (xs (nI i + 1).toNatClampNeg)]) (rest := []) ⟨hx, hb, hml, hown, hts⟩ (c7_support l hA σ1 (σ 16) (xs (nI i + 1).toNatClampNeg) hO.2.2) (cwV 1 hts gL_law_X7_support rfl rfl rfl hd_X7_supportV ⟨Nat.le_trans (by decide) hfr, Nat.le_trans (by decide) hlo⟩) ⟨hp_blind, va_recv hK hP (ci := 9) (q0 := 279) rfl c_279, hp_pre hK hN hP⟩ rfl rfl hl.1 rfl (lv_room (Nat.le_of_ble_eq_true rfl)) dL_law_1275 ⟨by omega, by omega⟩) hS (fun q _ h => aa_ac h) (fun q h => aa_ac h) (fun r7 u7 t H locs ht hvm hw7 hB hz1 hk1 hS => ?_)
  have hP : va_P D vwCl (pool G (adH B0) (va_up σ1 16 u7)) H := ho_at ht hB
  have hPo := hPo.kept (fun k q hk => hk1 q.1 (vx_lt hPo hk) (wo_out1 hk))
  have hPd := hPd.kept (fun k q hk => hk1 q.1 (vx_lt hPd hk) (wo_out2 hk))
  obtain ⟨eq7, ok7⟩ := hw7
  rw [← eq7] at hT1 h490 hval
  refine lv_istore (lv' := [(7, .int r7), (6, .int r6), (5, .int (nI i)), (4, .ref (B0+291)), (3, .ref (B0+290)), (2, .ref (adH B0 279)), (1, .ref (adH B0 270)), (0, .ref b)]) hx hb dL_law_1278 hl (by decide) rfl (fun ls hl => ?_)
  refine lv_aload_n hx hb dL_law_1280 rfl (lv_at hl 5 rfl) ?_
  refine va_calli (va_runV (As := []) (rest := []) ⟨hx, hb, hml, hown, hts⟩ (c7_thrown l hA σ1 u7) (cwV 0 hts gL_law_X7_thrown rfl rfl rfl hd_X7_thrownV ⟨Nat.le_trans (by decide) hfr, Nat.le_trans (by decide) hlo⟩) ⟨hp_blind, va_recv hK hP (ci := 9) (q0 := 279) rfl c_279, hp_pre hK hN hP⟩ rfl rfl hl.1 rfl (lv_room (Nat.le_of_ble_eq_true rfl)) dL_law_1281 ⟨by omega, by omega⟩) hS (fun q _ h => aa_ac h) (fun q h => aa_ac h) (fun r8 _ t H locs ht hvm hw8 hB hz1 hk1 hS => ?_)
  have hP : va_P D vwCl (pool G (adH B0) (va_up σ1 16 u7)) H := ho_at ht hB
  have hPo := hPo.kept (fun k q hk => hk1 q.1 (vx_lt hPo hk) (wo_out1 hk))
  have hPd := hPd.kept (fun k q hk => hk1 q.1 (vx_lt hPd hk) (wo_out2 hk))
  refine lv_iload hx hb dL_law_1284 (lv_at hl 1 rfl) ?_
  refine lv_icmp_eq (tgt := 1291) hx hb dL_law_1286 (by decide) (fun c9 => ?_) (fun c9 => absurd (hw8.trans h490) c9)
  have hdone : ∀ (k0 n0 : Nat), k0 ≤ cells + 4 → n0 ≤ slots + 24 → ∀ ls2 : Array Slot, lv_has ls2 8 [(7, .int r7), (6, .int r6), (5, .int (nI i)), (4, .ref (B0+291)), (3, .ref (B0+290)), (2, .ref (adH B0 279)), (1, .ref (adH B0 270)), (0, .ref b)] → W p l e R s m args below meth c H locs k0 n0 Q (F0 m 2317 ls2 []) := fun k0 n0 hk0 hn0 ls2 hl2 => W.widen (k := cells + 4) (n := slots + 24) hk0 hn0 (cont _ z1.2 g H locs ls2 ⟨hP, hPo, hPd, (top_16 hT1).mono (by omega), okS_16 ok6 ok7⟩ hS (lv_sub hl2 [2, 3, 4, 5, 6, 7] rfl))
  refine lv_iload hx hb dL_law_1291 (lv_at hl 1 rfl) ?_
  refine lv_if_ne (tgt := 1308) hx hb dL_law_1293 (by decide) (fun c8 => ?_) (fun c8 => ?_)
  · refine lv_goto (tgt := 2317) hx hb dL_law_1308 (by decide) ?_
    exact hdone _ _ (by omega) (by omega) ls hl
  obtain ⟨v9, hv9, rfl⟩ := hval c8
  refine lv_aload_n hx hb dL_law_1296 rfl (lv_at hl 4 rfl) ?_
  refine lv_iconst (v := 0) hx hb dL_law_1297 (by decide) ?_
  refine va_lald (tys := [(cL, .long)]) hx hb hKo hPo 0 0 rfl rfl (vp_in_iff.mpr (by decide)) dL_law_1298 ?_
  have hv9 : z1.2 (0 : Int32).toNatClampNeg = _ := hv9
  rw [hv9]
  refine lv_iload hx hb dL_law_1299 (lv_at hl 0 rfl) ?_
  refine lv_i2l (v := v9.toInt64) hx hb dL_law_1301 rfl ?_
  refine W.lcmp hx hb dL_law_1302 ?_
  refine lv_if_eq (tgt := 1308) hx hb dL_law_1303 (by decide) (fun c7 => ?_) (fun c7 => absurd (lg_cmp_self _) c7)
  refine lv_goto (tgt := 2317) hx hb dL_law_1308 (by decide) ?_
  exact hdone _ _ (by omega) (by omega) ls hl
set_option maxHeartbeats 2000000 in
set_option maxRecDepth 100000 in
theorem law_17 {p : Program} {l : Launch} {e : Env} {R : Room} {s : State} {m : MethodId} {args : Array Value} {below : List Frame} {meth : Method} {c : Code} {Q : State → Prop} (hl0 : l.stackTraces = false) {D : va_G} {G : CY} {B0 b L i cells slots : Nat} {xs : Nat → Int32} {cL cD : ClassId} {K : Int} {σ : Nat → Nat → Int32} {f : Nat → Int64} {g : Nat → UInt64} {H : Heap} {locs : List Loc} {ls : Array Slot}
    (hx : p.tables.exec = Jvm.exec) (hb : c.code = code) (hml : c.maxLocals = 8) (hown : s.vm.findClass RL = some m.cls) (hts : ∀ w ∈ lw_tbl, w.before args s = true) (hLA : LA D G B0 cL cD b L xs s) (hLI : LI D G B0 cL cD K σ f g H) (hS : va_S (AC B0) s.heap H locs) (hl : lv_has ls 8 [(5, .int (nI i)), (4, .ref (B0+291)), (3, .ref (B0+290)), (2, .ref (adH B0 279)), (1, .ref (adH B0 270)), (0, .ref b)]) (hi : i + 7 ≤ L) (hL : L ≤ 3584) (hK8 : K ≤ 800000000) (hfr : 20 ≤ R.frames) (hlo : 400 ≤ R.locals) (hce : cells + 4 ≤ R.cells) (hsl : slots + 24 ≤ R.slots)
    (cont : ∀ (σ2 : Nat → Nat → Int32) (f2 : Nat → Int64) (g2 : Nat → UInt64) (H2 : Heap) (locs2 : List Loc) (ls2 : Array Slot), LI D G B0 cL cD (K+500000) σ2 f2 g2 H2 → va_S (AC B0) s.heap H2 locs2 → lv_has ls2 8 [(5, .int (nI i)), (4, .ref (B0+291)), (3, .ref (B0+290)), (2, .ref (adH B0 279)), (1, .ref (adH B0 270)), (0, .ref b)] → W p l e R s m args below meth c H2 locs2 (cells + 4) (slots + 24) Q (F0 m 2317 ls2 [])) : W p l e R s m args below meth c H locs cells slots Q (F0 m 1311 ls []) := by
  obtain ⟨hK, hN, hT, hLw, ⟨adK, adV, hG, hR⟩, hNc, hKo, hKd, hX, hbl, hsz⟩ := id hLA
  obtain ⟨hP, hPo, hPd, hTop, hO⟩ := hLI
  have hA := adH_ok B0
  have hbA : ¬ AC B0 b := fun z => by have z : B0 ≤ b := z; omega
  refine lv_aload_n hx hb dL_law_1311 rfl (lv_at hl 4 rfl) ?_
  refine lv_aload_n hx hb dL_law_1312 rfl (lv_at hl 5 rfl) ?_
  refine lv_iload hx hb dL_law_1313 (lv_at hl 0 rfl) ?_
  refine lv_iconst (v := 1) hx hb dL_law_1315 (by decide) ?_
  refine lv_iadd hx hb dL_law_1316 ?_
  refine va_sld hx hb hX hbl hbA hS (in_scr hi hL (k := 1) (by decide)) dL_law_1317 ?_
  refine lv_aload_n hx hb dL_law_1318 rfl (lv_at hl 2 rfl) ?_
  have hPM := t_stands (a := (xs (nI i + 1).toNatClampNeg)) hTop (by omega)
  refine vx_calli (vx_runSX (As := [.ref (adH B0 270), .int (xs (nI i + 1).toNatClampNeg), .ref (B0+290)]) (rest := []) ⟨hx, hb, hml, hown, hts⟩ (cL_stands_met l hl0 hA σ (xs (nI i + 1).toNatClampNeg) cL f hO hPM.hE) (vx_cwSW 3 hts gL_law_L_stands rfl rfl rfl hd_L_standsS ⟨Nat.le_trans (by decide) hfr, Nat.le_trans (by decide) hlo⟩) ⟨hw1_blind, hw1_pre hK hN hT hLw hG hR hNc hsz hS hP hPo hKo⟩ rfl rfl hl.1 rfl (lv_room (Nat.le_of_ble_eq_true rfl)) dL_law_1319 ⟨by omega, by omega⟩) hS (fun q _ h => aw1_ac h) (fun q h => aw1_ac h) (fun q _ h => aw1_ac h) (fun _ _ _ _ _ _ _ _ _ hw9 _ _ _ _ _ _ _ => hw9.elim) (fun r6 z1 t H locs ht hvm hw6 hB hz1 hk1 hS => ?_)
  obtain ⟨ok6, hw6⟩ := hw6
  obtain ⟨σ1, eσ1⟩ : ∃ z, z = z1.1 := ⟨_, rfl⟩
  obtain ⟨hB1, hB2⟩ := hB
  rw [← eσ1] at ok6 hw6 hB1
  have hP : va_P D vwCl (pool G (adH B0) σ1) H := ho_at ht hB1
  have hPo : va_P D vwCl [(B0+290, .inl (cL, 1, .inr (.inl z1.2)))] H := by rw [← ht]; exact hB2
  have hPd := hPd.kept (fun k q hk => hk1 q.1 (vx_lt hPd hk) (wo_o21 hk))
  refine lv_istore (lv' := [(6, .int r6), (5, .int (nI i)), (4, .ref (B0+291)), (3, .ref (B0+290)), (2, .ref (adH B0 279)), (1, .ref (adH B0 270)), (0, .ref b)]) hx hb dL_law_1322 hl (by decide) rfl (fun ls hl => ?_)
  refine lv_aload_n hx hb dL_law_1324 rfl (lv_at hl 4 rfl) ?_
  refine lv_aload_n hx hb dL_law_1325 rfl (lv_at hl 6 rfl) ?_
  refine lv_iload hx hb dL_law_1326 (lv_at hl 1 rfl) ?_
  refine lv_iconst (v := 1) hx hb dL_law_1328 (by decide) ?_
  refine lv_iadd hx hb dL_law_1329 ?_
  refine va_sld hx hb hX hbl hbA hS (in_scr hi hL (k := 1) (by decide)) dL_law_1330 ?_
  have hls := ls_of (P := fun v => z1.2 0 = (if v = 0 then 0 else 1)) hPM cd1_i hw6
  obtain ⟨hT1, h16, h490, hval⟩ := hls
  have hu : va_up σ1 16 (σ 16) = σ1 := by rw [← h16]; exact up_eta σ1 16
  rw [← hu] at hP
  refine va_calli (va_runV (As := [.int (xs (nI i + 1).toNatClampNeg)]) (rest := []) ⟨hx, hb, hml, hown, hts⟩ (c7_stands l hA σ1 (σ 16) (xs (nI i + 1).toNatClampNeg) hO.2.2) (cwV 1 hts gL_law_X7_stands rfl rfl rfl hd_X7_standsV ⟨Nat.le_trans (by decide) hfr, Nat.le_trans (by decide) hlo⟩) ⟨hp_blind, va_recv hK hP (ci := 9) (q0 := 279) rfl c_279, hp_pre hK hN hP⟩ rfl rfl hl.1 rfl (lv_room (Nat.le_of_ble_eq_true rfl)) dL_law_1331 ⟨by omega, by omega⟩) hS (fun q _ h => aa_ac h) (fun q h => aa_ac h) (fun r7 u7 t H locs ht hvm hw7 hB hz1 hk1 hS => ?_)
  have hP : va_P D vwCl (pool G (adH B0) (va_up σ1 16 u7)) H := ho_at ht hB
  have hPo := hPo.kept (fun k q hk => hk1 q.1 (vx_lt hPo hk) (wo_out1 hk))
  have hPd := hPd.kept (fun k q hk => hk1 q.1 (vx_lt hPd hk) (wo_out2 hk))
  obtain ⟨eq7, ok7, bl7⟩ := hw7
  rw [← eq7] at hT1 h490 hval
  refine lv_istore (lv' := [(7, .int r7), (6, .int r6), (5, .int (nI i)), (4, .ref (B0+291)), (3, .ref (B0+290)), (2, .ref (adH B0 279)), (1, .ref (adH B0 270)), (0, .ref b)]) hx hb dL_law_1334 hl (by decide) rfl (fun ls hl => ?_)
  refine lv_aload_n hx hb dL_law_1336 rfl (lv_at hl 5 rfl) ?_
  refine va_calli (va_runV (As := []) (rest := []) ⟨hx, hb, hml, hown, hts⟩ (c7_thrown l hA σ1 u7) (cwV 0 hts gL_law_X7_thrown rfl rfl rfl hd_X7_thrownV ⟨Nat.le_trans (by decide) hfr, Nat.le_trans (by decide) hlo⟩) ⟨hp_blind, va_recv hK hP (ci := 9) (q0 := 279) rfl c_279, hp_pre hK hN hP⟩ rfl rfl hl.1 rfl (lv_room (Nat.le_of_ble_eq_true rfl)) dL_law_1337 ⟨by omega, by omega⟩) hS (fun q _ h => aa_ac h) (fun q h => aa_ac h) (fun r8 _ t H locs ht hvm hw8 hB hz1 hk1 hS => ?_)
  have hP : va_P D vwCl (pool G (adH B0) (va_up σ1 16 u7)) H := ho_at ht hB
  have hPo := hPo.kept (fun k q hk => hk1 q.1 (vx_lt hPo hk) (wo_out1 hk))
  have hPd := hPd.kept (fun k q hk => hk1 q.1 (vx_lt hPd hk) (wo_out2 hk))
  refine lv_iload hx hb dL_law_1340 (lv_at hl 1 rfl) ?_
  refine lv_icmp_eq (tgt := 1347) hx hb dL_law_1342 (by decide) (fun c9 => ?_) (fun c9 => absurd (hw8.trans h490) c9)
  have hdone : ∀ (k0 n0 : Nat), k0 ≤ cells + 4 → n0 ≤ slots + 24 → ∀ ls2 : Array Slot, lv_has ls2 8 [(7, .int r7), (6, .int r6), (5, .int (nI i)), (4, .ref (B0+291)), (3, .ref (B0+290)), (2, .ref (adH B0 279)), (1, .ref (adH B0 270)), (0, .ref b)] → W p l e R s m args below meth c H locs k0 n0 Q (F0 m 2317 ls2 []) := fun k0 n0 hk0 hn0 ls2 hl2 => W.widen (k := cells + 4) (n := slots + 24) hk0 hn0 (cont _ z1.2 g H locs ls2 ⟨hP, hPo, hPd, (top_16 hT1).mono (by omega), okS_16 ok6 ok7⟩ hS (lv_sub hl2 [2, 3, 4, 5, 6, 7] rfl))
  refine lv_iload hx hb dL_law_1347 (lv_at hl 1 rfl) ?_
  refine lv_if_ne (tgt := 1371) hx hb dL_law_1349 (by decide) (fun c8 => ?_) (fun c8 => ?_)
  · refine lv_goto (tgt := 2317) hx hb dL_law_1371 (by decide) ?_
    exact hdone _ _ (by omega) (by omega) ls hl
  obtain ⟨v9, hv9, rfl⟩ := hval c8
  refine lv_aload_n hx hb dL_law_1352 rfl (lv_at hl 4 rfl) ?_
  refine lv_iconst (v := 0) hx hb dL_law_1353 (by decide) ?_
  refine va_lald (tys := [(cL, .long)]) hx hb hKo hPo 0 0 rfl rfl (vp_in_iff.mpr (by decide)) dL_law_1354 ?_
  have hv9 : z1.2 (0 : Int32).toNatClampNeg = _ := hv9
  rw [hv9]
  refine lv_iload hx hb dL_law_1355 (lv_at hl 0 rfl) ?_
  refine lv_if_eq (tgt := 1364) hx hb dL_law_1357 (by decide) (fun c7 => ?_) (fun c7 => ?_)
  · rw [if_pos c7]
    refine lv_lconst (v := 0) hx hb dL_law_1364 (by decide) ?_
    refine W.lcmp hx hb dL_law_1365 ?_
    refine lv_if_eq (tgt := 1371) hx hb dL_law_1366 (by decide) (fun c7 => ?_) (fun c7 => absurd (lg_cmp_self _) c7)
    refine lv_goto (tgt := 2317) hx hb dL_law_1371 (by decide) ?_
    exact hdone _ _ (by omega) (by omega) ls hl
  · rw [if_neg c7]
    refine lv_lconst (v := 1) hx hb dL_law_1360 (by decide) ?_
    refine lv_goto (tgt := 1365) hx hb dL_law_1361 (by decide) ?_
    refine W.lcmp hx hb dL_law_1365 ?_
    refine lv_if_eq (tgt := 1371) hx hb dL_law_1366 (by decide) (fun c7 => ?_) (fun c7 => absurd (lg_cmp_self _) c7)
    refine lv_goto (tgt := 2317) hx hb dL_law_1371 (by decide) ?_
    exact hdone _ _ (by omega) (by omega) ls hl
set_option maxHeartbeats 2000000 in
set_option maxRecDepth 100000 in
theorem law_18 {p : Program} {l : Launch} {e : Env} {R : Room} {s : State} {m : MethodId} {args : Array Value} {below : List Frame} {meth : Method} {c : Code} {Q : State → Prop} (hl0 : l.stackTraces = false) {D : va_G} {G : CY} {B0 b L i cells slots : Nat} {xs : Nat → Int32} {cL cD : ClassId} {K : Int} {σ : Nat → Nat → Int32} {f : Nat → Int64} {g : Nat → UInt64} {H : Heap} {locs : List Loc} {ls : Array Slot}
    (hx : p.tables.exec = Jvm.exec) (hb : c.code = code) (hml : c.maxLocals = 8) (hown : s.vm.findClass RL = some m.cls) (hts : ∀ w ∈ lw_tbl, w.before args s = true) (hLA : LA D G B0 cL cD b L xs s) (hLI : LI D G B0 cL cD K σ f g H) (hS : va_S (AC B0) s.heap H locs) (hl : lv_has ls 8 [(5, .int (nI i)), (4, .ref (B0+291)), (3, .ref (B0+290)), (2, .ref (adH B0 279)), (1, .ref (adH B0 270)), (0, .ref b)]) (hi : i + 7 ≤ L) (hL : L ≤ 3584) (hK8 : K ≤ 800000000) (hfr : 20 ≤ R.frames) (hlo : 400 ≤ R.locals) (hce : cells + 4 ≤ R.cells) (hsl : slots + 24 ≤ R.slots)
    (cont : ∀ (σ2 : Nat → Nat → Int32) (f2 : Nat → Int64) (g2 : Nat → UInt64) (H2 : Heap) (locs2 : List Loc) (ls2 : Array Slot), LI D G B0 cL cD (K+500000) σ2 f2 g2 H2 → va_S (AC B0) s.heap H2 locs2 → lv_has ls2 8 [(5, .int (nI i)), (4, .ref (B0+291)), (3, .ref (B0+290)), (2, .ref (adH B0 279)), (1, .ref (adH B0 270)), (0, .ref b)] → W p l e R s m args below meth c H2 locs2 (cells + 4) (slots + 24) Q (F0 m 2317 ls2 [])) : W p l e R s m args below meth c H locs cells slots Q (F0 m 1374 ls []) := by
  obtain ⟨hK, hN, hT, hLw, ⟨adK, adV, hG, hR⟩, hNc, hKo, hKd, hX, hbl, hsz⟩ := id hLA
  obtain ⟨hP, hPo, hPd, hTop, hO⟩ := hLI
  have hA := adH_ok B0
  have hbA : ¬ AC B0 b := fun z => by have z : B0 ≤ b := z; omega
  refine lv_aload_n hx hb dL_law_1374 rfl (lv_at hl 4 rfl) ?_
  refine lv_aload_n hx hb dL_law_1375 rfl (lv_at hl 5 rfl) ?_
  refine lv_iload hx hb dL_law_1376 (lv_at hl 0 rfl) ?_
  refine lv_iconst (v := 1) hx hb dL_law_1378 (by decide) ?_
  refine lv_iadd hx hb dL_law_1379 ?_
  refine va_sld hx hb hX hbl hbA hS (in_scr hi hL (k := 1) (by decide)) dL_law_1380 ?_
  refine lv_aload_n hx hb dL_law_1381 rfl (lv_at hl 2 rfl) ?_
  have hPM := t_below (a := (xs (nI i + 1).toNatClampNeg)) hTop
  refine vx_calli (vx_runSX (As := [.ref (adH B0 270), .int (xs (nI i + 1).toNatClampNeg), .ref (B0+290)]) (rest := []) ⟨hx, hb, hml, hown, hts⟩ (cL_below_met l hl0 hA σ (xs (nI i + 1).toNatClampNeg) cL f hO hPM.hE) (vx_cwSW 3 hts gL_law_L_below rfl rfl rfl hd_L_belowS ⟨Nat.le_trans (by decide) hfr, Nat.le_trans (by decide) hlo⟩) ⟨hw1_blind, hw1_pre hK hN hT hLw hG hR hNc hsz hS hP hPo hKo⟩ rfl rfl hl.1 rfl (lv_room (Nat.le_of_ble_eq_true rfl)) dL_law_1382 ⟨by omega, by omega⟩) hS (fun q _ h => aw1_ac h) (fun q h => aw1_ac h) (fun q _ h => aw1_ac h) (fun _ _ _ _ _ _ _ _ _ hw9 _ _ _ _ _ _ _ => hw9.elim) (fun r6 z1 t H locs ht hvm hw6 hB hz1 hk1 hS => ?_)
  obtain ⟨ok6, hw6⟩ := hw6
  obtain ⟨σ1, eσ1⟩ : ∃ z, z = z1.1 := ⟨_, rfl⟩
  obtain ⟨hB1, hB2⟩ := hB
  rw [← eσ1] at ok6 hw6 hB1
  have hP : va_P D vwCl (pool G (adH B0) σ1) H := ho_at ht hB1
  have hPo : va_P D vwCl [(B0+290, .inl (cL, 1, .inr (.inl z1.2)))] H := by rw [← ht]; exact hB2
  have hPd := hPd.kept (fun k q hk => hk1 q.1 (vx_lt hPd hk) (wo_o21 hk))
  refine lv_istore (lv' := [(6, .int r6), (5, .int (nI i)), (4, .ref (B0+291)), (3, .ref (B0+290)), (2, .ref (adH B0 279)), (1, .ref (adH B0 270)), (0, .ref b)]) hx hb dL_law_1385 hl (by decide) rfl (fun ls hl => ?_)
  refine lv_aload_n hx hb dL_law_1387 rfl (lv_at hl 4 rfl) ?_
  refine lv_aload_n hx hb dL_law_1388 rfl (lv_at hl 6 rfl) ?_
  refine lv_iload hx hb dL_law_1389 (lv_at hl 1 rfl) ?_
  refine lv_iconst (v := 1) hx hb dL_law_1391 (by decide) ?_
  refine lv_iadd hx hb dL_law_1392 ?_
  refine va_sld hx hb hX hbl hbA hS (in_scr hi hL (k := 1) (by decide)) dL_law_1393 ?_
  have hls := ls_of (P := fun v => z1.2 0 = v.toInt64) hPM cd1_i hw6
  obtain ⟨hT1, h16, h490, hval⟩ := hls
  have hu : va_up σ1 16 (σ 16) = σ1 := by rw [← h16]; exact up_eta σ1 16
  rw [← hu] at hP
  refine va_calli (va_runV (As := [.int (xs (nI i + 1).toNatClampNeg)]) (rest := []) ⟨hx, hb, hml, hown, hts⟩ (c7_below l hA σ1 (σ 16) (xs (nI i + 1).toNatClampNeg) hO.2.2) (cwV 1 hts gL_law_X7_below rfl rfl rfl hd_X7_belowV ⟨Nat.le_trans (by decide) hfr, Nat.le_trans (by decide) hlo⟩) ⟨hp_blind, va_recv hK hP (ci := 9) (q0 := 279) rfl c_279, hp_pre hK hN hP⟩ rfl rfl hl.1 rfl (lv_room (Nat.le_of_ble_eq_true rfl)) dL_law_1394 ⟨by omega, by omega⟩) hS (fun q _ h => aa_ac h) (fun q h => aa_ac h) (fun r7 u7 t H locs ht hvm hw7 hB hz1 hk1 hS => ?_)
  have hP : va_P D vwCl (pool G (adH B0) (va_up σ1 16 u7)) H := ho_at ht hB
  have hPo := hPo.kept (fun k q hk => hk1 q.1 (vx_lt hPo hk) (wo_out1 hk))
  have hPd := hPd.kept (fun k q hk => hk1 q.1 (vx_lt hPd hk) (wo_out2 hk))
  obtain ⟨eq7, ok7⟩ := hw7
  rw [← eq7] at hT1 h490 hval
  refine lv_istore (lv' := [(7, .int r7), (6, .int r6), (5, .int (nI i)), (4, .ref (B0+291)), (3, .ref (B0+290)), (2, .ref (adH B0 279)), (1, .ref (adH B0 270)), (0, .ref b)]) hx hb dL_law_1397 hl (by decide) rfl (fun ls hl => ?_)
  refine lv_aload_n hx hb dL_law_1399 rfl (lv_at hl 5 rfl) ?_
  refine va_calli (va_runV (As := []) (rest := []) ⟨hx, hb, hml, hown, hts⟩ (c7_thrown l hA σ1 u7) (cwV 0 hts gL_law_X7_thrown rfl rfl rfl hd_X7_thrownV ⟨Nat.le_trans (by decide) hfr, Nat.le_trans (by decide) hlo⟩) ⟨hp_blind, va_recv hK hP (ci := 9) (q0 := 279) rfl c_279, hp_pre hK hN hP⟩ rfl rfl hl.1 rfl (lv_room (Nat.le_of_ble_eq_true rfl)) dL_law_1400 ⟨by omega, by omega⟩) hS (fun q _ h => aa_ac h) (fun q h => aa_ac h) (fun r8 _ t H locs ht hvm hw8 hB hz1 hk1 hS => ?_)
  have hP : va_P D vwCl (pool G (adH B0) (va_up σ1 16 u7)) H := ho_at ht hB
  have hPo := hPo.kept (fun k q hk => hk1 q.1 (vx_lt hPo hk) (wo_out1 hk))
  have hPd := hPd.kept (fun k q hk => hk1 q.1 (vx_lt hPd hk) (wo_out2 hk))
  refine lv_iload hx hb dL_law_1403 (lv_at hl 1 rfl) ?_
  refine lv_icmp_eq (tgt := 1410) hx hb dL_law_1405 (by decide) (fun c9 => ?_) (fun c9 => absurd (hw8.trans h490) c9)
  have hdone : ∀ (k0 n0 : Nat), k0 ≤ cells + 4 → n0 ≤ slots + 24 → ∀ ls2 : Array Slot, lv_has ls2 8 [(7, .int r7), (6, .int r6), (5, .int (nI i)), (4, .ref (B0+291)), (3, .ref (B0+290)), (2, .ref (adH B0 279)), (1, .ref (adH B0 270)), (0, .ref b)] → W p l e R s m args below meth c H locs k0 n0 Q (F0 m 2317 ls2 []) := fun k0 n0 hk0 hn0 ls2 hl2 => W.widen (k := cells + 4) (n := slots + 24) hk0 hn0 (cont _ z1.2 g H locs ls2 ⟨hP, hPo, hPd, (top_16 hT1).mono (by omega), okS_16 ok6 ok7⟩ hS (lv_sub hl2 [2, 3, 4, 5, 6, 7] rfl))
  refine lv_iload hx hb dL_law_1410 (lv_at hl 1 rfl) ?_
  refine lv_if_ne (tgt := 1427) hx hb dL_law_1412 (by decide) (fun c8 => ?_) (fun c8 => ?_)
  · refine lv_goto (tgt := 2317) hx hb dL_law_1427 (by decide) ?_
    exact hdone _ _ (by omega) (by omega) ls hl
  obtain ⟨v9, hv9, rfl⟩ := hval c8
  refine lv_aload_n hx hb dL_law_1415 rfl (lv_at hl 4 rfl) ?_
  refine lv_iconst (v := 0) hx hb dL_law_1416 (by decide) ?_
  refine va_lald (tys := [(cL, .long)]) hx hb hKo hPo 0 0 rfl rfl (vp_in_iff.mpr (by decide)) dL_law_1417 ?_
  have hv9 : z1.2 (0 : Int32).toNatClampNeg = _ := hv9
  rw [hv9]
  refine lv_iload hx hb dL_law_1418 (lv_at hl 0 rfl) ?_
  refine lv_i2l (v := v9.toInt64) hx hb dL_law_1420 rfl ?_
  refine W.lcmp hx hb dL_law_1421 ?_
  refine lv_if_eq (tgt := 1427) hx hb dL_law_1422 (by decide) (fun c7 => ?_) (fun c7 => absurd (lg_cmp_self _) c7)
  refine lv_goto (tgt := 2317) hx hb dL_law_1427 (by decide) ?_
  exact hdone _ _ (by omega) (by omega) ls hl
