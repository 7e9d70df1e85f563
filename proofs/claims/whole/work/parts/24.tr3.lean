set_option maxHeartbeats 4000000 in
set_option maxRecDepth 100000 in
theorem c6_set (l : Launch) (hl0 : l.stackTraces = false) {D : va_G} {G : CY} {ad : Nat → Nat} {B0 : Nat} (hA : adOK B0 ad) (σ : Nat → Nat → Int32) (a : Int32) (b : Int32) (hO : okS σ) : vx_Met l yX6_set wsX6_set { frames := 7, cells := 1, slots := 6, locals := 116 } (va_Pc [.ref (ad (270)), .int a, .int b] (Hx XEs D G ad B0 σ)) (va_Qi (fun (r : Int32) (z : Nat → Nat → Int32) => ((Sum.inl r, z) : RT) = f6_set σ a b ∧ okS z) (fun (z : Nat → Nat → Int32) => Ho D G ad z) (AA B0)) (XX D G ad B0 (fun E z => ((Sum.inr E, z) : RT) = f6_set σ a b ∧ okS z)) 1 6 (AA B0) := by
  refine vx_ofW (cc := cX6_set) (maxL := 4) (ret := (some .int)) (by decide) rfl ?_
  intro p e s m args below meth c s₁ B hml htab hv
  obtain ⟨rfl, ⟨hP, hK, hN⟩, hT, hL, adK, adV, hG, hR⟩ := hv
  have hx := B.exec
  have hb := B.bytes
  have hr := B.returns
  have hts := atoms_spec (ws := wsX6_set) B.pre
  have hown : s.vm.findClass RX6 = some m.cls := findClass_of_methodNamed B.named
  have hlocks := B.notSynchronized
  have inX6 : ∀ w ∈ wsX60, w ∈ wsX6_set := (fun w h => List.mem_cons_of_mem _ (List.mem_append_left _ (List.mem_append_left _ (List.mem_append_left _ (List.mem_append_right _ h)))))
  have hP : va_P D vwCl (pool G ad σ) s.heap := hP
  have hS : va_S (AA B0) s.heap s.heap [] := va_S.rf
  have hl := lv_entry ([.ref (ad (270)), .int a, .int b]) (n := 4) (Nat.le_of_ble_eq_true rfl)
  rw [lg_entry_eq]
  generalize (lg_sl ([.ref (ad (270)), .int a, .int b]) ++ List.replicate (4 - (lg_sl ([.ref (ad (270)), .int a, .int b])).length) Slot.unset).toArray = ls at hl ⊢
  have hl : lv_has ls 4 [(0, .ref (ad (270))), (1, .int a), (2, .int b)] := hl
  obtain ⟨FF, hFF⟩ : ∃ z, z = f6_set σ a b := ⟨_, rfl⟩
  have hF := hFF.symm
  rw [f6_set] at hF
  refine lv_iload_n hx hb dX6_set_0 rfl (lv_at hl 1 rfl) ?_
  refine lv_iconst (v := 0) hx hb dX6_set_1 (by decide) ?_
  refine lv_iconst (v := 3) hx hb dX6_set_2 (by decide) ?_
  refine va_calli (va_runS (As := [.int a, .int 0, .int 3]) (rest := []) ⟨hx, hb, hml, hown, hts⟩ (c6_isWithin l hA σ a 0 3 ) (va_cwS 3 hts gX6_set_X6_isWithin rfl rfl rfl hd_X6_isWithinS ⟨Nat.le_of_ble_eq_true rfl, Nat.le_of_ble_eq_true rfl⟩) ⟨hp_blind, hp_pre hK hN hP⟩ rfl rfl hl.1 rfl (lv_room (Nat.le_of_ble_eq_true rfl)) dX6_set_3 ⟨Nat.le_of_ble_eq_true rfl, Nat.le_of_ble_eq_true rfl⟩) hS (fun _ _ h => h) (fun _ h => h) (fun r3 _ t H locs ht hvm hw9 hB hz1 hk1 hS => ?_)
  have hP := ho_at ht hB
  obtain ⟨eq3, hb_r3⟩ := hw9
  have hF := bnd_s eq3 hF
  refine lv_if_ne (tgt := 19) hx hb dX6_set_6 (by decide) (fun c6 => ?_) (fun c6 => ?_)
  · have hF := iff_ c6 hF
    have hi9 := in_set4 eq3 c6
    refine lv_iload_n hx hb dX6_set_19 rfl (lv_at hl 2 rfl) ?_
    obtain ⟨t20, hz20, ht20⟩ := hG.1
    refine va_gets hx hb hz20 hS hown (hts (.fieldLink RX6 173 "TileRunners" "LEAST_SETTINGS" "[I") (List.mem_of_getElem? (i := 3) rfl)) (fun _ h9 => h9) dX6_set_20 ?_
    refine lv_iload_n hx hb dX6_set_23 rfl (lv_at hl 1 rfl) ?_
    refine va_ti hx hb ht20 hS hi9 rfl dX6_set_24 ?_
    obtain ⟨t25, hz25, ht25⟩ := hG.2.1
    refine va_gets hx hb hz25 hS hown (hts (.fieldLink RX6 176 "TileRunners" "GREATEST_SETTINGS" "[I") (List.mem_of_getElem? (i := 4) rfl)) (fun _ h9 => h9) dX6_set_25 ?_
    refine lv_iload_n hx hb dX6_set_28 rfl (lv_at hl 1 rfl) ?_
    refine va_ti hx hb ht25 hS hi9 rfl dX6_set_29 ?_
    refine va_calli (va_runS (As := [.int b, .int (leS a.toNatClampNeg), .int (grS a.toNatClampNeg)]) (rest := []) ⟨hx, hb, hml, hown, hts⟩ (c6_isWithin l hA σ b (leS a.toNatClampNeg) (grS a.toNatClampNeg) ) (va_cwS 3 hts gX6_set_X6_isWithin rfl rfl rfl hd_X6_isWithinS ⟨Nat.le_of_ble_eq_true rfl, Nat.le_of_ble_eq_true rfl⟩) ⟨hp_blind, hp_pre hK hN hP⟩ rfl rfl hl.1 rfl (lv_room (Nat.le_of_ble_eq_true rfl)) dX6_set_30 ⟨Nat.le_of_ble_eq_true rfl, Nat.le_of_ble_eq_true rfl⟩) hS (fun _ _ h => h) (fun _ h => h) (fun r30 _ t H locs ht hvm hw9 hB hz1 hk1 hS => ?_)
    have hP := ho_at ht hB
    obtain ⟨eq30, hb_r30⟩ := hw9
    have hF := bnd_s eq30 hF
    refine vx_callv (vx_runS (As := [.int r30]) (rest := []) ⟨hx, hb, hml, hown, hts⟩ (c6_require l hl0 hA σ r30 hO hb_r30) (va_cwS 1 hts gX6_set_X6_require rfl rfl rfl hd_X6_requireS ⟨Nat.le_of_ble_eq_true rfl, Nat.le_of_ble_eq_true rfl⟩) ⟨hx_blind, hx_pre hK hN hT hL hG hR hS hP⟩ rfl rfl hl.1 rfl (lv_room (Nat.le_of_ble_eq_true rfl)) dX6_set_33 ⟨Nat.le_of_ble_eq_true rfl, Nat.le_of_ble_eq_true rfl⟩) hS (fun _ _ h => h) (fun _ h => h) (fun _ _ h => h) (fun E9 ce9 q9 z9 t9 H9 locs9 ht9 hvm9 hw9 hB9 hz9 hk9 hS9 hce9 hcv9 hcl9 => ?_) (fun u9 t H locs ht hvm hw9 hB hz1 hk1 hS => ?_)
    · obtain ⟨eqx, okx⟩ := hw9
      obtain ⟨rfl, hBx⟩ := hB9
      have hF := bndx_x eqx hF
      exact vx_out (fun x hx => (htab x hx).elim) hlocks hce9 hcv9 hcl9 (fun t8 h8 _ => ⟨z9, ⟨hF.trans hFF, okx⟩, ⟨rfl, ho_of h8 (ho_at ht9 hBx)⟩, hS9.F h8⟩) hS9.2.2 (Nat.le_of_ble_eq_true rfl) (Nat.le_of_ble_eq_true rfl)
    have hP := ho_at ht hB
    obtain ⟨eq33, ok9⟩ := hw9
    obtain ⟨σ33, e_σ33⟩ : ∃ z, z = u9 := ⟨_, rfl⟩
    rw [← e_σ33] at hP eq33 ok9
    have hO := ok9
    have hF := bndx_s eq33 hF
    refine lv_aload_n hx hb dX6_set_36 rfl (lv_at hl 0 rfl) ?_
    refine va_get (D := D) (ci := 8) (C := RX6) (T := TX6) (N := 9) hx hb hts inX6 hown hK hP (270) g_270 rfl 3 (by decide) (hts (.fieldLink RX6 31 "TileRunners" "settings" "[I") (List.mem_of_getElem? (i := 5) rfl)) (fun _ h9 => h9) rfl dX6_set_37 ?_
    refine lv_iload_n hx hb dX6_set_40 rfl (lv_at hl 1 rfl) ?_
    refine pald (n := 4) (o := 10) (t := 10+a.toNatClampNeg) (i := a) hx hb hK hP g_271 hi9 rfl dX6_set_41 ?_
    refine lv_topi (fun v3_42 e_v3_42 => ?_)
    have hF := bnd_s e_v3_42 hF
    refine lv_istore_n (lv' := [(3, .int v3_42), (0, .ref (ad (270))), (1, .int a), (2, .int b)]) hx hb dX6_set_42 rfl hl (by decide) rfl (fun ls hl => ?_)
    refine lv_aload_n hx hb dX6_set_43 rfl (lv_at hl 1 rfl) ?_
    refine va_get (D := D) (ci := 8) (C := RX6) (T := TX6) (N := 9) hx hb hts inX6 hown hK hP (270) g_270 rfl 3 (by decide) (hts (.fieldLink RX6 31 "TileRunners" "settings" "[I") (List.mem_of_getElem? (i := 5) rfl)) (fun _ h9 => h9) rfl dX6_set_44 ?_
    refine lv_iload_n hx hb dX6_set_47 rfl (lv_at hl 2 rfl) ?_
    refine lv_iload_n hx hb dX6_set_48 rfl (lv_at hl 3 rfl) ?_
    have hP := f_eta 15 hP
    have hin9 : vp_in a 4 := hi9
    refine past15 (n := 4) (o := 10) (t := 10+a.toNatClampNeg) hx hb hK hP hA hS (j := 271) (by decide) (by decide) (fun _ _ => rfl) (fun k9 hk9 => by unfold own15; repeat first | rw [if_pos (by omega)] | rw [if_neg (by omega)]) hin9 rfl dX6_set_49 (fun u9 H locs eu9 hP hS => ?_)
    have hlt9 := in_lt hin9
    obtain ⟨σ49, e_σ49⟩ : ∃ z, z = va_up σ33 15 (va_up (σ33 15) (10+a.toNatClampNeg) b) := ⟨_, rfl⟩
    rw [eu9, ← e_σ49] at hP
    have hF := bnd_s e_σ49 hF
    have hO := okS_up15 e_σ49 hO (by omega)
    refine lv_iload_n hx hb dX6_set_50 rfl (lv_at hl 0 rfl) ?_
    exact vx_ret (W.widen (Nat.le_of_ble_eq_true rfl) (Nat.le_of_ble_eq_true rfl) (W.iret (v := v3_42) hx hb hr (fun t ht hW => ⟨⟨v3_42, σ49, rfl, ⟨hF.trans hFF, hO⟩, ho_of ht hP⟩, hS.F ht⟩) hS.2.2 dX6_set_51))
  · have hF := ift c6 hF
    obtain ⟨sa9, hsa9⟩ := hL.1 (170, "no such setting") (by decide)
    exact vx_throwS (own := RX6) (cls := "java/lang/IndexOutOfBoundsException") (names := ["java/lang/RuntimeException", "java/lang/Exception"]) (ik := 168) (is := 170) (ic := 172) (text := "no such setting") (sa := sa9) hx hb hl0 hown (by decide) (by decide) (hts (.classLink RX6 168 "java/lang/IndexOutOfBoundsException") (List.mem_of_getElem? (i := 1) rfl)) (hts (.initialized "java/lang/IndexOutOfBoundsException") (List.mem_of_getElem? (i := 2) rfl)) hsa9 (hx_hat hL (by decide) (fun w h => hts w ((fun w h => List.mem_cons_of_mem _ (List.mem_append_left _ (List.mem_append_left _ (List.mem_append_right _ h)))) w h)) xa_174) xg_174 hT.1 hT.2 hS (hl.1.trans hml.symm) dX6_set_9 dX6_set_12 dX6_set_13 dX6_set_15 dX6_set_18 (fun x hx => (htab x hx).elim) (Nat.le_of_ble_eq_true rfl) (Nat.le_of_ble_eq_true rfl) (Nat.le_of_ble_eq_true rfl) (Nat.le_of_ble_eq_true rfl) hlocks (fun t9 a9 h1 h2 => ⟨("java/lang/IndexOutOfBoundsException", σ), ⟨hF.trans hFF, hO⟩, ⟨rfl, (hx_out hP hS h1 h2).1⟩, (hx_out hP hS h1 h2).2⟩) hS.2.2 (Nat.le_of_ble_eq_true rfl) (Nat.le_of_ble_eq_true rfl)
theorem hd_X6_setV : yX6_set.cls = RX6 ∧ yX6_set.cls ≠ "java/lang/invoke/MethodHandle" ∧ yX6_set.cls ≠ "java/lang/invoke/VarHandle" ∧ (parseMethodDescriptor yX6_set.desc).map (fun d => d.parameters.length) = some 2 := by decide +kernel
set_option maxHeartbeats 4000000 in
set_option maxRecDepth 100000 in
theorem c6_readTiles (l : Launch) (hl0 : l.stackTraces = false) {D : va_G} {G : CY} {ad : Nat → Nat} {B0 : Nat} (hA : adOK B0 ad) (σ : Nat → Nat → Int32) (a : Int32) (b : Int32) (hO : okS σ) : vx_Met l yX6_readTiles wsX6_readTiles { frames := 7, cells := 3, slots := 18, locals := 150 } (va_Pc [.ref (ad (270)), .int a, .int b] (Hx XEs D G ad B0 σ)) (va_Qi (fun (r : Int32) (z : Nat → Nat → Int32) => ((Sum.inl r, z) : RT) = f6_readTiles σ a b ∧ okS z) (fun (z : Nat → Nat → Int32) => Ho D G ad z) (AA B0)) (XX D G ad B0 (fun E z => ((Sum.inr E, z) : RT) = f6_readTiles σ a b ∧ okS z)) 3 18 (AA B0) := by
  refine vx_ofW (cc := cX6_readTiles) (maxL := 5) (ret := (some .int)) (by decide) rfl ?_
  intro p e s m args below meth c s₁ B hml htab hv
  obtain ⟨rfl, ⟨hP, hK, hN⟩, hT, hL, adK, adV, hG, hR⟩ := hv
  have hx := B.exec
  have hb := B.bytes
  have hr := B.returns
  have hts := atoms_spec (ws := wsX6_readTiles) B.pre
  have hown : s.vm.findClass RX6 = some m.cls := findClass_of_methodNamed B.named
  have hlocks := B.notSynchronized
  have inX5 : ∀ w ∈ wsX50, w ∈ wsX6_readTiles := (fun w h => List.mem_cons_of_mem _ (List.mem_append_left _ (List.mem_append_left _ (List.mem_append_left _ (List.mem_append_left _ (List.mem_append_left _ (List.mem_append_left _ (List.mem_append_left _ (List.mem_append_left _ (List.mem_append_left _ (List.mem_append_left _ (List.mem_append_right _ h))))))))))))
  have inX6 : ∀ w ∈ wsX60, w ∈ wsX6_readTiles := (fun w h => List.mem_cons_of_mem _ (List.mem_append_left _ (List.mem_append_left _ (List.mem_append_left _ (List.mem_append_left _ (List.mem_append_left _ (List.mem_append_left _ (List.mem_append_left _ (List.mem_append_left _ (List.mem_append_left _ (List.mem_append_left _ (List.mem_append_left _ (List.mem_append_right _ h)))))))))))))
  have hP : va_P D vwCl (pool G ad σ) s.heap := hP
  have hS : va_S (AA B0) s.heap s.heap [] := va_S.rf
  have hl := lv_entry ([.ref (ad (270)), .int a, .int b]) (n := 5) (Nat.le_of_ble_eq_true rfl)
  rw [lg_entry_eq]
  generalize (lg_sl ([.ref (ad (270)), .int a, .int b]) ++ List.replicate (5 - (lg_sl ([.ref (ad (270)), .int a, .int b])).length) Slot.unset).toArray = ls at hl ⊢
  have hl : lv_has ls 5 [(0, .ref (ad (270))), (1, .int a), (2, .int b)] := hl
  obtain ⟨FF, hFF⟩ : ∃ z, z = f6_readTiles σ a b := ⟨_, rfl⟩
  have hF := hFF.symm
  rw [f6_readTiles] at hF
  refine lv_aload_n hx hb dX6_readTiles_0 rfl (lv_at hl 0 rfl) ?_
  refine va_get (D := D) (ci := 8) (C := RX6) (T := TX6) (N := 9) hx hb hts inX6 hown hK hP (270) g_270 rfl 6 (by decide) (hts (.fieldLink RX6 47 "TileRunners" "text" "LTileRunners$Text;") (List.mem_of_getElem? (i := 3) rfl)) (fun _ h9 => h9) rfl dX6_readTiles_1 ?_
  have hP := f_eta 15 hP
  refine va_calli (va_runV (As := []) (rest := []) ⟨hx, hb, hml, hown, hts⟩ (c3_takeOut l hA σ (σ 15)  hO.2.1) (cwV 0 hts gX6_readTiles_X3_takeOut rfl rfl rfl hd_X3_takeOutV ⟨Nat.le_of_ble_eq_true rfl, Nat.le_of_ble_eq_true rfl⟩) ⟨hp_blind, va_recv hK hP (ci := 5) (q0 := 275) rfl c_275, hp_pre hK hN hP⟩ rfl rfl hl.1 rfl (lv_room (Nat.le_of_ble_eq_true rfl)) dX6_readTiles_4 ⟨Nat.le_of_ble_eq_true rfl, Nat.le_of_ble_eq_true rfl⟩) hS (fun _ _ h => h) (fun _ h => h) (fun r4 u9 t H locs ht hvm hw9 hB hz1 hk1 hS => ?_)
  have hP := ho_at ht hB
  obtain ⟨eq4, ok9, hq_r4⟩ := hw9
  obtain ⟨σ4, e_σ4⟩ : ∃ z, z = va_up σ 15 u9 := ⟨_, rfl⟩
  rw [← e_σ4] at hP
  have hF := bnd2_s eq4 hF
  have hF := bnd_s e_σ4 hF
  have hO := okS_15 e_σ4 hO ok9
  refine lv_istore_n (lv' := [(3, .int r4), (0, .ref (ad (270))), (1, .int a), (2, .int b)]) hx hb dX6_readTiles_7 rfl hl (by decide) rfl (fun ls hl => ?_)
  refine lv_iload_n hx hb dX6_readTiles_8 rfl (lv_at hl 2 rfl) ?_
  refine lv_iload_n hx hb dX6_readTiles_9 rfl (lv_at hl 3 rfl) ?_
  refine vx_callv (vx_runS (As := [.int a, .int b]) (rest := []) ⟨hx, hb, hml, hown, hts⟩ (c6_requireTile l hl0 hA σ4 a b hO) (va_cwS 2 hts gX6_readTiles_X6_requireTile rfl rfl rfl hd_X6_requireTileS ⟨Nat.le_of_ble_eq_true rfl, Nat.le_of_ble_eq_true rfl⟩) ⟨hx_blind, hx_pre hK hN hT hL hG hR hS hP⟩ rfl rfl hl.1 rfl (lv_room (Nat.le_of_ble_eq_true rfl)) dX6_readTiles_10 ⟨Nat.le_of_ble_eq_true rfl, Nat.le_of_ble_eq_true rfl⟩) hS (fun _ _ h => h) (fun _ h => h) (fun _ _ h => h) (fun E9 ce9 q9 z9 t9 H9 locs9 ht9 hvm9 hw9 hB9 hz9 hk9 hS9 hce9 hcv9 hcl9 => ?_) (fun u9 t H locs ht hvm hw9 hB hz1 hk1 hS => ?_)
  · obtain ⟨eqx, okx⟩ := hw9
    obtain ⟨rfl, hBx⟩ := hB9
    have hF := bndx_x eqx hF
    exact vx_out (fun x hx => (htab x hx).elim) hlocks hce9 hcv9 hcl9 (fun t8 h8 _ => ⟨z9, ⟨hF.trans hFF, okx⟩, ⟨rfl, ho_of h8 (ho_at ht9 hBx)⟩, hS9.F h8⟩) hS9.2.2 (Nat.le_of_ble_eq_true rfl) (Nat.le_of_ble_eq_true rfl)
  have hP := ho_at ht hB
  obtain ⟨eq10, ok9⟩ := hw9
  obtain ⟨σ10, e_σ10⟩ : ∃ z, z = u9 := ⟨_, rfl⟩
  rw [← e_σ10] at hP eq10 ok9
  have hO := ok9
  have hF := bndx_s eq10 hF
  refine lv_aload_n hx hb dX6_readTiles_13 rfl (lv_at hl 1 rfl) ?_
  refine lv_aload_n hx hb dX6_readTiles_14 rfl (lv_at hl 1 rfl) ?_
  refine va_get (D := D) (ci := 8) (C := RX6) (T := TX6) (N := 9) hx hb hts inX6 hown hK hP (270) g_270 rfl 6 (by decide) (hts (.fieldLink RX6 47 "TileRunners" "text" "LTileRunners$Text;") (List.mem_of_getElem? (i := 3) rfl)) (fun _ h9 => h9) rfl dX6_readTiles_15 ?_
  refine lv_iload_n hx hb dX6_readTiles_18 rfl (lv_at hl 0 rfl) ?_
  have hP := f_eta 15 hP
  refine va_calli (va_runV (As := [.int r4]) (rest := [.ref (ad (270))]) ⟨hx, hb, hml, hown, hts⟩ (c3_faultOfTiles l hA σ10 (σ10 15) r4 hO.2.1 hq_r4.2) (cwV 1 hts gX6_readTiles_X3_faultOfTiles rfl rfl rfl hd_X3_faultOfTilesV ⟨Nat.le_of_ble_eq_true rfl, Nat.le_of_ble_eq_true rfl⟩) ⟨hs_blind, va_recv hK hP (ci := 5) (q0 := 275) rfl c_275, hs_pre hK hN hG hR hS hP⟩ rfl rfl hl.1 rfl (lv_room (Nat.le_of_ble_eq_true rfl)) dX6_readTiles_19 ⟨Nat.le_of_ble_eq_true rfl, Nat.le_of_ble_eq_true rfl⟩) hS (fun _ _ h => h) (fun _ h => h) (fun r19 _ t H locs ht hvm hw9 hB hz1 hk1 hS => ?_)
  have hP := ho_at ht hB
  have eq19 := hw9
  rw [up_eta] at hP
  have hF := bnd_s eq19 hF
  have hP := f_eta 15 hP
  refine pput15 hx hb hts inX6 tyX6 tyX6_ok nmX6 hown hK hP hA hS (j := 270) (by decide) (by decide) rfl rfl 8 (by decide) (hts (.fieldLink RX6 55 "TileRunners" "fault" "I") (List.mem_of_getElem? (i := 4) rfl)) (fun _ h9 => h9) rfl (tyX6_ok 8 (by decide)) rfl rfl (Nat.le_of_ble_eq_true rfl) (1) (by decide) (setR_8) dX6_readTiles_22 (fun u9 H locs eu9 hP hS => ?_)
  obtain ⟨σ22, e_σ22⟩ : ∃ z, z = va_up σ10 15 (va_up (σ10 15) (1) r19) := ⟨_, rfl⟩
  rw [eu9, ← e_σ22] at hP
  have hF := bnd_s e_σ22 hF
  have hO := okS_up15 e_σ22 hO (by omega)
  refine lv_aload_n hx hb dX6_readTiles_25 rfl (lv_at hl 1 rfl) ?_
  refine va_get (D := D) (ci := 8) (C := RX6) (T := TX6) (N := 9) hx hb hts inX6 hown hK hP (270) g_270 rfl 8 (by decide) (hts (.fieldLink RX6 55 "TileRunners" "fault" "I") (List.mem_of_getElem? (i := 4) rfl)) (fun _ h9 => h9) rfl dX6_readTiles_26 ?_
  refine lv_iconst (v := (-1)) hx hb dX6_readTiles_29 (by decide) ?_
  have J38 : ∀ (t0_38 : Int32) (H : Heap) (locs : List Loc) (ls : Array Slot), bl t0_38 → va_P D vwCl (pool G ad σ22) H → va_S (AA B0) s.heap H locs → lv_has ls 5 [(3, .int r4), (0, .ref (ad (270))), (1, .int a), (2, .int b)] → f6_readTiles_b38 a b r4 σ22 t0_38 = FF → W p l e (headSpec wsX6_readTiles { frames := 7, cells := 3, slots := 18, locals := 150 }).room s m ([.ref (ad (270)), .int a, .int b] : List Value).toArray below meth c H locs 1 6 (vx_MQ below (va_Qi (fun (r : Int32) (z : Nat → Nat → Int32) => ((Sum.inl r, z) : RT) = f6_readTiles σ a b ∧ okS z) (fun (z : Nat → Nat → Int32) => Ho D G ad z) (AA B0)) (XX D G ad B0 (fun E z => ((Sum.inr E, z) : RT) = f6_readTiles σ a b ∧ okS z)) ([.ref (ad (270)), .int a, .int b] : List Value).toArray s 3 18 (AA B0)) (F0 m 38 ls [.int t0_38]) := by
    intro t0_38 H locs ls hb_t0_38 hP hS hl hF
    rw [f6_readTiles_b38] at hF
    refine vx_callv (vx_runS (As := [.int t0_38]) (rest := []) ⟨hx, hb, hml, hown, hts⟩ (c6_require l hl0 hA σ22 t0_38 hO hb_t0_38) (va_cwS 1 hts gX6_readTiles_X6_require rfl rfl rfl hd_X6_requireS ⟨Nat.le_of_ble_eq_true rfl, Nat.le_of_ble_eq_true rfl⟩) ⟨hx_blind, hx_pre hK hN hT hL hG hR hS hP⟩ rfl rfl hl.1 rfl (lv_room (Nat.le_of_ble_eq_true rfl)) dX6_readTiles_38 ⟨Nat.le_of_ble_eq_true rfl, Nat.le_of_ble_eq_true rfl⟩) hS (fun _ _ h => h) (fun _ h => h) (fun _ _ h => h) (fun E9 ce9 q9 z9 t9 H9 locs9 ht9 hvm9 hw9 hB9 hz9 hk9 hS9 hce9 hcv9 hcl9 => ?_) (fun u9 t H locs ht hvm hw9 hB hz1 hk1 hS => ?_)
    · obtain ⟨eqx, okx⟩ := hw9
      obtain ⟨rfl, hBx⟩ := hB9
      have hF := bndx_x eqx hF
      exact vx_out (fun x hx => (htab x hx).elim) hlocks hce9 hcv9 hcl9 (fun t8 h8 _ => ⟨z9, ⟨hF.trans hFF, okx⟩, ⟨rfl, ho_of h8 (ho_at ht9 hBx)⟩, hS9.F h8⟩) hS9.2.2 (Nat.le_of_ble_eq_true rfl) (Nat.le_of_ble_eq_true rfl)
    have hP := ho_at ht hB
    obtain ⟨eq38, ok9⟩ := hw9
    obtain ⟨σ38, e_σ38⟩ : ∃ z, z = u9 := ⟨_, rfl⟩
    rw [← e_σ38] at hP eq38 ok9
    have hO := ok9
    have hF := bndx_s eq38 hF
    refine lv_iload_n hx hb dX6_readTiles_41 rfl (lv_at hl 0 rfl) ?_
    refine lv_bipush (v := 24) hx hb dX6_readTiles_42 (by decide) ?_
    refine lv_iload_n hx hb dX6_readTiles_44 rfl (lv_at hl 2 rfl) ?_
    refine lv_isub hx hb dX6_readTiles_45 ?_
    refine lv_icmp_le (tgt := 60) hx hb dX6_readTiles_46 (by decide) (fun c46 => ?_) (fun c46 => ?_)
    · have hF := ift c46 hF
      refine lv_aload_n hx hb dX6_readTiles_60 rfl (lv_at hl 1 rfl) ?_
      refine va_get (D := D) (ci := 8) (C := RX6) (T := TX6) (N := 9) hx hb hts inX6 hown hK hP (270) g_270 rfl 1 (by decide) (hts (.fieldLink RX6 16 "TileRunners" "trial" "LTileRunners$World;") (List.mem_of_getElem? (i := 5) rfl)) (fun _ h9 => h9) rfl dX6_readTiles_61 ?_
      refine lv_aload_n hx hb dX6_readTiles_64 rfl (lv_at hl 1 rfl) ?_
      refine va_get (D := D) (ci := 8) (C := RX6) (T := TX6) (N := 9) hx hb hts inX6 hown hK hP (270) g_270 rfl 0 (by decide) (hts (.fieldLink RX6 12 "TileRunners" "world" "LTileRunners$World;") (List.mem_of_getElem? (i := 6) rfl)) (fun _ h9 => h9) rfl dX6_readTiles_65 ?_
      refine va_callv (va_runV (As := [.ref (ad (18*0+0))]) (rest := []) ⟨hx, hb, hml, hown, hts⟩ (c5_copyFrom l hA σ38 1 (by decide) 0 (by decide) hO) (cwV 1 hts gX6_readTiles_X5_copyFrom rfl rfl rfl hd_X5_copyFromV ⟨Nat.le_of_ble_eq_true rfl, Nat.le_of_ble_eq_true rfl⟩) ⟨hp_blind, va_recv hK hP (ci := 7) (q0 := 18*1+0) rfl (g_o (by decide)), hp_pre hK hN hP⟩ rfl rfl hl.1 rfl (lv_room (Nat.le_of_ble_eq_true rfl)) dX6_readTiles_68 ⟨Nat.le_of_ble_eq_true rfl, Nat.le_of_ble_eq_true rfl⟩) hS (fun _ _ h => h) (fun _ h => h) (fun u9 t H locs ht hvm hw9 hB hz1 hk1 hS => ?_)
      have hP := ho_at ht hB
      obtain ⟨eq68, ok9⟩ := hw9
      obtain ⟨σ68, e_σ68⟩ : ∃ z, z = u9 := ⟨_, rfl⟩
      rw [← e_σ68] at hP eq68 ok9
      have hO := ok9
      have hF := bnd_s eq68 hF
      refine lv_iconst (v := 0) hx hb dX6_readTiles_71 (by decide) ?_
      refine lv_istore (lv' := [(4, .int 0), (3, .int r4), (0, .ref (ad (270))), (1, .int a), (2, .int b)]) hx hb dX6_readTiles_72 hl (by decide) rfl (fun ls hl => ?_)
      have L74 : ∀ (n74 : Nat) (w4_74 : Int32) (σ_74 : (Nat → Nat → Int32)) (H : Heap) (locs : List Loc) (ls : Array Slot), (r4.toInt - w4_74.toInt).toNat < n74 → 0 ≤ w4_74 → okS σ_74 → va_P D vwCl (pool G ad σ_74) H → va_S (AA B0) s.heap H locs → lv_has ls 5 [(4, .int w4_74), (3, .int r4), (0, .ref (ad (270))), (1, .int a), (2, .int b)] → f6_readTiles_L74 a b r4 n74 w4_74 σ_74 = FF → W p l e (headSpec wsX6_readTiles { frames := 7, cells := 3, slots := 18, locals := 150 }).room s m ([.ref (ad (270)), .int a, .int b] : List Value).toArray below meth c H locs 2 12 (vx_MQ below (va_Qi (fun (r : Int32) (z : Nat → Nat → Int32) => ((Sum.inl r, z) : RT) = f6_readTiles σ a b ∧ okS z) (fun (z : Nat → Nat → Int32) => Ho D G ad z) (AA B0)) (XX D G ad B0 (fun E z => ((Sum.inr E, z) : RT) = f6_readTiles σ a b ∧ okS z)) ([.ref (ad (270)), .int a, .int b] : List Value).toArray s 3 18 (AA B0)) (F0 m 74 ls []) := by
        intro n74
        induction n74 with
        | zero => intro w4_74 σ_74 H locs ls hm; exact absurd hm (Nat.not_lt_zero _)
        | succ n74 ih74 =>
          intro w4_74 σ_74 H locs ls hm74 h4 hO hP hS hl hF
          rw [f6_readTiles_L74] at hF
          refine lv_iload hx hb dX6_readTiles_74 (lv_at hl 0 rfl) ?_
          refine lv_iload_n hx hb dX6_readTiles_76 rfl (lv_at hl 1 rfl) ?_
          refine lv_icmp_ge (tgt := 110) hx hb dX6_readTiles_77 (by decide) (fun c77 => ?_) (fun c77 => ?_)
          · have hF := ift c77 hF
            refine lv_aload_n hx hb dX6_readTiles_110 rfl (lv_at hl 2 rfl) ?_
            refine vx_callv (vx_runV (As := []) (rest := []) ⟨hx, hb, hml, hown, hts⟩ (c6_acceptTrialTiles l hl0 hA σ_74  hO) (cwV 0 hts gX6_readTiles_X6_acceptTrialTiles rfl rfl rfl hd_X6_acceptTrialTilesV ⟨Nat.le_of_ble_eq_true rfl, Nat.le_of_ble_eq_true rfl⟩) ⟨hx_blind, va_recv hK hP (ci := 8) (q0 := 270) rfl g_270, hx_pre hK hN hT hL hG hR hS hP⟩ rfl rfl hl.1 rfl (lv_room (Nat.le_of_ble_eq_true rfl)) dX6_readTiles_111 ⟨Nat.le_of_ble_eq_true rfl, Nat.le_of_ble_eq_true rfl⟩) hS (fun _ _ h => h) (fun _ h => h) (fun _ _ h => h) (fun E9 ce9 q9 z9 t9 H9 locs9 ht9 hvm9 hw9 hB9 hz9 hk9 hS9 hce9 hcv9 hcl9 => ?_) (fun u9 t H locs ht hvm hw9 hB hz1 hk1 hS => ?_)
            · obtain ⟨eqx, okx⟩ := hw9
              obtain ⟨rfl, hBx⟩ := hB9
              have hF := bndx_x eqx hF
              exact vx_out (fun x hx => (htab x hx).elim) hlocks hce9 hcv9 hcl9 (fun t8 h8 _ => ⟨z9, ⟨hF.trans hFF, okx⟩, ⟨rfl, ho_of h8 (ho_at ht9 hBx)⟩, hS9.F h8⟩) hS9.2.2 (Nat.le_of_ble_eq_true rfl) (Nat.le_of_ble_eq_true rfl)
            have hP := ho_at ht hB
            obtain ⟨eq111, ok9⟩ := hw9
            obtain ⟨σ111, e_σ111⟩ : ∃ z, z = u9 := ⟨_, rfl⟩
            rw [← e_σ111] at hP eq111 ok9
            have hO := ok9
            have hF := bndx_s eq111 hF
            refine lv_iload_n hx hb dX6_readTiles_114 rfl (lv_at hl 1 rfl) ?_
            exact vx_ret (W.widen (Nat.le_of_ble_eq_true rfl) (Nat.le_of_ble_eq_true rfl) (W.iret (v := r4) hx hb hr (fun t ht hW => ⟨⟨r4, σ111, rfl, ⟨hF.trans hFF, hO⟩, ho_of ht hP⟩, hS.F ht⟩) hS.2.2 dX6_readTiles_115))
          · have hF := iff_ c77 hF
            refine lv_aload_n hx hb dX6_readTiles_80 rfl (lv_at hl 2 rfl) ?_
            refine va_get (D := D) (ci := 8) (C := RX6) (T := TX6) (N := 9) hx hb hts inX6 hown hK hP (270) g_270 rfl 1 (by decide) (hts (.fieldLink RX6 16 "TileRunners" "trial" "LTileRunners$World;") (List.mem_of_getElem? (i := 5) rfl)) (fun _ h9 => h9) rfl dX6_readTiles_81 ?_
            refine va_get (D := D) (ci := 7) (C := RX5) (T := TX5) (N := 7) hx hb hts inX5 hown hK hP (18*1+0) (g_o (by decide)) rfl 0 (by decide) (hts (.fieldLink RX6 71 "TileRunners$World" "tiles" "LTileRunners$Tiles;") (List.mem_of_getElem? (i := 7) rfl)) (fun _ h9 => h9) rfl dX6_readTiles_84 ?_
            refine lv_iload_n hx hb dX6_readTiles_87 rfl (lv_at hl 3 rfl) ?_
            refine lv_iload hx hb dX6_readTiles_88 (lv_at hl 0 rfl) ?_
            refine lv_iadd hx hb dX6_readTiles_90 ?_
            refine lv_iload_n hx hb dX6_readTiles_91 rfl (lv_at hl 4 rfl) ?_
            refine lv_aload_n hx hb dX6_readTiles_92 rfl (lv_at hl 2 rfl) ?_
            refine va_get (D := D) (ci := 8) (C := RX6) (T := TX6) (N := 9) hx hb hts inX6 hown hK hP (270) g_270 rfl 6 (by decide) (hts (.fieldLink RX6 47 "TileRunners" "text" "LTileRunners$Text;") (List.mem_of_getElem? (i := 3) rfl)) (fun _ h9 => h9) rfl dX6_readTiles_93 ?_
            refine lv_iload hx hb dX6_readTiles_96 (lv_at hl 0 rfl) ?_
            have hP := f_eta 15 hP
            refine va_calli (va_runV (As := [.int w4_74]) (rest := [.int b, .int (a + w4_74), .ref (ad (18*1+1))]) ⟨hx, hb, hml, hown, hts⟩ (c3_tileAt l hA σ_74 (σ_74 15) w4_74 hO.2.1 (in_n h4 (nle_lt c77) hq_r4.2)) (cwV 1 hts gX6_readTiles_X3_tileAt rfl rfl rfl hd_X3_tileAtV ⟨Nat.le_of_ble_eq_true rfl, Nat.le_of_ble_eq_true rfl⟩) ⟨hs_blind, va_recv hK hP (ci := 5) (q0 := 275) rfl c_275, hs_pre hK hN hG hR hS hP⟩ rfl rfl hl.1 rfl (lv_room (Nat.le_of_ble_eq_true rfl)) dX6_readTiles_98 ⟨Nat.le_of_ble_eq_true rfl, Nat.le_of_ble_eq_true rfl⟩) hS (fun _ _ h => h) (fun _ h => h) (fun r98 _ t H locs ht hvm hw9 hB hz1 hk1 hS => ?_)
            have hP := ho_at ht hB
            have eq98 := hw9
            rw [up_eta] at hP
            have hF := bnd_s eq98 hF
            have hP := f_eta 1 hP
            refine va_callv (va_runV (As := [.int (a + w4_74), .int b, .int r98]) (rest := []) ⟨hx, hb, hml, hown, hts⟩ (c4_put l hA σ_74 (σ_74 1) 1 (by decide) (a + w4_74) b r98 (hO.1 1 (by decide))) (cwV 3 hts gX6_readTiles_X4_put rfl rfl rfl hd_X4_putV ⟨Nat.le_of_ble_eq_true rfl, Nat.le_of_ble_eq_true rfl⟩) ⟨hp_blind, va_recv hK hP (ci := 6) (q0 := 18*1+1) rfl (c_t (by decide)), hp_pre hK hN hP⟩ rfl rfl hl.1 rfl (lv_room (Nat.le_of_ble_eq_true rfl)) dX6_readTiles_101 ⟨Nat.le_of_ble_eq_true rfl, Nat.le_of_ble_eq_true rfl⟩) hS (fun _ _ h => h) (fun _ h => h) (fun u9 t H locs ht hvm hw9 hB hz1 hk1 hS => ?_)
            have hP := ho_at ht hB
            obtain ⟨eq101, ok9⟩ := hw9
            obtain ⟨σ101, e_σ101⟩ : ∃ z, z = va_up σ_74 1 u9 := ⟨_, rfl⟩
            rw [← e_σ101] at hP
            have hF := bnd_s eq101 hF
            have hF := bnd_s e_σ101 hF
            have hO := okS_row e_σ101 hO (by decide) ok9
            obtain ⟨v4_104, e_v4_104⟩ : ∃ z : Int32, z = w4_74 + 1 := ⟨_, rfl⟩
            have hF := bnd_s e_v4_104 hF
            refine lv_iinc (v := v4_104) (lv' := [(4, .int v4_104), (3, .int r4), (0, .ref (ad (270))), (1, .int a), (2, .int b)]) hx hb dX6_readTiles_104 hl (k := 0) rfl (by rw [e_v4_104]; rfl) (by decide) rfl (fun ls hl => ?_)
            refine lv_goto (tgt := 74) hx hb dX6_readTiles_107 (by decide) ?_
            exact ih74 v4_104 σ101 _ _ ls (ms_s (dec_up (nle_lt c77) e_v4_104) hm74) (inc_ge0 (nle_lt c77) h4 e_v4_104) hO hP hS (lv_sub hl [0, 1, 2, 3, 4] rfl) hF
      exact L74 BIG 0 σ68 _ _ ls (big_up _ _) le0 hO hP hS (lv_sub hl [0, 1, 2, 3, 4] rfl) hF
    · have hF := iff_ c46 hF
      obtain ⟨sa9, hsa9⟩ := hL.1 (263, "more signs than columns left") (by decide)
      exact vx_throwSW (own := RX6) (cls := "java/lang/IllegalStateException") (names := ["java/lang/RuntimeException", "java/lang/Exception"]) (ik := 95) (is := 263) (ic := 99) (text := "more signs than columns left") (sa := sa9) hx hb hl0 hown (by decide) (by decide) (hts (.classLink RX6 95 "java/lang/IllegalStateException") (List.mem_of_getElem? (i := 1) rfl)) (hts (.initialized "java/lang/IllegalStateException") (List.mem_of_getElem? (i := 2) rfl)) hsa9 (hx_hat hL (by decide) (fun w h => hts w ((fun w h => List.mem_cons_of_mem _ (List.mem_append_left _ (List.mem_append_left _ (List.mem_append_left _ (List.mem_append_right _ h))))) w h)) xa_101) xg_101 hT.1 hT.2 hS (hl.1.trans hml.symm) dX6_readTiles_49 dX6_readTiles_52 dX6_readTiles_53 dX6_readTiles_56 dX6_readTiles_59 (fun x hx => (htab x hx).elim) (Nat.le_of_ble_eq_true rfl) (Nat.le_of_ble_eq_true rfl) (Nat.le_of_ble_eq_true rfl) (Nat.le_of_ble_eq_true rfl) hlocks (fun t9 a9 h1 h2 => ⟨("java/lang/IllegalStateException", σ38), ⟨hF.trans hFF, hO⟩, ⟨rfl, (hx_out hP hS h1 h2).1⟩, (hx_out hP hS h1 h2).2⟩) hS.2.2 (Nat.le_of_ble_eq_true rfl) (Nat.le_of_ble_eq_true rfl)
  refine lv_icmp_ne (tgt := 37) hx hb dX6_readTiles_30 (by decide) (fun c30 => ?_) (fun c30 => ?_)
  · have hF := iff_ c30 hF
    refine lv_iconst (v := 0) hx hb dX6_readTiles_37 (by decide) ?_
    exact J38 0 _ _ ls bl0 hP hS (lv_sub hl [0, 1, 2, 3] rfl) hF
  · have hF := ift c30 hF
    refine lv_iconst (v := 1) hx hb dX6_readTiles_33 (by decide) ?_
    refine lv_goto (tgt := 38) hx hb dX6_readTiles_34 (by decide) ?_
    exact J38 1 _ _ ls bl1 hP hS (lv_sub hl [0, 1, 2, 3] rfl) hF
theorem hd_X6_readTilesV : yX6_readTiles.cls = RX6 ∧ yX6_readTiles.cls ≠ "java/lang/invoke/MethodHandle" ∧ yX6_readTiles.cls ≠ "java/lang/invoke/VarHandle" ∧ (parseMethodDescriptor yX6_readTiles.desc).map (fun d => d.parameters.length) = some 2 := by decide +kernel
