set_option maxHeartbeats 4000000 in
set_option maxRecDepth 100000 in
theorem c6_acceptTrialTiles (l : Launch) (hl0 : l.stackTraces = false) {D : va_G} {G : CY} {ad : Nat → Nat} {B0 : Nat} (hA : adOK B0 ad) (σ : Nat → Nat → Int32)  (hO : okS σ) : vx_Met l yX6_acceptTrialTiles wsX6_acceptTrialTiles { frames := 6, cells := 1, slots := 6, locals := 96 } (va_Pc [.ref (ad (270))] (Hx XEs D G ad B0 σ)) (va_Qv (fun (z : Nat → Nat → Int32) => ((Sum.inl 0, z) : RT) = f6_acceptTrialTiles σ ∧ okS z) (fun (z : Nat → Nat → Int32) => Ho D G ad z) (AA B0)) (XX D G ad B0 (fun E z => ((Sum.inr E, z) : RT) = f6_acceptTrialTiles σ ∧ okS z)) 1 6 (AA B0) := by
  refine vx_ofW (cc := cX6_acceptTrialTiles) (maxL := 1) (ret := none) (by decide) rfl ?_
  intro p e s m args below meth c s₁ B hml htab hv
  obtain ⟨rfl, ⟨hP, hK, hN⟩, hT, hL, adK, adV, hG, hR⟩ := hv
  have hx := B.exec
  have hb := B.bytes
  have hr := B.returns
  have hts := atoms_spec (ws := wsX6_acceptTrialTiles) B.pre
  have hown : s.vm.findClass RX6 = some m.cls := findClass_of_methodNamed B.named
  have hlocks := B.notSynchronized
  have inX5 : ∀ w ∈ wsX50, w ∈ wsX6_acceptTrialTiles := (fun w h => List.mem_cons_of_mem _ (List.mem_append_left _ (List.mem_append_left _ (List.mem_append_left _ (List.mem_append_left _ (List.mem_append_left _ (List.mem_append_right _ h)))))))
  have inX6 : ∀ w ∈ wsX60, w ∈ wsX6_acceptTrialTiles := (fun w h => List.mem_cons_of_mem _ (List.mem_append_left _ (List.mem_append_left _ (List.mem_append_left _ (List.mem_append_left _ (List.mem_append_left _ (List.mem_append_left _ (List.mem_append_right _ h))))))))
  have hP : va_P D vwCl (pool G ad σ) s.heap := hP
  have hS : va_S (AA B0) s.heap s.heap [] := va_S.rf
  have hl := lv_entry ([.ref (ad (270))]) (n := 1) (Nat.le_of_ble_eq_true rfl)
  rw [lg_entry_eq]
  generalize (lg_sl ([.ref (ad (270))]) ++ List.replicate (1 - (lg_sl ([.ref (ad (270))])).length) Slot.unset).toArray = ls at hl ⊢
  have hl : lv_has ls 1 [(0, .ref (ad (270)))] := hl
  obtain ⟨FF, hFF⟩ : ∃ z, z = f6_acceptTrialTiles σ := ⟨_, rfl⟩
  have hF := hFF.symm
  rw [f6_acceptTrialTiles] at hF
  refine lv_aload_n hx hb dX6_acceptTrialTiles_0 rfl (lv_at hl 0 rfl) ?_
  refine va_get (D := D) (ci := 8) (C := RX6) (T := TX6) (N := 9) hx hb hts inX6 hown hK hP (270) g_270 rfl 1 (by decide) (hts (.fieldLink RX6 16 "TileRunners" "trial" "LTileRunners$World;") (List.mem_of_getElem? (i := 3) rfl)) (fun _ h9 => h9) rfl dX6_acceptTrialTiles_1 ?_
  have hP := f_eta 1 hP
  refine va_calli (va_runV (As := []) (rest := []) ⟨hx, hb, hml, hown, hts⟩ (c5_hasBlockedBody l hA σ (σ 1) 1 (by decide) (hO.1 1 (by decide))) (cwV 0 hts gX6_acceptTrialTiles_X5_hasBlockedBody rfl rfl rfl hd_X5_hasBlockedBodyV ⟨Nat.le_of_ble_eq_true rfl, Nat.le_of_ble_eq_true rfl⟩) ⟨hp_blind, va_recv hK hP (ci := 7) (q0 := 18*1+0) rfl (c_o (by decide)), hp_pre hK hN hP⟩ rfl rfl hl.1 rfl (lv_room (Nat.le_of_ble_eq_true rfl)) dX6_acceptTrialTiles_4 ⟨Nat.le_of_ble_eq_true rfl, Nat.le_of_ble_eq_true rfl⟩) hS (fun _ _ h => h) (fun _ h => h) (fun r4 _ t H locs ht hvm hw9 hB hz1 hk1 hS => ?_)
  have hP := ho_at ht hB
  obtain ⟨eq4, hb_r4⟩ := hw9
  rw [up_eta] at hP
  have hF := bnd_s eq4 hF
  refine lv_if_eq (tgt := 21) hx hb dX6_acceptTrialTiles_7 (by decide) (fun c7 => ?_) (fun c7 => ?_)
  · have hF := ift c7 hF
    refine lv_aload_n hx hb dX6_acceptTrialTiles_21 rfl (lv_at hl 0 rfl) ?_
    refine va_get (D := D) (ci := 8) (C := RX6) (T := TX6) (N := 9) hx hb hts inX6 hown hK hP (270) g_270 rfl 0 (by decide) (hts (.fieldLink RX6 12 "TileRunners" "world" "LTileRunners$World;") (List.mem_of_getElem? (i := 4) rfl)) (fun _ h9 => h9) rfl dX6_acceptTrialTiles_22 ?_
    refine va_get (D := D) (ci := 7) (C := RX5) (T := TX5) (N := 7) hx hb hts inX5 hown hK hP (18*0+0) (g_o (by decide)) rfl 0 (by decide) (hts (.fieldLink RX6 71 "TileRunners$World" "tiles" "LTileRunners$Tiles;") (List.mem_of_getElem? (i := 5) rfl)) (fun _ h9 => h9) rfl dX6_acceptTrialTiles_25 ?_
    refine lv_aload_n hx hb dX6_acceptTrialTiles_28 rfl (lv_at hl 0 rfl) ?_
    refine va_get (D := D) (ci := 8) (C := RX6) (T := TX6) (N := 9) hx hb hts inX6 hown hK hP (270) g_270 rfl 1 (by decide) (hts (.fieldLink RX6 16 "TileRunners" "trial" "LTileRunners$World;") (List.mem_of_getElem? (i := 3) rfl)) (fun _ h9 => h9) rfl dX6_acceptTrialTiles_29 ?_
    refine va_get (D := D) (ci := 7) (C := RX5) (T := TX5) (N := 7) hx hb hts inX5 hown hK hP (18*1+0) (g_o (by decide)) rfl 0 (by decide) (hts (.fieldLink RX6 71 "TileRunners$World" "tiles" "LTileRunners$Tiles;") (List.mem_of_getElem? (i := 5) rfl)) (fun _ h9 => h9) rfl dX6_acceptTrialTiles_32 ?_
    refine va_callv (va_runV (As := [.ref (ad (18*1+1))]) (rest := []) ⟨hx, hb, hml, hown, hts⟩ (c4_copyFrom l hA σ 0 (by decide) 1 (by decide) hO) (cwV 1 hts gX6_acceptTrialTiles_X4_copyFrom rfl rfl rfl hd_X4_copyFromV ⟨Nat.le_of_ble_eq_true rfl, Nat.le_of_ble_eq_true rfl⟩) ⟨hp_blind, va_recv hK hP (ci := 6) (q0 := 18*0+1) rfl (g_t (by decide)), hp_pre hK hN hP⟩ rfl rfl hl.1 rfl (lv_room (Nat.le_of_ble_eq_true rfl)) dX6_acceptTrialTiles_35 ⟨Nat.le_of_ble_eq_true rfl, Nat.le_of_ble_eq_true rfl⟩) hS (fun _ _ h => h) (fun _ h => h) (fun u9 t H locs ht hvm hw9 hB hz1 hk1 hS => ?_)
    have hP := ho_at ht hB
    obtain ⟨eq35, ok9⟩ := hw9
    obtain ⟨σ35, e_σ35⟩ : ∃ z, z = u9 := ⟨_, rfl⟩
    rw [← e_σ35] at hP eq35 ok9
    have hO := ok9
    have hF := bnd_s eq35 hF
    refine lv_aload_n hx hb dX6_acceptTrialTiles_38 rfl (lv_at hl 0 rfl) ?_
    refine va_get (D := D) (ci := 8) (C := RX6) (T := TX6) (N := 9) hx hb hts inX6 hown hK hP (270) g_270 rfl 5 (by decide) (hts (.fieldLink RX6 40 "TileRunners" "history" "LTileRunners$History;") (List.mem_of_getElem? (i := 6) rfl)) (fun _ h9 => h9) rfl dX6_acceptTrialTiles_39 ?_
    refine va_callv (va_runV (As := []) (rest := []) ⟨hx, hb, hml, hown, hts⟩ (c1_forget l hA σ35  hO) (cwV 0 hts gX6_acceptTrialTiles_X1_forget rfl rfl rfl hd_X1_forgetV ⟨Nat.le_of_ble_eq_true rfl, Nat.le_of_ble_eq_true rfl⟩) ⟨hp_blind, va_recv hK hP (ci := 3) (q0 := 273) rfl g_273, hp_pre hK hN hP⟩ rfl rfl hl.1 rfl (lv_room (Nat.le_of_ble_eq_true rfl)) dX6_acceptTrialTiles_42 ⟨Nat.le_of_ble_eq_true rfl, Nat.le_of_ble_eq_true rfl⟩) hS (fun _ _ h => h) (fun _ h => h) (fun u9 t H locs ht hvm hw9 hB hz1 hk1 hS => ?_)
    have hP := ho_at ht hB
    obtain ⟨eq42, ok9⟩ := hw9
    obtain ⟨σ42, e_σ42⟩ : ∃ z, z = u9 := ⟨_, rfl⟩
    rw [← e_σ42] at hP eq42 ok9
    have hO := ok9
    have hF := bnd_s eq42 hF
    exact vx_ret (W.widen (Nat.le_of_ble_eq_true rfl) (Nat.le_of_ble_eq_true rfl) (W.vret hx hb hr (fun t ht hW => ⟨⟨σ42, rfl, ⟨hF.trans hFF, hO⟩, ho_of ht hP⟩, hS.F ht⟩) hS.2.2 dX6_acceptTrialTiles_45))
  · have hF := iff_ c7 hF
    obtain ⟨sa9, hsa9⟩ := hL.1 (314, "a body would be blocked") (by decide)
    exact vx_throwSW (own := RX6) (cls := "java/lang/IllegalStateException") (names := ["java/lang/RuntimeException", "java/lang/Exception"]) (ik := 95) (is := 314) (ic := 99) (text := "a body would be blocked") (sa := sa9) hx hb hl0 hown (by decide) (by decide) (hts (.classLink RX6 95 "java/lang/IllegalStateException") (List.mem_of_getElem? (i := 1) rfl)) (hts (.initialized "java/lang/IllegalStateException") (List.mem_of_getElem? (i := 2) rfl)) hsa9 (hx_hat hL (by decide) (fun w h => hts w ((fun w h => List.mem_cons_of_mem _ (List.mem_append_left _ (List.mem_append_right _ h))) w h)) xa_101) xg_101 hT.1 hT.2 hS (hl.1.trans hml.symm) dX6_acceptTrialTiles_10 dX6_acceptTrialTiles_13 dX6_acceptTrialTiles_14 dX6_acceptTrialTiles_17 dX6_acceptTrialTiles_20 (fun x hx => (htab x hx).elim) (Nat.le_of_ble_eq_true rfl) (Nat.le_of_ble_eq_true rfl) (Nat.le_of_ble_eq_true rfl) (Nat.le_of_ble_eq_true rfl) hlocks (fun t9 a9 h1 h2 => ⟨("java/lang/IllegalStateException", σ), ⟨hF.trans hFF, hO⟩, ⟨rfl, (hx_out hP hS h1 h2).1⟩, (hx_out hP hS h1 h2).2⟩) hS.2.2 (Nat.le_of_ble_eq_true rfl) (Nat.le_of_ble_eq_true rfl)
theorem hd_X6_acceptTrialTilesV : yX6_acceptTrialTiles.cls = RX6 ∧ yX6_acceptTrialTiles.cls ≠ "java/lang/invoke/MethodHandle" ∧ yX6_acceptTrialTiles.cls ≠ "java/lang/invoke/VarHandle" ∧ (parseMethodDescriptor yX6_acceptTrialTiles.desc).map (fun d => d.parameters.length) = some 0 := by decide +kernel
set_option maxHeartbeats 4000000 in
set_option maxRecDepth 100000 in
theorem c6_setTile (l : Launch) (hl0 : l.stackTraces = false) {D : va_G} {G : CY} {ad : Nat → Nat} {B0 : Nat} (hA : adOK B0 ad) (σ : Nat → Nat → Int32) (a : Int32) (b : Int32) (c1 : Int32) (hO : okS σ) : vx_Met l yX6_setTile wsX6_setTile { frames := 7, cells := 3, slots := 18, locals := 117 } (va_Pc [.ref (ad (270)), .int a, .int b, .int c1] (Hx XEs D G ad B0 σ)) (va_Qi (fun (r : Int32) (z : Nat → Nat → Int32) => ((Sum.inl r, z) : RT) = f6_setTile σ a b c1 ∧ okS z) (fun (z : Nat → Nat → Int32) => Ho D G ad z) (AA B0)) (XX D G ad B0 (fun E z => ((Sum.inr E, z) : RT) = f6_setTile σ a b c1 ∧ okS z)) 3 18 (AA B0) := by
  refine vx_ofW (cc := cX6_setTile) (maxL := 5) (ret := (some .int)) (by decide) rfl ?_
  intro p e s m args below meth c s₁ B hml htab hv
  obtain ⟨rfl, ⟨hP, hK, hN⟩, hT, hL, adK, adV, hG, hR⟩ := hv
  have hx := B.exec
  have hb := B.bytes
  have hr := B.returns
  have hts := atoms_spec (ws := wsX6_setTile) B.pre
  have hown : s.vm.findClass RX6 = some m.cls := findClass_of_methodNamed B.named
  have hlocks := B.notSynchronized
  have inX5 : ∀ w ∈ wsX50, w ∈ wsX6_setTile := (fun w h => List.mem_cons_of_mem _ (List.mem_append_left _ (List.mem_append_left _ (List.mem_append_left _ (List.mem_append_left _ (List.mem_append_left _ (List.mem_append_left _ (List.mem_append_left _ (List.mem_append_left _ (List.mem_append_right _ h))))))))))
  have inX6 : ∀ w ∈ wsX60, w ∈ wsX6_setTile := (fun w h => List.mem_cons_of_mem _ (List.mem_append_left _ (List.mem_append_left _ (List.mem_append_left _ (List.mem_append_left _ (List.mem_append_left _ (List.mem_append_left _ (List.mem_append_left _ (List.mem_append_left _ (List.mem_append_left _ (List.mem_append_right _ h)))))))))))
  have hP : va_P D vwCl (pool G ad σ) s.heap := hP
  have hS : va_S (AA B0) s.heap s.heap [] := va_S.rf
  have hl := lv_entry ([.ref (ad (270)), .int a, .int b, .int c1]) (n := 5) (Nat.le_of_ble_eq_true rfl)
  rw [lg_entry_eq]
  generalize (lg_sl ([.ref (ad (270)), .int a, .int b, .int c1]) ++ List.replicate (5 - (lg_sl ([.ref (ad (270)), .int a, .int b, .int c1])).length) Slot.unset).toArray = ls at hl ⊢
  have hl : lv_has ls 5 [(0, .ref (ad (270))), (1, .int a), (2, .int b), (3, .int c1)] := hl
  obtain ⟨FF, hFF⟩ : ∃ z, z = f6_setTile σ a b c1 := ⟨_, rfl⟩
  have hF := hFF.symm
  rw [f6_setTile] at hF
  refine lv_iload_n hx hb dX6_setTile_0 rfl (lv_at hl 1 rfl) ?_
  refine lv_iload_n hx hb dX6_setTile_1 rfl (lv_at hl 2 rfl) ?_
  refine vx_callv (vx_runS (As := [.int a, .int b]) (rest := []) ⟨hx, hb, hml, hown, hts⟩ (c6_requireTile l hl0 hA σ a b hO) (va_cwS 2 hts gX6_setTile_X6_requireTile rfl rfl rfl hd_X6_requireTileS ⟨Nat.le_of_ble_eq_true rfl, Nat.le_of_ble_eq_true rfl⟩) ⟨hx_blind, hx_pre hK hN hT hL hG hR hS hP⟩ rfl rfl hl.1 rfl (lv_room (Nat.le_of_ble_eq_true rfl)) dX6_setTile_2 ⟨Nat.le_of_ble_eq_true rfl, Nat.le_of_ble_eq_true rfl⟩) hS (fun _ _ h => h) (fun _ h => h) (fun _ _ h => h) (fun E9 ce9 q9 z9 t9 H9 locs9 ht9 hvm9 hw9 hB9 hz9 hk9 hS9 hce9 hcv9 hcl9 => ?_) (fun u9 t H locs ht hvm hw9 hB hz1 hk1 hS => ?_)
  · obtain ⟨eqx, okx⟩ := hw9
    obtain ⟨rfl, hBx⟩ := hB9
    have hF := bndx_x eqx hF
    exact vx_out (fun x hx => (htab x hx).elim) hlocks hce9 hcv9 hcl9 (fun t8 h8 _ => ⟨z9, ⟨hF.trans hFF, okx⟩, ⟨rfl, ho_of h8 (ho_at ht9 hBx)⟩, hS9.F h8⟩) hS9.2.2 (Nat.le_of_ble_eq_true rfl) (Nat.le_of_ble_eq_true rfl)
  have hP := ho_at ht hB
  obtain ⟨eq2, ok9⟩ := hw9
  obtain ⟨σ2, e_σ2⟩ : ∃ z, z = u9 := ⟨_, rfl⟩
  rw [← e_σ2] at hP eq2 ok9
  have hO := ok9
  have hF := bndx_s eq2 hF
  refine lv_iload_n hx hb dX6_setTile_5 rfl (lv_at hl 3 rfl) ?_
  refine lv_iconst (v := 0) hx hb dX6_setTile_6 (by decide) ?_
  refine lv_bipush (v := 10) hx hb dX6_setTile_7 (by decide) ?_
  refine va_calli (va_runS (As := [.int c1, .int 0, .int 10]) (rest := []) ⟨hx, hb, hml, hown, hts⟩ (c6_isWithin l hA σ2 c1 0 10 ) (va_cwS 3 hts gX6_setTile_X6_isWithin rfl rfl rfl hd_X6_isWithinS ⟨Nat.le_of_ble_eq_true rfl, Nat.le_of_ble_eq_true rfl⟩) ⟨hp_blind, hp_pre hK hN hP⟩ rfl rfl hl.1 rfl (lv_room (Nat.le_of_ble_eq_true rfl)) dX6_setTile_9 ⟨Nat.le_of_ble_eq_true rfl, Nat.le_of_ble_eq_true rfl⟩) hS (fun _ _ h => h) (fun _ h => h) (fun r9 _ t H locs ht hvm hw9 hB hz1 hk1 hS => ?_)
  have hP := ho_at ht hB
  obtain ⟨eq9, hb_r9⟩ := hw9
  have hF := bnd_s eq9 hF
  refine vx_callv (vx_runS (As := [.int r9]) (rest := []) ⟨hx, hb, hml, hown, hts⟩ (c6_require l hl0 hA σ2 r9 hO hb_r9) (va_cwS 1 hts gX6_setTile_X6_require rfl rfl rfl hd_X6_requireS ⟨Nat.le_of_ble_eq_true rfl, Nat.le_of_ble_eq_true rfl⟩) ⟨hx_blind, hx_pre hK hN hT hL hG hR hS hP⟩ rfl rfl hl.1 rfl (lv_room (Nat.le_of_ble_eq_true rfl)) dX6_setTile_12 ⟨Nat.le_of_ble_eq_true rfl, Nat.le_of_ble_eq_true rfl⟩) hS (fun _ _ h => h) (fun _ h => h) (fun _ _ h => h) (fun E9 ce9 q9 z9 t9 H9 locs9 ht9 hvm9 hw9 hB9 hz9 hk9 hS9 hce9 hcv9 hcl9 => ?_) (fun u9 t H locs ht hvm hw9 hB hz1 hk1 hS => ?_)
  · obtain ⟨eqx, okx⟩ := hw9
    obtain ⟨rfl, hBx⟩ := hB9
    have hF := bndx_x eqx hF
    exact vx_out (fun x hx => (htab x hx).elim) hlocks hce9 hcv9 hcl9 (fun t8 h8 _ => ⟨z9, ⟨hF.trans hFF, okx⟩, ⟨rfl, ho_of h8 (ho_at ht9 hBx)⟩, hS9.F h8⟩) hS9.2.2 (Nat.le_of_ble_eq_true rfl) (Nat.le_of_ble_eq_true rfl)
  have hP := ho_at ht hB
  obtain ⟨eq12, ok9⟩ := hw9
  obtain ⟨σ12, e_σ12⟩ : ∃ z, z = u9 := ⟨_, rfl⟩
  rw [← e_σ12] at hP eq12 ok9
  have hO := ok9
  have hF := bndx_s eq12 hF
  refine lv_aload_n hx hb dX6_setTile_15 rfl (lv_at hl 0 rfl) ?_
  refine va_get (D := D) (ci := 8) (C := RX6) (T := TX6) (N := 9) hx hb hts inX6 hown hK hP (270) g_270 rfl 0 (by decide) (hts (.fieldLink RX6 12 "TileRunners" "world" "LTileRunners$World;") (List.mem_of_getElem? (i := 1) rfl)) (fun _ h9 => h9) rfl dX6_setTile_16 ?_
  refine va_get (D := D) (ci := 7) (C := RX5) (T := TX5) (N := 7) hx hb hts inX5 hown hK hP (18*0+0) (g_o (by decide)) rfl 0 (by decide) (hts (.fieldLink RX6 71 "TileRunners$World" "tiles" "LTileRunners$Tiles;") (List.mem_of_getElem? (i := 2) rfl)) (fun _ h9 => h9) rfl dX6_setTile_19 ?_
  refine lv_iload_n hx hb dX6_setTile_22 rfl (lv_at hl 1 rfl) ?_
  refine lv_iload_n hx hb dX6_setTile_23 rfl (lv_at hl 2 rfl) ?_
  have hP := f_eta 0 hP
  refine va_calli (va_runV (As := [.int a, .int b]) (rest := []) ⟨hx, hb, hml, hown, hts⟩ (c4_kindAt l hA σ12 (σ12 0) 0 (by decide) a b ) (cwV 2 hts gX6_setTile_X4_kindAt rfl rfl rfl hd_X4_kindAtV ⟨Nat.le_of_ble_eq_true rfl, Nat.le_of_ble_eq_true rfl⟩) ⟨hp_blind, va_recv hK hP (ci := 6) (q0 := 18*0+1) rfl (c_t (by decide)), hp_pre hK hN hP⟩ rfl rfl hl.1 rfl (lv_room (Nat.le_of_ble_eq_true rfl)) dX6_setTile_24 ⟨Nat.le_of_ble_eq_true rfl, Nat.le_of_ble_eq_true rfl⟩) hS (fun _ _ h => h) (fun _ h => h) (fun r24 _ t H locs ht hvm hw9 hB hz1 hk1 hS => ?_)
  have hP := ho_at ht hB
  have eq24 := hw9
  rw [up_eta] at hP
  have hF := bnd_s eq24 hF
  refine lv_istore (lv' := [(4, .int r24), (0, .ref (ad (270))), (1, .int a), (2, .int b), (3, .int c1)]) hx hb dX6_setTile_27 hl (by decide) rfl (fun ls hl => ?_)
  refine lv_aload_n hx hb dX6_setTile_29 rfl (lv_at hl 1 rfl) ?_
  refine va_get (D := D) (ci := 8) (C := RX6) (T := TX6) (N := 9) hx hb hts inX6 hown hK hP (270) g_270 rfl 1 (by decide) (hts (.fieldLink RX6 16 "TileRunners" "trial" "LTileRunners$World;") (List.mem_of_getElem? (i := 3) rfl)) (fun _ h9 => h9) rfl dX6_setTile_30 ?_
  refine lv_aload_n hx hb dX6_setTile_33 rfl (lv_at hl 1 rfl) ?_
  refine va_get (D := D) (ci := 8) (C := RX6) (T := TX6) (N := 9) hx hb hts inX6 hown hK hP (270) g_270 rfl 0 (by decide) (hts (.fieldLink RX6 12 "TileRunners" "world" "LTileRunners$World;") (List.mem_of_getElem? (i := 1) rfl)) (fun _ h9 => h9) rfl dX6_setTile_34 ?_
  refine va_callv (va_runV (As := [.ref (ad (18*0+0))]) (rest := []) ⟨hx, hb, hml, hown, hts⟩ (c5_copyFrom l hA σ12 1 (by decide) 0 (by decide) hO) (cwV 1 hts gX6_setTile_X5_copyFrom rfl rfl rfl hd_X5_copyFromV ⟨Nat.le_of_ble_eq_true rfl, Nat.le_of_ble_eq_true rfl⟩) ⟨hp_blind, va_recv hK hP (ci := 7) (q0 := 18*1+0) rfl (g_o (by decide)), hp_pre hK hN hP⟩ rfl rfl hl.1 rfl (lv_room (Nat.le_of_ble_eq_true rfl)) dX6_setTile_37 ⟨Nat.le_of_ble_eq_true rfl, Nat.le_of_ble_eq_true rfl⟩) hS (fun _ _ h => h) (fun _ h => h) (fun u9 t H locs ht hvm hw9 hB hz1 hk1 hS => ?_)
  have hP := ho_at ht hB
  obtain ⟨eq37, ok9⟩ := hw9
  obtain ⟨σ37, e_σ37⟩ : ∃ z, z = u9 := ⟨_, rfl⟩
  rw [← e_σ37] at hP eq37 ok9
  have hO := ok9
  have hF := bnd_s eq37 hF
  refine lv_aload_n hx hb dX6_setTile_40 rfl (lv_at hl 1 rfl) ?_
  refine va_get (D := D) (ci := 8) (C := RX6) (T := TX6) (N := 9) hx hb hts inX6 hown hK hP (270) g_270 rfl 1 (by decide) (hts (.fieldLink RX6 16 "TileRunners" "trial" "LTileRunners$World;") (List.mem_of_getElem? (i := 3) rfl)) (fun _ h9 => h9) rfl dX6_setTile_41 ?_
  refine va_get (D := D) (ci := 7) (C := RX5) (T := TX5) (N := 7) hx hb hts inX5 hown hK hP (18*1+0) (g_o (by decide)) rfl 0 (by decide) (hts (.fieldLink RX6 71 "TileRunners$World" "tiles" "LTileRunners$Tiles;") (List.mem_of_getElem? (i := 2) rfl)) (fun _ h9 => h9) rfl dX6_setTile_44 ?_
  refine lv_iload_n hx hb dX6_setTile_47 rfl (lv_at hl 2 rfl) ?_
  refine lv_iload_n hx hb dX6_setTile_48 rfl (lv_at hl 3 rfl) ?_
  refine lv_iload_n hx hb dX6_setTile_49 rfl (lv_at hl 4 rfl) ?_
  have hP := f_eta 1 hP
  refine va_callv (va_runV (As := [.int a, .int b, .int c1]) (rest := []) ⟨hx, hb, hml, hown, hts⟩ (c4_put l hA σ37 (σ37 1) 1 (by decide) a b c1 (hO.1 1 (by decide))) (cwV 3 hts gX6_setTile_X4_put rfl rfl rfl hd_X4_putV ⟨Nat.le_of_ble_eq_true rfl, Nat.le_of_ble_eq_true rfl⟩) ⟨hp_blind, va_recv hK hP (ci := 6) (q0 := 18*1+1) rfl (c_t (by decide)), hp_pre hK hN hP⟩ rfl rfl hl.1 rfl (lv_room (Nat.le_of_ble_eq_true rfl)) dX6_setTile_50 ⟨Nat.le_of_ble_eq_true rfl, Nat.le_of_ble_eq_true rfl⟩) hS (fun _ _ h => h) (fun _ h => h) (fun u9 t H locs ht hvm hw9 hB hz1 hk1 hS => ?_)
  have hP := ho_at ht hB
  obtain ⟨eq50, ok9⟩ := hw9
  obtain ⟨σ50, e_σ50⟩ : ∃ z, z = va_up σ37 1 u9 := ⟨_, rfl⟩
  rw [← e_σ50] at hP
  have hF := bnd_s eq50 hF
  have hF := bnd_s e_σ50 hF
  have hO := okS_row e_σ50 hO (by decide) ok9
  refine lv_aload_n hx hb dX6_setTile_53 rfl (lv_at hl 1 rfl) ?_
  refine vx_callv (vx_runV (As := []) (rest := []) ⟨hx, hb, hml, hown, hts⟩ (c6_acceptTrialTiles l hl0 hA σ50  hO) (cwV 0 hts gX6_setTile_X6_acceptTrialTiles rfl rfl rfl hd_X6_acceptTrialTilesV ⟨Nat.le_of_ble_eq_true rfl, Nat.le_of_ble_eq_true rfl⟩) ⟨hx_blind, va_recv hK hP (ci := 8) (q0 := 270) rfl g_270, hx_pre hK hN hT hL hG hR hS hP⟩ rfl rfl hl.1 rfl (lv_room (Nat.le_of_ble_eq_true rfl)) dX6_setTile_54 ⟨Nat.le_of_ble_eq_true rfl, Nat.le_of_ble_eq_true rfl⟩) hS (fun _ _ h => h) (fun _ h => h) (fun _ _ h => h) (fun E9 ce9 q9 z9 t9 H9 locs9 ht9 hvm9 hw9 hB9 hz9 hk9 hS9 hce9 hcv9 hcl9 => ?_) (fun u9 t H locs ht hvm hw9 hB hz1 hk1 hS => ?_)
  · obtain ⟨eqx, okx⟩ := hw9
    obtain ⟨rfl, hBx⟩ := hB9
    have hF := bndx_x eqx hF
    exact vx_out (fun x hx => (htab x hx).elim) hlocks hce9 hcv9 hcl9 (fun t8 h8 _ => ⟨z9, ⟨hF.trans hFF, okx⟩, ⟨rfl, ho_of h8 (ho_at ht9 hBx)⟩, hS9.F h8⟩) hS9.2.2 (Nat.le_of_ble_eq_true rfl) (Nat.le_of_ble_eq_true rfl)
  have hP := ho_at ht hB
  obtain ⟨eq54, ok9⟩ := hw9
  obtain ⟨σ54, e_σ54⟩ : ∃ z, z = u9 := ⟨_, rfl⟩
  rw [← e_σ54] at hP eq54 ok9
  have hO := ok9
  have hF := bndx_s eq54 hF
  refine lv_iload hx hb dX6_setTile_57 (lv_at hl 0 rfl) ?_
  exact vx_ret (W.widen (Nat.le_of_ble_eq_true rfl) (Nat.le_of_ble_eq_true rfl) (W.iret (v := r24) hx hb hr (fun t ht hW => ⟨⟨r24, σ54, rfl, ⟨hF.trans hFF, hO⟩, ho_of ht hP⟩, hS.F ht⟩) hS.2.2 dX6_setTile_59))
theorem hd_X6_setTileV : yX6_setTile.cls = RX6 ∧ yX6_setTile.cls ≠ "java/lang/invoke/MethodHandle" ∧ yX6_setTile.cls ≠ "java/lang/invoke/VarHandle" ∧ (parseMethodDescriptor yX6_setTile.desc).map (fun d => d.parameters.length) = some 3 := by decide +kernel
set_option maxHeartbeats 4000000 in
set_option maxRecDepth 100000 in
theorem c6_addBody (l : Launch) (hl0 : l.stackTraces = false) {D : va_G} {G : CY} {ad : Nat → Nat} {B0 : Nat} (hA : adOK B0 ad) (σ : Nat → Nat → Int32) (a : Int32) (b : Int32) (c1 : Int32) (d : Int32) (hO : okS σ) : vx_Met l yX6_addBody wsX6_addBody { frames := 7, cells := 3, slots := 18, locals := 116 } (va_Pc [.ref (ad (270)), .int a, .int b, .int c1, .int d] (Hx XEs D G ad B0 σ)) (va_Qi (fun (r : Int32) (z : Nat → Nat → Int32) => ((Sum.inl r, z) : RT) = f6_addBody σ a b c1 d ∧ okS z) (fun (z : Nat → Nat → Int32) => Ho D G ad z) (AA B0)) (XX D G ad B0 (fun E z => ((Sum.inr E, z) : RT) = f6_addBody σ a b c1 d ∧ okS z)) 3 18 (AA B0) := by
  refine vx_ofW (cc := cX6_addBody) (maxL := 7) (ret := (some .int)) (by decide) rfl ?_
  intro p e s m args below meth c s₁ B hml htab hv
  obtain ⟨rfl, ⟨hP, hK, hN⟩, hT, hL, adK, adV, hG, hR⟩ := hv
  have hx := B.exec
  have hb := B.bytes
  have hr := B.returns
  have hts := atoms_spec (ws := wsX6_addBody) B.pre
  have hown : s.vm.findClass RX6 = some m.cls := findClass_of_methodNamed B.named
  have hlocks := B.notSynchronized
  have inX5 : ∀ w ∈ wsX50, w ∈ wsX6_addBody := (fun w h => List.mem_cons_of_mem _ (List.mem_append_left _ (List.mem_append_left _ (List.mem_append_left _ (List.mem_append_left _ (List.mem_append_left _ (List.mem_append_left _ (List.mem_append_right _ h))))))))
  have inX6 : ∀ w ∈ wsX60, w ∈ wsX6_addBody := (fun w h => List.mem_cons_of_mem _ (List.mem_append_left _ (List.mem_append_left _ (List.mem_append_left _ (List.mem_append_left _ (List.mem_append_left _ (List.mem_append_left _ (List.mem_append_left _ (List.mem_append_right _ h)))))))))
  have hP : va_P D vwCl (pool G ad σ) s.heap := hP
  have hS : va_S (AA B0) s.heap s.heap [] := va_S.rf
  have hl := lv_entry ([.ref (ad (270)), .int a, .int b, .int c1, .int d]) (n := 7) (Nat.le_of_ble_eq_true rfl)
  rw [lg_entry_eq]
  generalize (lg_sl ([.ref (ad (270)), .int a, .int b, .int c1, .int d]) ++ List.replicate (7 - (lg_sl ([.ref (ad (270)), .int a, .int b, .int c1, .int d])).length) Slot.unset).toArray = ls at hl ⊢
  have hl : lv_has ls 7 [(0, .ref (ad (270))), (1, .int a), (2, .int b), (3, .int c1), (4, .int d)] := hl
  obtain ⟨FF, hFF⟩ : ∃ z, z = f6_addBody σ a b c1 d := ⟨_, rfl⟩
  have hF := hFF.symm
  rw [f6_addBody] at hF
  refine lv_iload_n hx hb dX6_addBody_0 rfl (lv_at hl 1 rfl) ?_
  refine lv_iconst (v := 0) hx hb dX6_addBody_1 (by decide) ?_
  refine lv_sipush (v := 383) hx hb dX6_addBody_2 (by decide) ?_
  refine va_calli (va_runS (As := [.int a, .int 0, .int 383]) (rest := []) ⟨hx, hb, hml, hown, hts⟩ (c6_isWithin l hA σ a 0 383 ) (va_cwS 3 hts gX6_addBody_X6_isWithin rfl rfl rfl hd_X6_isWithinS ⟨Nat.le_of_ble_eq_true rfl, Nat.le_of_ble_eq_true rfl⟩) ⟨hp_blind, hp_pre hK hN hP⟩ rfl rfl hl.1 rfl (lv_room (Nat.le_of_ble_eq_true rfl)) dX6_addBody_5 ⟨Nat.le_of_ble_eq_true rfl, Nat.le_of_ble_eq_true rfl⟩) hS (fun _ _ h => h) (fun _ h => h) (fun r5 _ t H locs ht hvm hw9 hB hz1 hk1 hS => ?_)
  have hP := ho_at ht hB
  obtain ⟨eq5, hb_r5⟩ := hw9
  have hF := bnd_s eq5 hF
  have J27 : ∀ (t0_27 : Int32) (H : Heap) (locs : List Loc) (ls : Array Slot), bl t0_27 → va_P D vwCl (pool G ad σ) H → va_S (AA B0) s.heap H locs → lv_has ls 7 [(0, .ref (ad (270))), (1, .int a), (2, .int b), (3, .int c1), (4, .int d)] → f6_addBody_b27 σ a b c1 d t0_27 = FF → W p l e (headSpec wsX6_addBody { frames := 7, cells := 3, slots := 18, locals := 116 }).room s m ([.ref (ad (270)), .int a, .int b, .int c1, .int d] : List Value).toArray below meth c H locs 0 0 (vx_MQ below (va_Qi (fun (r : Int32) (z : Nat → Nat → Int32) => ((Sum.inl r, z) : RT) = f6_addBody σ a b c1 d ∧ okS z) (fun (z : Nat → Nat → Int32) => Ho D G ad z) (AA B0)) (XX D G ad B0 (fun E z => ((Sum.inr E, z) : RT) = f6_addBody σ a b c1 d ∧ okS z)) ([.ref (ad (270)), .int a, .int b, .int c1, .int d] : List Value).toArray s 3 18 (AA B0)) (F0 m 27 ls [.int t0_27]) := by
    intro t0_27 H locs ls hb_t0_27 hP hS hl hF
    rw [f6_addBody_b27] at hF
    refine vx_callv (vx_runS (As := [.int t0_27]) (rest := []) ⟨hx, hb, hml, hown, hts⟩ (c6_require l hl0 hA σ t0_27 hO hb_t0_27) (va_cwS 1 hts gX6_addBody_X6_require rfl rfl rfl hd_X6_requireS ⟨Nat.le_of_ble_eq_true rfl, Nat.le_of_ble_eq_true rfl⟩) ⟨hx_blind, hx_pre hK hN hT hL hG hR hS hP⟩ rfl rfl hl.1 rfl (lv_room (Nat.le_of_ble_eq_true rfl)) dX6_addBody_27 ⟨Nat.le_of_ble_eq_true rfl, Nat.le_of_ble_eq_true rfl⟩) hS (fun _ _ h => h) (fun _ h => h) (fun _ _ h => h) (fun E9 ce9 q9 z9 t9 H9 locs9 ht9 hvm9 hw9 hB9 hz9 hk9 hS9 hce9 hcv9 hcl9 => ?_) (fun u9 t H locs ht hvm hw9 hB hz1 hk1 hS => ?_)
    · obtain ⟨eqx, okx⟩ := hw9
      obtain ⟨rfl, hBx⟩ := hB9
      have hF := bndx_x eqx hF
      exact vx_out (fun x hx => (htab x hx).elim) hlocks hce9 hcv9 hcl9 (fun t8 h8 _ => ⟨z9, ⟨hF.trans hFF, okx⟩, ⟨rfl, ho_of h8 (ho_at ht9 hBx)⟩, hS9.F h8⟩) hS9.2.2 (Nat.le_of_ble_eq_true rfl) (Nat.le_of_ble_eq_true rfl)
    have hP := ho_at ht hB
    obtain ⟨eq27, ok9⟩ := hw9
    obtain ⟨σ27, e_σ27⟩ : ∃ z, z = u9 := ⟨_, rfl⟩
    rw [← e_σ27] at hP eq27 ok9
    have hO := ok9
    have hF := bndx_s eq27 hF
    refine lv_iload_n hx hb dX6_addBody_30 rfl (lv_at hl 3 rfl) ?_
    refine lv_iconst (v := 4) hx hb dX6_addBody_31 (by decide) ?_
    refine lv_bipush (v := 16) hx hb dX6_addBody_32 (by decide) ?_
    refine va_calli (va_runS (As := [.int c1, .int 4, .int 16]) (rest := []) ⟨hx, hb, hml, hown, hts⟩ (c6_isWithin l hA σ27 c1 4 16 ) (va_cwS 3 hts gX6_addBody_X6_isWithin rfl rfl rfl hd_X6_isWithinS ⟨Nat.le_of_ble_eq_true rfl, Nat.le_of_ble_eq_true rfl⟩) ⟨hp_blind, hp_pre hK hN hP⟩ rfl rfl hl.1 rfl (lv_room (Nat.le_of_ble_eq_true rfl)) dX6_addBody_34 ⟨Nat.le_of_ble_eq_true rfl, Nat.le_of_ble_eq_true rfl⟩) hS (fun _ _ h => h) (fun _ h => h) (fun r34 _ t H locs ht hvm hw9 hB hz1 hk1 hS => ?_)
    have hP := ho_at ht hB
    obtain ⟨eq34, hb_r34⟩ := hw9
    have hF := bnd_s eq34 hF
    have J56 : ∀ (t0_56 : Int32) (H : Heap) (locs : List Loc) (ls : Array Slot), bl t0_56 → va_P D vwCl (pool G ad σ27) H → va_S (AA B0) s.heap H locs → lv_has ls 7 [(0, .ref (ad (270))), (1, .int a), (2, .int b), (3, .int c1), (4, .int d)] → f6_addBody_b56 a b c1 d σ27 t0_56 = FF → W p l e (headSpec wsX6_addBody { frames := 7, cells := 3, slots := 18, locals := 116 }).room s m ([.ref (ad (270)), .int a, .int b, .int c1, .int d] : List Value).toArray below meth c H locs 1 6 (vx_MQ below (va_Qi (fun (r : Int32) (z : Nat → Nat → Int32) => ((Sum.inl r, z) : RT) = f6_addBody σ a b c1 d ∧ okS z) (fun (z : Nat → Nat → Int32) => Ho D G ad z) (AA B0)) (XX D G ad B0 (fun E z => ((Sum.inr E, z) : RT) = f6_addBody σ a b c1 d ∧ okS z)) ([.ref (ad (270)), .int a, .int b, .int c1, .int d] : List Value).toArray s 3 18 (AA B0)) (F0 m 56 ls [.int t0_56]) := by
      intro t0_56 H locs ls hb_t0_56 hP hS hl hF
      rw [f6_addBody_b56] at hF
      refine vx_callv (vx_runS (As := [.int t0_56]) (rest := []) ⟨hx, hb, hml, hown, hts⟩ (c6_require l hl0 hA σ27 t0_56 hO hb_t0_56) (va_cwS 1 hts gX6_addBody_X6_require rfl rfl rfl hd_X6_requireS ⟨Nat.le_of_ble_eq_true rfl, Nat.le_of_ble_eq_true rfl⟩) ⟨hx_blind, hx_pre hK hN hT hL hG hR hS hP⟩ rfl rfl hl.1 rfl (lv_room (Nat.le_of_ble_eq_true rfl)) dX6_addBody_56 ⟨Nat.le_of_ble_eq_true rfl, Nat.le_of_ble_eq_true rfl⟩) hS (fun _ _ h => h) (fun _ h => h) (fun _ _ h => h) (fun E9 ce9 q9 z9 t9 H9 locs9 ht9 hvm9 hw9 hB9 hz9 hk9 hS9 hce9 hcv9 hcl9 => ?_) (fun u9 t H locs ht hvm hw9 hB hz1 hk1 hS => ?_)
      · obtain ⟨eqx, okx⟩ := hw9
        obtain ⟨rfl, hBx⟩ := hB9
        have hF := bndx_x eqx hF
        exact vx_out (fun x hx => (htab x hx).elim) hlocks hce9 hcv9 hcl9 (fun t8 h8 _ => ⟨z9, ⟨hF.trans hFF, okx⟩, ⟨rfl, ho_of h8 (ho_at ht9 hBx)⟩, hS9.F h8⟩) hS9.2.2 (Nat.le_of_ble_eq_true rfl) (Nat.le_of_ble_eq_true rfl)
      have hP := ho_at ht hB
      obtain ⟨eq56, ok9⟩ := hw9
      obtain ⟨σ56, e_σ56⟩ : ∃ z, z = u9 := ⟨_, rfl⟩
      rw [← e_σ56] at hP eq56 ok9
      have hO := ok9
      have hF := bndx_s eq56 hF
      refine lv_aload_n hx hb dX6_addBody_59 rfl (lv_at hl 0 rfl) ?_
      refine va_get (D := D) (ci := 8) (C := RX6) (T := TX6) (N := 9) hx hb hts inX6 hown hK hP (270) g_270 rfl 0 (by decide) (hts (.fieldLink RX6 12 "TileRunners" "world" "LTileRunners$World;") (List.mem_of_getElem? (i := 3) rfl)) (fun _ h9 => h9) rfl dX6_addBody_60 ?_
      refine va_get (D := D) (ci := 7) (C := RX5) (T := TX5) (N := 7) hx hb hts inX5 hown hK hP (18*0+0) (g_o (by decide)) rfl 4 (by decide) (hts (.fieldLink RX6 92 "TileRunners$World" "bodyCount" "I") (List.mem_of_getElem? (i := 4) rfl)) (fun _ h9 => h9) rfl dX6_addBody_63 ?_
      refine lv_iconst (v := 4) hx hb dX6_addBody_66 (by decide) ?_
      refine lv_icmp_lt (tgt := 80) hx hb dX6_addBody_67 (by decide) (fun c67 => ?_) (fun c67 => ?_)
      · have hF := ift c67 hF
        refine lv_aload_n hx hb dX6_addBody_80 rfl (lv_at hl 0 rfl) ?_
        refine va_get (D := D) (ci := 8) (C := RX6) (T := TX6) (N := 9) hx hb hts inX6 hown hK hP (270) g_270 rfl 0 (by decide) (hts (.fieldLink RX6 12 "TileRunners" "world" "LTileRunners$World;") (List.mem_of_getElem? (i := 3) rfl)) (fun _ h9 => h9) rfl dX6_addBody_81 ?_
        refine va_get (D := D) (ci := 7) (C := RX5) (T := TX5) (N := 7) hx hb hts inX5 hown hK hP (18*0+0) (g_o (by decide)) rfl 4 (by decide) (hts (.fieldLink RX6 92 "TileRunners$World" "bodyCount" "I") (List.mem_of_getElem? (i := 4) rfl)) (fun _ h9 => h9) rfl dX6_addBody_84 ?_
        refine lv_topi (fun v5_87 e_v5_87 => ?_)
        have hF := bnd_s e_v5_87 hF
        refine lv_istore (lv' := [(5, .int v5_87), (0, .ref (ad (270))), (1, .int a), (2, .int b), (3, .int c1), (4, .int d)]) hx hb dX6_addBody_87 hl (by decide) rfl (fun ls hl => ?_)
        refine lv_aload_n hx hb dX6_addBody_89 rfl (lv_at hl 1 rfl) ?_
        refine va_get (D := D) (ci := 8) (C := RX6) (T := TX6) (N := 9) hx hb hts inX6 hown hK hP (270) g_270 rfl 0 (by decide) (hts (.fieldLink RX6 12 "TileRunners" "world" "LTileRunners$World;") (List.mem_of_getElem? (i := 3) rfl)) (fun _ h9 => h9) rfl dX6_addBody_90 ?_
        refine va_get (D := D) (ci := 7) (C := RX5) (T := TX5) (N := 7) hx hb hts inX5 hown hK hP (18*0+0) (g_o (by decide)) rfl 1 (by decide) (hts (.fieldLink RX6 102 "TileRunners$World" "bodies" "[LTileRunners$Body;") (List.mem_of_getElem? (i := 5) rfl)) (fun _ h9 => h9) rfl dX6_addBody_93 ?_
        have hi5 : vp_in v5_87 4 := by rw [e_v5_87]; exact in_lt4 (hO.1 0 (by decide)).1 c67
        refine lv_iload hx hb dX6_addBody_96 (lv_at hl 0 rfl) ?_
        have hi_98 : v5_87.toNatClampNeg < 4 := in_lt (i := v5_87) hi5
        refine pqald (t0 := 2) (i := v5_87) hx hb hK hP (c_bs (by decide)) rfl hi5 dX6_addBody_98 ?_
        refine lv_astore (lv' := [(6, .ref (ad (18*0+(6+2*v5_87.toNatClampNeg)))), (5, .int v5_87), (0, .ref (ad (270))), (1, .int a), (2, .int b), (3, .int c1), (4, .int d)]) hx hb dX6_addBody_99 hl (by decide) rfl (fun ls hl => ?_)
        refine lv_aload hx hb dX6_addBody_101 (lv_at hl 0 rfl) ?_
        refine lv_iload_n hx hb dX6_addBody_103 rfl (lv_at hl 3 rfl) ?_
        refine lv_iload_n hx hb dX6_addBody_104 rfl (lv_at hl 4 rfl) ?_
        refine lv_iload_n hx hb dX6_addBody_105 rfl (lv_at hl 5 rfl) ?_
        refine lv_iload hx hb dX6_addBody_106 (lv_at hl 6 rfl) ?_
        have hP := f_eta 0 hP
        refine va_callv (va_runV (As := [.int a, .int b, .int c1, .int d]) (rest := []) ⟨hx, hb, hml, hown, hts⟩ (c0_begin l hA σ56 (σ56 0) 0 (by decide) v5_87.toNatClampNeg hi_98 a b c1 d (hO.1 0 (by decide))) (cwV 4 hts gX6_addBody_X0_begin rfl rfl rfl hd_X0_beginV ⟨Nat.le_of_ble_eq_true rfl, Nat.le_of_ble_eq_true rfl⟩) ⟨hp_blind, va_recv hK hP (ci := 2) (q0 := 18*0+(6+2*v5_87.toNatClampNeg)) rfl (c_b (by decide) hi_98), hp_pre hK hN hP⟩ rfl rfl hl.1 rfl (lv_room (Nat.le_of_ble_eq_true rfl)) dX6_addBody_108 ⟨Nat.le_of_ble_eq_true rfl, Nat.le_of_ble_eq_true rfl⟩) hS (fun _ _ h => h) (fun _ h => h) (fun u9 t H locs ht hvm hw9 hB hz1 hk1 hS => ?_)
        have hP := ho_at ht hB
        obtain ⟨eq108, ok9⟩ := hw9
        obtain ⟨σ108, e_σ108⟩ : ∃ z, z = va_up σ56 0 u9 := ⟨_, rfl⟩
        rw [← e_σ108] at hP
        have hF := bnd_s eq108 hF
        have hF := bnd_s e_σ108 hF
        have hO := okS_row e_σ108 hO (by decide) ok9
        refine lv_aload_n hx hb dX6_addBody_111 rfl (lv_at hl 2 rfl) ?_
        refine va_get (D := D) (ci := 8) (C := RX6) (T := TX6) (N := 9) hx hb hts inX6 hown hK hP (270) g_270 rfl 0 (by decide) (hts (.fieldLink RX6 12 "TileRunners" "world" "LTileRunners$World;") (List.mem_of_getElem? (i := 3) rfl)) (fun _ h9 => h9) rfl dX6_addBody_112 ?_
        refine va_get (D := D) (ci := 7) (C := RX5) (T := TX5) (N := 7) hx hb hts inX5 hown hK hP (18*0+0) (g_o (by decide)) rfl 0 (by decide) (hts (.fieldLink RX6 71 "TileRunners$World" "tiles" "LTileRunners$Tiles;") (List.mem_of_getElem? (i := 6) rfl)) (fun _ h9 => h9) rfl dX6_addBody_115 ?_
        refine lv_aload hx hb dX6_addBody_118 (lv_at hl 0 rfl) ?_
        refine lv_iload_n hx hb dX6_addBody_120 rfl (lv_at hl 3 rfl) ?_
        refine lv_iload_n hx hb dX6_addBody_121 rfl (lv_at hl 4 rfl) ?_
        have hP := f_eta 0 hP
        refine va_calli (va_runV (As := [.ref (ad (18*0+(6+2*v5_87.toNatClampNeg))), .int a, .int b]) (rest := []) ⟨hx, hb, hml, hown, hts⟩ (c4_block l hA σ108 (σ108 0) 0 (by decide) v5_87.toNatClampNeg hi_98 a b ) (cwV 3 hts gX6_addBody_X4_block rfl rfl rfl hd_X4_blockV ⟨Nat.le_of_ble_eq_true rfl, Nat.le_of_ble_eq_true rfl⟩) ⟨hp_blind, va_recv hK hP (ci := 6) (q0 := 18*0+1) rfl (c_t (by decide)), hp_pre hK hN hP⟩ rfl rfl hl.1 rfl (lv_room (Nat.le_of_ble_eq_true rfl)) dX6_addBody_122 ⟨Nat.le_of_ble_eq_true rfl, Nat.le_of_ble_eq_true rfl⟩) hS (fun _ _ h => h) (fun _ h => h) (fun r122 _ t H locs ht hvm hw9 hB hz1 hk1 hS => ?_)
        have hP := ho_at ht hB
        obtain ⟨eq122, hb_r122⟩ := hw9
        rw [up_eta] at hP
        have hF := bnd_s eq122 hF
        refine lv_if_eq (tgt := 138) hx hb dX6_addBody_125 (by decide) (fun c125 => ?_) (fun c125 => ?_)
        · have hF := ift c125 hF
          refine lv_aload_n hx hb dX6_addBody_138 rfl (lv_at hl 2 rfl) ?_
          refine va_get (D := D) (ci := 8) (C := RX6) (T := TX6) (N := 9) hx hb hts inX6 hown hK hP (270) g_270 rfl 0 (by decide) (hts (.fieldLink RX6 12 "TileRunners" "world" "LTileRunners$World;") (List.mem_of_getElem? (i := 3) rfl)) (fun _ h9 => h9) rfl dX6_addBody_139 ?_
          refine lv_iload hx hb dX6_addBody_142 (lv_at hl 1 rfl) ?_
          refine lv_iconst (v := 1) hx hb dX6_addBody_144 (by decide) ?_
          refine lv_iadd hx hb dX6_addBody_145 ?_
          have hP := f_eta 0 hP
          refine pput hx hb hts inX5 tyX5 tyX5_ok nmX5 hown hK hP hA hS (by decide) (j := 0) (by omega) rfl rfl 4 (by decide) (hts (.fieldLink RX6 92 "TileRunners$World" "bodyCount" "I") (List.mem_of_getElem? (i := 4) rfl)) (fun _ h9 => h9) rfl (tyX5_ok 4 (by decide)) rfl rfl (Nat.le_of_ble_eq_true rfl) (464) (by decide) (setO_4) dX6_addBody_146 (fun u9 H locs eu9 hP hS => ?_)
          obtain ⟨σ146, e_σ146⟩ : ∃ z, z = va_up σ108 0 (va_up (σ108 0) (464) (v5_87 + 1)) := ⟨_, rfl⟩
          rw [eu9, ← e_σ146] at hP
          have hF := bnd_s e_σ146 hF
          have hO := okS_row e_σ146 hO (by decide) (okW_cnt (hO.1 0 (by decide)) (Or.inl rfl) (pl_in4 hi5).1 (pl_in4 hi5).2)
          refine lv_aload_n hx hb dX6_addBody_149 rfl (lv_at hl 2 rfl) ?_
          refine va_get (D := D) (ci := 8) (C := RX6) (T := TX6) (N := 9) hx hb hts inX6 hown hK hP (270) g_270 rfl 5 (by decide) (hts (.fieldLink RX6 40 "TileRunners" "history" "LTileRunners$History;") (List.mem_of_getElem? (i := 7) rfl)) (fun _ h9 => h9) rfl dX6_addBody_150 ?_
          refine va_callv (va_runV (As := []) (rest := []) ⟨hx, hb, hml, hown, hts⟩ (c1_forget l hA σ146  hO) (cwV 0 hts gX6_addBody_X1_forget rfl rfl rfl hd_X1_forgetV ⟨Nat.le_of_ble_eq_true rfl, Nat.le_of_ble_eq_true rfl⟩) ⟨hp_blind, va_recv hK hP (ci := 3) (q0 := 273) rfl g_273, hp_pre hK hN hP⟩ rfl rfl hl.1 rfl (lv_room (Nat.le_of_ble_eq_true rfl)) dX6_addBody_153 ⟨Nat.le_of_ble_eq_true rfl, Nat.le_of_ble_eq_true rfl⟩) hS (fun _ _ h => h) (fun _ h => h) (fun u9 t H locs ht hvm hw9 hB hz1 hk1 hS => ?_)
          have hP := ho_at ht hB
          obtain ⟨eq153, ok9⟩ := hw9
          obtain ⟨σ153, e_σ153⟩ : ∃ z, z = u9 := ⟨_, rfl⟩
          rw [← e_σ153] at hP eq153 ok9
          have hO := ok9
          have hF := bnd_s eq153 hF
          refine lv_iload hx hb dX6_addBody_156 (lv_at hl 1 rfl) ?_
          exact vx_ret (W.widen (Nat.le_of_ble_eq_true rfl) (Nat.le_of_ble_eq_true rfl) (W.iret (v := v5_87) hx hb hr (fun t ht hW => ⟨⟨v5_87, σ153, rfl, ⟨hF.trans hFF, hO⟩, ho_of ht hP⟩, hS.F ht⟩) hS.2.2 dX6_addBody_158))
        · have hF := iff_ c125 hF
          obtain ⟨sa9, hsa9⟩ := hL.1 (116, "the body is blocked there") (by decide)
          exact vx_throwS (own := RX6) (cls := "java/lang/IllegalStateException") (names := ["java/lang/RuntimeException", "java/lang/Exception"]) (ik := 95) (is := 116) (ic := 99) (text := "the body is blocked there") (sa := sa9) hx hb hl0 hown (by decide) (by decide) (hts (.classLink RX6 95 "java/lang/IllegalStateException") (List.mem_of_getElem? (i := 1) rfl)) (hts (.initialized "java/lang/IllegalStateException") (List.mem_of_getElem? (i := 2) rfl)) hsa9 (hx_hat hL (by decide) (fun w h => hts w ((fun w h => List.mem_cons_of_mem _ (List.mem_append_left _ (List.mem_append_left _ (List.mem_append_right _ h)))) w h)) xa_101) xg_101 hT.1 hT.2 hS (hl.1.trans hml.symm) dX6_addBody_128 dX6_addBody_131 dX6_addBody_132 dX6_addBody_134 dX6_addBody_137 (fun x hx => (htab x hx).elim) (Nat.le_of_ble_eq_true rfl) (Nat.le_of_ble_eq_true rfl) (Nat.le_of_ble_eq_true rfl) (Nat.le_of_ble_eq_true rfl) hlocks (fun t9 a9 h1 h2 => ⟨("java/lang/IllegalStateException", σ108), ⟨hF.trans hFF, hO⟩, ⟨rfl, (hx_out hP hS h1 h2).1⟩, (hx_out hP hS h1 h2).2⟩) hS.2.2 (Nat.le_of_ble_eq_true rfl) (Nat.le_of_ble_eq_true rfl)
      · have hF := iff_ c67 hF
        obtain ⟨sa9, hsa9⟩ := hL.1 (97, "there are 4 bodies") (by decide)
        exact vx_throwS (own := RX6) (cls := "java/lang/IllegalStateException") (names := ["java/lang/RuntimeException", "java/lang/Exception"]) (ik := 95) (is := 97) (ic := 99) (text := "there are 4 bodies") (sa := sa9) hx hb hl0 hown (by decide) (by decide) (hts (.classLink RX6 95 "java/lang/IllegalStateException") (List.mem_of_getElem? (i := 1) rfl)) (hts (.initialized "java/lang/IllegalStateException") (List.mem_of_getElem? (i := 2) rfl)) hsa9 (hx_hat hL (by decide) (fun w h => hts w ((fun w h => List.mem_cons_of_mem _ (List.mem_append_left _ (List.mem_append_left _ (List.mem_append_right _ h)))) w h)) xa_101) xg_101 hT.1 hT.2 hS (hl.1.trans hml.symm) dX6_addBody_70 dX6_addBody_73 dX6_addBody_74 dX6_addBody_76 dX6_addBody_79 (fun x hx => (htab x hx).elim) (Nat.le_of_ble_eq_true rfl) (Nat.le_of_ble_eq_true rfl) (Nat.le_of_ble_eq_true rfl) (Nat.le_of_ble_eq_true rfl) hlocks (fun t9 a9 h1 h2 => ⟨("java/lang/IllegalStateException", σ56), ⟨hF.trans hFF, hO⟩, ⟨rfl, (hx_out hP hS h1 h2).1⟩, (hx_out hP hS h1 h2).2⟩) hS.2.2 (Nat.le_of_ble_eq_true rfl) (Nat.le_of_ble_eq_true rfl)
    have J55 : ∀  (H : Heap) (locs : List Loc) (ls : Array Slot), va_P D vwCl (pool G ad σ27) H → va_S (AA B0) s.heap H locs → lv_has ls 7 [(0, .ref (ad (270))), (1, .int a), (2, .int b), (3, .int c1), (4, .int d)] → f6_addBody_b55 a b c1 d σ27  = FF → W p l e (headSpec wsX6_addBody { frames := 7, cells := 3, slots := 18, locals := 116 }).room s m ([.ref (ad (270)), .int a, .int b, .int c1, .int d] : List Value).toArray below meth c H locs 1 6 (vx_MQ below (va_Qi (fun (r : Int32) (z : Nat → Nat → Int32) => ((Sum.inl r, z) : RT) = f6_addBody σ a b c1 d ∧ okS z) (fun (z : Nat → Nat → Int32) => Ho D G ad z) (AA B0)) (XX D G ad B0 (fun E z => ((Sum.inr E, z) : RT) = f6_addBody σ a b c1 d ∧ okS z)) ([.ref (ad (270)), .int a, .int b, .int c1, .int d] : List Value).toArray s 3 18 (AA B0)) (F0 m 55 ls []) := by
      intro  H locs ls hP hS hl hF
      rw [f6_addBody_b55] at hF
      refine lv_iconst (v := 0) hx hb dX6_addBody_55 (by decide) ?_
      exact J56 0 _ _ ls bl0 hP hS (lv_sub hl [0, 1, 2, 3, 4] rfl) hF
    refine lv_if_eq (tgt := 55) hx hb dX6_addBody_37 (by decide) (fun c37 => ?_) (fun c37 => ?_)
    · have hF := ift c37 hF
      exact J55  _ _ ls hP hS (lv_sub hl [0, 1, 2, 3, 4] rfl) hF
    · have hF := iff_ c37 hF
      refine lv_iload hx hb dX6_addBody_40 (lv_at hl 4 rfl) ?_
      refine lv_iconst (v := 4) hx hb dX6_addBody_42 (by decide) ?_
      refine lv_bipush (v := 28) hx hb dX6_addBody_43 (by decide) ?_
      refine va_calli (va_runS (As := [.int d, .int 4, .int 28]) (rest := []) ⟨hx, hb, hml, hown, hts⟩ (c6_isWithin l hA σ27 d 4 28 ) (va_cwS 3 hts gX6_addBody_X6_isWithin rfl rfl rfl hd_X6_isWithinS ⟨Nat.le_of_ble_eq_true rfl, Nat.le_of_ble_eq_true rfl⟩) ⟨hp_blind, hp_pre hK hN hP⟩ rfl rfl hl.1 rfl (lv_room (Nat.le_of_ble_eq_true rfl)) dX6_addBody_45 ⟨Nat.le_of_ble_eq_true rfl, Nat.le_of_ble_eq_true rfl⟩) hS (fun _ _ h => h) (fun _ h => h) (fun r45 _ t H locs ht hvm hw9 hB hz1 hk1 hS => ?_)
      have hP := ho_at ht hB
      obtain ⟨eq45, hb_r45⟩ := hw9
      have hF := bnd_s eq45 hF
      refine lv_if_eq (tgt := 55) hx hb dX6_addBody_48 (by decide) (fun c48 => ?_) (fun c48 => ?_)
      · have hF := ift c48 hF
        exact J55  _ _ ls hP hS (lv_sub hl [0, 1, 2, 3, 4] rfl) hF
      · have hF := iff_ c48 hF
        refine lv_iconst (v := 1) hx hb dX6_addBody_51 (by decide) ?_
        refine lv_goto (tgt := 56) hx hb dX6_addBody_52 (by decide) ?_
        exact J56 1 _ _ ls bl1 hP hS (lv_sub hl [0, 1, 2, 3, 4] rfl) hF
  have J26 : ∀  (H : Heap) (locs : List Loc) (ls : Array Slot), va_P D vwCl (pool G ad σ) H → va_S (AA B0) s.heap H locs → lv_has ls 7 [(0, .ref (ad (270))), (1, .int a), (2, .int b), (3, .int c1), (4, .int d)] → f6_addBody_b26 σ a b c1 d  = FF → W p l e (headSpec wsX6_addBody { frames := 7, cells := 3, slots := 18, locals := 116 }).room s m ([.ref (ad (270)), .int a, .int b, .int c1, .int d] : List Value).toArray below meth c H locs 0 0 (vx_MQ below (va_Qi (fun (r : Int32) (z : Nat → Nat → Int32) => ((Sum.inl r, z) : RT) = f6_addBody σ a b c1 d ∧ okS z) (fun (z : Nat → Nat → Int32) => Ho D G ad z) (AA B0)) (XX D G ad B0 (fun E z => ((Sum.inr E, z) : RT) = f6_addBody σ a b c1 d ∧ okS z)) ([.ref (ad (270)), .int a, .int b, .int c1, .int d] : List Value).toArray s 3 18 (AA B0)) (F0 m 26 ls []) := by
    intro  H locs ls hP hS hl hF
    rw [f6_addBody_b26] at hF
    refine lv_iconst (v := 0) hx hb dX6_addBody_26 (by decide) ?_
    exact J27 0 _ _ ls bl0 hP hS (lv_sub hl [0, 1, 2, 3, 4] rfl) hF
  refine lv_if_eq (tgt := 26) hx hb dX6_addBody_8 (by decide) (fun c8 => ?_) (fun c8 => ?_)
  · have hF := ift c8 hF
    exact J26  _ _ ls hP hS (lv_sub hl [0, 1, 2, 3, 4] rfl) hF
  · have hF := iff_ c8 hF
    refine lv_iload_n hx hb dX6_addBody_11 rfl (lv_at hl 2 rfl) ?_
    refine lv_iconst (v := 0) hx hb dX6_addBody_12 (by decide) ?_
    refine lv_sipush (v := 223) hx hb dX6_addBody_13 (by decide) ?_
    refine va_calli (va_runS (As := [.int b, .int 0, .int 223]) (rest := []) ⟨hx, hb, hml, hown, hts⟩ (c6_isWithin l hA σ b 0 223 ) (va_cwS 3 hts gX6_addBody_X6_isWithin rfl rfl rfl hd_X6_isWithinS ⟨Nat.le_of_ble_eq_true rfl, Nat.le_of_ble_eq_true rfl⟩) ⟨hp_blind, hp_pre hK hN hP⟩ rfl rfl hl.1 rfl (lv_room (Nat.le_of_ble_eq_true rfl)) dX6_addBody_16 ⟨Nat.le_of_ble_eq_true rfl, Nat.le_of_ble_eq_true rfl⟩) hS (fun _ _ h => h) (fun _ h => h) (fun r16 _ t H locs ht hvm hw9 hB hz1 hk1 hS => ?_)
    have hP := ho_at ht hB
    obtain ⟨eq16, hb_r16⟩ := hw9
    have hF := bnd_s eq16 hF
    refine lv_if_eq (tgt := 26) hx hb dX6_addBody_19 (by decide) (fun c19 => ?_) (fun c19 => ?_)
    · have hF := ift c19 hF
      exact J26  _ _ ls hP hS (lv_sub hl [0, 1, 2, 3, 4] rfl) hF
    · have hF := iff_ c19 hF
      refine lv_iconst (v := 1) hx hb dX6_addBody_22 (by decide) ?_
      refine lv_goto (tgt := 27) hx hb dX6_addBody_23 (by decide) ?_
      exact J27 1 _ _ ls bl1 hP hS (lv_sub hl [0, 1, 2, 3, 4] rfl) hF
theorem hd_X6_addBodyV : yX6_addBody.cls = RX6 ∧ yX6_addBody.cls ≠ "java/lang/invoke/MethodHandle" ∧ yX6_addBody.cls ≠ "java/lang/invoke/VarHandle" ∧ (parseMethodDescriptor yX6_addBody.desc).map (fun d => d.parameters.length) = some 4 := by decide +kernel
set_option maxHeartbeats 4000000 in
set_option maxRecDepth 100000 in
theorem c6_addPlatform (l : Launch) (hl0 : l.stackTraces = false) {D : va_G} {G : CY} {ad : Nat → Nat} {B0 : Nat} (hA : adOK B0 ad) (σ : Nat → Nat → Int32) (a : Int32) (b : Int32) (c1 : Int32) (d : Int32) (e1 : Int32) (f1 : Int32) (hO : okS σ) : vx_Met l yX6_addPlatform wsX6_addPlatform { frames := 7, cells := 4, slots := 24, locals := 116 } (va_Pc [.ref (ad (270)), .int a, .int b, .int c1, .int d, .int e1, .int f1] (Hx XEs D G ad B0 σ)) (va_Qi (fun (r : Int32) (z : Nat → Nat → Int32) => ((Sum.inl r, z) : RT) = f6_addPlatform σ a b c1 d e1 f1 ∧ okS z) (fun (z : Nat → Nat → Int32) => Ho D G ad z) (AA B0)) (XX D G ad B0 (fun E z => ((Sum.inr E, z) : RT) = f6_addPlatform σ a b c1 d e1 f1 ∧ okS z)) 4 24 (AA B0) := by
  refine vx_ofW (cc := cX6_addPlatform) (maxL := 8) (ret := (some .int)) (by decide) rfl ?_
  intro p e s m args below meth c s₁ B hml htab hv
  obtain ⟨rfl, ⟨hP, hK, hN⟩, hT, hL, adK, adV, hG, hR⟩ := hv
  have hx := B.exec
  have hb := B.bytes
  have hr := B.returns
  have hts := atoms_spec (ws := wsX6_addPlatform) B.pre
  have hown : s.vm.findClass RX6 = some m.cls := findClass_of_methodNamed B.named
  have hlocks := B.notSynchronized
  have inX5 : ∀ w ∈ wsX50, w ∈ wsX6_addPlatform := (fun w h => List.mem_cons_of_mem _ (List.mem_append_left _ (List.mem_append_left _ (List.mem_append_left _ (List.mem_append_left _ (List.mem_append_right _ h))))))
  have inX6 : ∀ w ∈ wsX60, w ∈ wsX6_addPlatform := (fun w h => List.mem_cons_of_mem _ (List.mem_append_left _ (List.mem_append_left _ (List.mem_append_left _ (List.mem_append_left _ (List.mem_append_left _ (List.mem_append_right _ h)))))))
  have hP : va_P D vwCl (pool G ad σ) s.heap := hP
  have hS : va_S (AA B0) s.heap s.heap [] := va_S.rf
  have hl := lv_entry ([.ref (ad (270)), .int a, .int b, .int c1, .int d, .int e1, .int f1]) (n := 8) (Nat.le_of_ble_eq_true rfl)
  rw [lg_entry_eq]
  generalize (lg_sl ([.ref (ad (270)), .int a, .int b, .int c1, .int d, .int e1, .int f1]) ++ List.replicate (8 - (lg_sl ([.ref (ad (270)), .int a, .int b, .int c1, .int d, .int e1, .int f1])).length) Slot.unset).toArray = ls at hl ⊢
  have hl : lv_has ls 8 [(0, .ref (ad (270))), (1, .int a), (2, .int b), (3, .int c1), (4, .int d), (5, .int e1), (6, .int f1)] := hl
  obtain ⟨FF, hFF⟩ : ∃ z, z = f6_addPlatform σ a b c1 d e1 f1 := ⟨_, rfl⟩
  have hF := hFF.symm
  rw [f6_addPlatform] at hF
  refine lv_iload_n hx hb dX6_addPlatform_0 rfl (lv_at hl 1 rfl) ?_
  refine lv_iconst (v := 0) hx hb dX6_addPlatform_1 (by decide) ?_
  refine lv_sipush (v := 383) hx hb dX6_addPlatform_2 (by decide) ?_
  refine va_calli (va_runS (As := [.int a, .int 0, .int 383]) (rest := []) ⟨hx, hb, hml, hown, hts⟩ (c6_isWithin l hA σ a 0 383 ) (va_cwS 3 hts gX6_addPlatform_X6_isWithin rfl rfl rfl hd_X6_isWithinS ⟨Nat.le_of_ble_eq_true rfl, Nat.le_of_ble_eq_true rfl⟩) ⟨hp_blind, hp_pre hK hN hP⟩ rfl rfl hl.1 rfl (lv_room (Nat.le_of_ble_eq_true rfl)) dX6_addPlatform_5 ⟨Nat.le_of_ble_eq_true rfl, Nat.le_of_ble_eq_true rfl⟩) hS (fun _ _ h => h) (fun _ h => h) (fun r5 _ t H locs ht hvm hw9 hB hz1 hk1 hS => ?_)
  have hP := ho_at ht hB
  obtain ⟨eq5, hb_r5⟩ := hw9
  have hF := bnd_s eq5 hF
  have J27 : ∀ (t0_27 : Int32) (H : Heap) (locs : List Loc) (ls : Array Slot), bl t0_27 → va_P D vwCl (pool G ad σ) H → va_S (AA B0) s.heap H locs → lv_has ls 8 [(0, .ref (ad (270))), (1, .int a), (2, .int b), (3, .int c1), (4, .int d), (5, .int e1), (6, .int f1)] → f6_addPlatform_b27 σ a b c1 d e1 f1 t0_27 = FF → W p l e (headSpec wsX6_addPlatform { frames := 7, cells := 4, slots := 24, locals := 116 }).room s m ([.ref (ad (270)), .int a, .int b, .int c1, .int d, .int e1, .int f1] : List Value).toArray below meth c H locs 0 0 (vx_MQ below (va_Qi (fun (r : Int32) (z : Nat → Nat → Int32) => ((Sum.inl r, z) : RT) = f6_addPlatform σ a b c1 d e1 f1 ∧ okS z) (fun (z : Nat → Nat → Int32) => Ho D G ad z) (AA B0)) (XX D G ad B0 (fun E z => ((Sum.inr E, z) : RT) = f6_addPlatform σ a b c1 d e1 f1 ∧ okS z)) ([.ref (ad (270)), .int a, .int b, .int c1, .int d, .int e1, .int f1] : List Value).toArray s 4 24 (AA B0)) (F0 m 27 ls [.int t0_27]) := by
    intro t0_27 H locs ls hb_t0_27 hP hS hl hF
    rw [f6_addPlatform_b27] at hF
    refine vx_callv (vx_runS (As := [.int t0_27]) (rest := []) ⟨hx, hb, hml, hown, hts⟩ (c6_require l hl0 hA σ t0_27 hO hb_t0_27) (va_cwS 1 hts gX6_addPlatform_X6_require rfl rfl rfl hd_X6_requireS ⟨Nat.le_of_ble_eq_true rfl, Nat.le_of_ble_eq_true rfl⟩) ⟨hx_blind, hx_pre hK hN hT hL hG hR hS hP⟩ rfl rfl hl.1 rfl (lv_room (Nat.le_of_ble_eq_true rfl)) dX6_addPlatform_27 ⟨Nat.le_of_ble_eq_true rfl, Nat.le_of_ble_eq_true rfl⟩) hS (fun _ _ h => h) (fun _ h => h) (fun _ _ h => h) (fun E9 ce9 q9 z9 t9 H9 locs9 ht9 hvm9 hw9 hB9 hz9 hk9 hS9 hce9 hcv9 hcl9 => ?_) (fun u9 t H locs ht hvm hw9 hB hz1 hk1 hS => ?_)
    · obtain ⟨eqx, okx⟩ := hw9
      obtain ⟨rfl, hBx⟩ := hB9
      have hF := bndx_x eqx hF
      exact vx_out (fun x hx => (htab x hx).elim) hlocks hce9 hcv9 hcl9 (fun t8 h8 _ => ⟨z9, ⟨hF.trans hFF, okx⟩, ⟨rfl, ho_of h8 (ho_at ht9 hBx)⟩, hS9.F h8⟩) hS9.2.2 (Nat.le_of_ble_eq_true rfl) (Nat.le_of_ble_eq_true rfl)
    have hP := ho_at ht hB
    obtain ⟨eq27, ok9⟩ := hw9
    obtain ⟨σ27, e_σ27⟩ : ∃ z, z = u9 := ⟨_, rfl⟩
    rw [← e_σ27] at hP eq27 ok9
    have hO := ok9
    have hF := bndx_s eq27 hF
    refine lv_iload_n hx hb dX6_addPlatform_30 rfl (lv_at hl 3 rfl) ?_
    refine lv_bipush (v := 16) hx hb dX6_addPlatform_31 (by decide) ?_
    refine lv_bipush (v := 64) hx hb dX6_addPlatform_33 (by decide) ?_
    refine va_calli (va_runS (As := [.int c1, .int 16, .int 64]) (rest := []) ⟨hx, hb, hml, hown, hts⟩ (c6_isWithin l hA σ27 c1 16 64 ) (va_cwS 3 hts gX6_addPlatform_X6_isWithin rfl rfl rfl hd_X6_isWithinS ⟨Nat.le_of_ble_eq_true rfl, Nat.le_of_ble_eq_true rfl⟩) ⟨hp_blind, hp_pre hK hN hP⟩ rfl rfl hl.1 rfl (lv_room (Nat.le_of_ble_eq_true rfl)) dX6_addPlatform_35 ⟨Nat.le_of_ble_eq_true rfl, Nat.le_of_ble_eq_true rfl⟩) hS (fun _ _ h => h) (fun _ h => h) (fun r35 _ t H locs ht hvm hw9 hB hz1 hk1 hS => ?_)
    have hP := ho_at ht hB
    obtain ⟨eq35, hb_r35⟩ := hw9
    have hF := bnd_s eq35 hF
    have J57 : ∀ (t0_57 : Int32) (H : Heap) (locs : List Loc) (ls : Array Slot), bl t0_57 → va_P D vwCl (pool G ad σ27) H → va_S (AA B0) s.heap H locs → lv_has ls 8 [(0, .ref (ad (270))), (1, .int a), (2, .int b), (3, .int c1), (4, .int d), (5, .int e1), (6, .int f1)] → f6_addPlatform_b57 a b c1 d e1 f1 σ27 t0_57 = FF → W p l e (headSpec wsX6_addPlatform { frames := 7, cells := 4, slots := 24, locals := 116 }).room s m ([.ref (ad (270)), .int a, .int b, .int c1, .int d, .int e1, .int f1] : List Value).toArray below meth c H locs 1 6 (vx_MQ below (va_Qi (fun (r : Int32) (z : Nat → Nat → Int32) => ((Sum.inl r, z) : RT) = f6_addPlatform σ a b c1 d e1 f1 ∧ okS z) (fun (z : Nat → Nat → Int32) => Ho D G ad z) (AA B0)) (XX D G ad B0 (fun E z => ((Sum.inr E, z) : RT) = f6_addPlatform σ a b c1 d e1 f1 ∧ okS z)) ([.ref (ad (270)), .int a, .int b, .int c1, .int d, .int e1, .int f1] : List Value).toArray s 4 24 (AA B0)) (F0 m 57 ls [.int t0_57]) := by
      intro t0_57 H locs ls hb_t0_57 hP hS hl hF
      rw [f6_addPlatform_b57] at hF
      refine vx_callv (vx_runS (As := [.int t0_57]) (rest := []) ⟨hx, hb, hml, hown, hts⟩ (c6_require l hl0 hA σ27 t0_57 hO hb_t0_57) (va_cwS 1 hts gX6_addPlatform_X6_require rfl rfl rfl hd_X6_requireS ⟨Nat.le_of_ble_eq_true rfl, Nat.le_of_ble_eq_true rfl⟩) ⟨hx_blind, hx_pre hK hN hT hL hG hR hS hP⟩ rfl rfl hl.1 rfl (lv_room (Nat.le_of_ble_eq_true rfl)) dX6_addPlatform_57 ⟨Nat.le_of_ble_eq_true rfl, Nat.le_of_ble_eq_true rfl⟩) hS (fun _ _ h => h) (fun _ h => h) (fun _ _ h => h) (fun E9 ce9 q9 z9 t9 H9 locs9 ht9 hvm9 hw9 hB9 hz9 hk9 hS9 hce9 hcv9 hcl9 => ?_) (fun u9 t H locs ht hvm hw9 hB hz1 hk1 hS => ?_)
      · obtain ⟨eqx, okx⟩ := hw9
        obtain ⟨rfl, hBx⟩ := hB9
        have hF := bndx_x eqx hF
        exact vx_out (fun x hx => (htab x hx).elim) hlocks hce9 hcv9 hcl9 (fun t8 h8 _ => ⟨z9, ⟨hF.trans hFF, okx⟩, ⟨rfl, ho_of h8 (ho_at ht9 hBx)⟩, hS9.F h8⟩) hS9.2.2 (Nat.le_of_ble_eq_true rfl) (Nat.le_of_ble_eq_true rfl)
      have hP := ho_at ht hB
      obtain ⟨eq57, ok9⟩ := hw9
      obtain ⟨σ57, e_σ57⟩ : ∃ z, z = u9 := ⟨_, rfl⟩
      rw [← e_σ57] at hP eq57 ok9
      have hO := ok9
      have hF := bndx_s eq57 hF
      refine lv_iload hx hb dX6_addPlatform_60 (lv_at hl 4 rfl) ?_
      refine lv_bipush (v := (-2)) hx hb dX6_addPlatform_62 (by decide) ?_
      refine lv_iconst (v := 2) hx hb dX6_addPlatform_64 (by decide) ?_
      refine va_calli (va_runS (As := [.int d, .int (-2), .int 2]) (rest := []) ⟨hx, hb, hml, hown, hts⟩ (c6_isWithin l hA σ57 d (-2) 2 ) (va_cwS 3 hts gX6_addPlatform_X6_isWithin rfl rfl rfl hd_X6_isWithinS ⟨Nat.le_of_ble_eq_true rfl, Nat.le_of_ble_eq_true rfl⟩) ⟨hp_blind, hp_pre hK hN hP⟩ rfl rfl hl.1 rfl (lv_room (Nat.le_of_ble_eq_true rfl)) dX6_addPlatform_65 ⟨Nat.le_of_ble_eq_true rfl, Nat.le_of_ble_eq_true rfl⟩) hS (fun _ _ h => h) (fun _ h => h) (fun r65 _ t H locs ht hvm hw9 hB hz1 hk1 hS => ?_)
      have hP := ho_at ht hB
      obtain ⟨eq65, hb_r65⟩ := hw9
      have hF := bnd_s eq65 hF
      have J87 : ∀ (t0_87 : Int32) (H : Heap) (locs : List Loc) (ls : Array Slot), bl t0_87 → va_P D vwCl (pool G ad σ57) H → va_S (AA B0) s.heap H locs → lv_has ls 8 [(0, .ref (ad (270))), (1, .int a), (2, .int b), (3, .int c1), (4, .int d), (5, .int e1), (6, .int f1)] → f6_addPlatform_b87 a b c1 d e1 f1 σ57 t0_87 = FF → W p l e (headSpec wsX6_addPlatform { frames := 7, cells := 4, slots := 24, locals := 116 }).room s m ([.ref (ad (270)), .int a, .int b, .int c1, .int d, .int e1, .int f1] : List Value).toArray below meth c H locs 2 12 (vx_MQ below (va_Qi (fun (r : Int32) (z : Nat → Nat → Int32) => ((Sum.inl r, z) : RT) = f6_addPlatform σ a b c1 d e1 f1 ∧ okS z) (fun (z : Nat → Nat → Int32) => Ho D G ad z) (AA B0)) (XX D G ad B0 (fun E z => ((Sum.inr E, z) : RT) = f6_addPlatform σ a b c1 d e1 f1 ∧ okS z)) ([.ref (ad (270)), .int a, .int b, .int c1, .int d, .int e1, .int f1] : List Value).toArray s 4 24 (AA B0)) (F0 m 87 ls [.int t0_87]) := by
        intro t0_87 H locs ls hb_t0_87 hP hS hl hF
        rw [f6_addPlatform_b87] at hF
        refine vx_callv (vx_runS (As := [.int t0_87]) (rest := []) ⟨hx, hb, hml, hown, hts⟩ (c6_require l hl0 hA σ57 t0_87 hO hb_t0_87) (va_cwS 1 hts gX6_addPlatform_X6_require rfl rfl rfl hd_X6_requireS ⟨Nat.le_of_ble_eq_true rfl, Nat.le_of_ble_eq_true rfl⟩) ⟨hx_blind, hx_pre hK hN hT hL hG hR hS hP⟩ rfl rfl hl.1 rfl (lv_room (Nat.le_of_ble_eq_true rfl)) dX6_addPlatform_87 ⟨Nat.le_of_ble_eq_true rfl, Nat.le_of_ble_eq_true rfl⟩) hS (fun _ _ h => h) (fun _ h => h) (fun _ _ h => h) (fun E9 ce9 q9 z9 t9 H9 locs9 ht9 hvm9 hw9 hB9 hz9 hk9 hS9 hce9 hcv9 hcl9 => ?_) (fun u9 t H locs ht hvm hw9 hB hz1 hk1 hS => ?_)
        · obtain ⟨eqx, okx⟩ := hw9
          obtain ⟨rfl, hBx⟩ := hB9
          have hF := bndx_x eqx hF
          exact vx_out (fun x hx => (htab x hx).elim) hlocks hce9 hcv9 hcl9 (fun t8 h8 _ => ⟨z9, ⟨hF.trans hFF, okx⟩, ⟨rfl, ho_of h8 (ho_at ht9 hBx)⟩, hS9.F h8⟩) hS9.2.2 (Nat.le_of_ble_eq_true rfl) (Nat.le_of_ble_eq_true rfl)
        have hP := ho_at ht hB
        obtain ⟨eq87, ok9⟩ := hw9
        obtain ⟨σ87, e_σ87⟩ : ∃ z, z = u9 := ⟨_, rfl⟩
        rw [← e_σ87] at hP eq87 ok9
        have hO := ok9
        have hF := bndx_s eq87 hF
        refine lv_aload_n hx hb dX6_addPlatform_90 rfl (lv_at hl 0 rfl) ?_
        refine va_get (D := D) (ci := 8) (C := RX6) (T := TX6) (N := 9) hx hb hts inX6 hown hK hP (270) g_270 rfl 0 (by decide) (hts (.fieldLink RX6 12 "TileRunners" "world" "LTileRunners$World;") (List.mem_of_getElem? (i := 3) rfl)) (fun _ h9 => h9) rfl dX6_addPlatform_91 ?_
        refine va_get (D := D) (ci := 7) (C := RX5) (T := TX5) (N := 7) hx hb hts inX5 hown hK hP (18*0+0) (g_o (by decide)) rfl 5 (by decide) (hts (.fieldLink RX6 144 "TileRunners$World" "platformCount" "I") (List.mem_of_getElem? (i := 4) rfl)) (fun _ h9 => h9) rfl dX6_addPlatform_94 ?_
        refine lv_iconst (v := 4) hx hb dX6_addPlatform_97 (by decide) ?_
        refine lv_icmp_lt (tgt := 111) hx hb dX6_addPlatform_98 (by decide) (fun c98 => ?_) (fun c98 => ?_)
        · have hF := ift c98 hF
          refine lv_aload_n hx hb dX6_addPlatform_111 rfl (lv_at hl 0 rfl) ?_
          refine va_get (D := D) (ci := 8) (C := RX6) (T := TX6) (N := 9) hx hb hts inX6 hown hK hP (270) g_270 rfl 0 (by decide) (hts (.fieldLink RX6 12 "TileRunners" "world" "LTileRunners$World;") (List.mem_of_getElem? (i := 3) rfl)) (fun _ h9 => h9) rfl dX6_addPlatform_112 ?_
          refine va_get (D := D) (ci := 7) (C := RX5) (T := TX5) (N := 7) hx hb hts inX5 hown hK hP (18*0+0) (g_o (by decide)) rfl 5 (by decide) (hts (.fieldLink RX6 144 "TileRunners$World" "platformCount" "I") (List.mem_of_getElem? (i := 4) rfl)) (fun _ h9 => h9) rfl dX6_addPlatform_115 ?_
          refine lv_topi (fun v7_118 e_v7_118 => ?_)
          have hF := bnd_s e_v7_118 hF
          refine lv_istore (lv' := [(7, .int v7_118), (0, .ref (ad (270))), (1, .int a), (2, .int b), (3, .int c1), (4, .int d), (5, .int e1), (6, .int f1)]) hx hb dX6_addPlatform_118 hl (by decide) rfl (fun ls hl => ?_)
          refine lv_aload_n hx hb dX6_addPlatform_120 rfl (lv_at hl 1 rfl) ?_
          refine va_get (D := D) (ci := 8) (C := RX6) (T := TX6) (N := 9) hx hb hts inX6 hown hK hP (270) g_270 rfl 0 (by decide) (hts (.fieldLink RX6 12 "TileRunners" "world" "LTileRunners$World;") (List.mem_of_getElem? (i := 3) rfl)) (fun _ h9 => h9) rfl dX6_addPlatform_121 ?_
          refine va_get (D := D) (ci := 7) (C := RX5) (T := TX5) (N := 7) hx hb hts inX5 hown hK hP (18*0+0) (g_o (by decide)) rfl 2 (by decide) (hts (.fieldLink RX6 149 "TileRunners$World" "platforms" "[LTileRunners$Platform;") (List.mem_of_getElem? (i := 5) rfl)) (fun _ h9 => h9) rfl dX6_addPlatform_124 ?_
          have hi7 : vp_in v7_118 4 := by rw [e_v7_118]; exact in_lt4 (hO.1 0 (by decide)).2.2.1 c98
          refine lv_iload hx hb dX6_addPlatform_127 (lv_at hl 0 rfl) ?_
          have hi_129 : v7_118.toNatClampNeg < 4 := in_lt (i := v7_118) hi7
          refine pqald (t0 := 3) (i := v7_118) hx hb hK hP (c_ps (by decide)) rfl hi7 dX6_addPlatform_129 ?_
          refine lv_iload_n hx hb dX6_addPlatform_130 rfl (lv_at hl 2 rfl) ?_
          refine lv_iload_n hx hb dX6_addPlatform_131 rfl (lv_at hl 3 rfl) ?_
          refine lv_iload_n hx hb dX6_addPlatform_132 rfl (lv_at hl 4 rfl) ?_
          refine lv_iload hx hb dX6_addPlatform_133 (lv_at hl 5 rfl) ?_
          refine lv_iload hx hb dX6_addPlatform_135 (lv_at hl 6 rfl) ?_
          refine lv_iload hx hb dX6_addPlatform_137 (lv_at hl 7 rfl) ?_
          have hP := f_eta 0 hP
          refine va_callv (va_runV (As := [.int a, .int b, .int c1, .int d, .int e1, .int f1]) (rest := []) ⟨hx, hb, hml, hown, hts⟩ (c2_begin l hA σ87 (σ87 0) 0 (by decide) v7_118.toNatClampNeg hi_129 a b c1 d e1 f1 (hO.1 0 (by decide))) (cwV 6 hts gX6_addPlatform_X2_begin rfl rfl rfl hd_X2_beginV ⟨Nat.le_of_ble_eq_true rfl, Nat.le_of_ble_eq_true rfl⟩) ⟨hp_blind, va_recv hK hP (ci := 4) (q0 := 18*0+(14+v7_118.toNatClampNeg)) rfl (c_p (by decide) hi_129), hp_pre hK hN hP⟩ rfl rfl hl.1 rfl (lv_room (Nat.le_of_ble_eq_true rfl)) dX6_addPlatform_139 ⟨Nat.le_of_ble_eq_true rfl, Nat.le_of_ble_eq_true rfl⟩) hS (fun _ _ h => h) (fun _ h => h) (fun u9 t H locs ht hvm hw9 hB hz1 hk1 hS => ?_)
          have hP := ho_at ht hB
          obtain ⟨eq139, ok9⟩ := hw9
          obtain ⟨σ139, e_σ139⟩ : ∃ z, z = va_up σ87 0 u9 := ⟨_, rfl⟩
          rw [← e_σ139] at hP
          have hF := bnd_s eq139 hF
          have hF := bnd_s e_σ139 hF
          have hO := okS_row e_σ139 hO (by decide) ok9
          refine lv_aload_n hx hb dX6_addPlatform_142 rfl (lv_at hl 1 rfl) ?_
          refine va_get (D := D) (ci := 8) (C := RX6) (T := TX6) (N := 9) hx hb hts inX6 hown hK hP (270) g_270 rfl 0 (by decide) (hts (.fieldLink RX6 12 "TileRunners" "world" "LTileRunners$World;") (List.mem_of_getElem? (i := 3) rfl)) (fun _ h9 => h9) rfl dX6_addPlatform_143 ?_
          refine lv_iload hx hb dX6_addPlatform_146 (lv_at hl 0 rfl) ?_
          refine lv_iconst (v := 1) hx hb dX6_addPlatform_148 (by decide) ?_
          refine lv_iadd hx hb dX6_addPlatform_149 ?_
          have hP := f_eta 0 hP
          refine pput hx hb hts inX5 tyX5 tyX5_ok nmX5 hown hK hP hA hS (by decide) (j := 0) (by omega) rfl rfl 5 (by decide) (hts (.fieldLink RX6 144 "TileRunners$World" "platformCount" "I") (List.mem_of_getElem? (i := 4) rfl)) (fun _ h9 => h9) rfl (tyX5_ok 5 (by decide)) rfl rfl (Nat.le_of_ble_eq_true rfl) (465) (by decide) (setO_5) dX6_addPlatform_150 (fun u9 H locs eu9 hP hS => ?_)
          obtain ⟨σ150, e_σ150⟩ : ∃ z, z = va_up σ139 0 (va_up (σ139 0) (465) (v7_118 + 1)) := ⟨_, rfl⟩
          rw [eu9, ← e_σ150] at hP
          have hF := bnd_s e_σ150 hF
          have hO := okS_row e_σ150 hO (by decide) (okW_cnt (hO.1 0 (by decide)) (Or.inr rfl) (pl_in4 hi7).1 (pl_in4 hi7).2)
          refine lv_aload_n hx hb dX6_addPlatform_153 rfl (lv_at hl 1 rfl) ?_
          refine va_get (D := D) (ci := 8) (C := RX6) (T := TX6) (N := 9) hx hb hts inX6 hown hK hP (270) g_270 rfl 5 (by decide) (hts (.fieldLink RX6 40 "TileRunners" "history" "LTileRunners$History;") (List.mem_of_getElem? (i := 6) rfl)) (fun _ h9 => h9) rfl dX6_addPlatform_154 ?_
          refine va_callv (va_runV (As := []) (rest := []) ⟨hx, hb, hml, hown, hts⟩ (c1_forget l hA σ150  hO) (cwV 0 hts gX6_addPlatform_X1_forget rfl rfl rfl hd_X1_forgetV ⟨Nat.le_of_ble_eq_true rfl, Nat.le_of_ble_eq_true rfl⟩) ⟨hp_blind, va_recv hK hP (ci := 3) (q0 := 273) rfl g_273, hp_pre hK hN hP⟩ rfl rfl hl.1 rfl (lv_room (Nat.le_of_ble_eq_true rfl)) dX6_addPlatform_157 ⟨Nat.le_of_ble_eq_true rfl, Nat.le_of_ble_eq_true rfl⟩) hS (fun _ _ h => h) (fun _ h => h) (fun u9 t H locs ht hvm hw9 hB hz1 hk1 hS => ?_)
          have hP := ho_at ht hB
          obtain ⟨eq157, ok9⟩ := hw9
          obtain ⟨σ157, e_σ157⟩ : ∃ z, z = u9 := ⟨_, rfl⟩
          rw [← e_σ157] at hP eq157 ok9
          have hO := ok9
          have hF := bnd_s eq157 hF
          refine lv_iload hx hb dX6_addPlatform_160 (lv_at hl 0 rfl) ?_
          exact vx_ret (W.widen (Nat.le_of_ble_eq_true rfl) (Nat.le_of_ble_eq_true rfl) (W.iret (v := v7_118) hx hb hr (fun t ht hW => ⟨⟨v7_118, σ157, rfl, ⟨hF.trans hFF, hO⟩, ho_of ht hP⟩, hS.F ht⟩) hS.2.2 dX6_addPlatform_162))
        · have hF := iff_ c98 hF
          obtain ⟨sa9, hsa9⟩ := hL.1 (147, "there are 4 platforms") (by decide)
          exact vx_throwS (own := RX6) (cls := "java/lang/IllegalStateException") (names := ["java/lang/RuntimeException", "java/lang/Exception"]) (ik := 95) (is := 147) (ic := 99) (text := "there are 4 platforms") (sa := sa9) hx hb hl0 hown (by decide) (by decide) (hts (.classLink RX6 95 "java/lang/IllegalStateException") (List.mem_of_getElem? (i := 1) rfl)) (hts (.initialized "java/lang/IllegalStateException") (List.mem_of_getElem? (i := 2) rfl)) hsa9 (hx_hat hL (by decide) (fun w h => hts w ((fun w h => List.mem_cons_of_mem _ (List.mem_append_left _ (List.mem_append_right _ h))) w h)) xa_101) xg_101 hT.1 hT.2 hS (hl.1.trans hml.symm) dX6_addPlatform_101 dX6_addPlatform_104 dX6_addPlatform_105 dX6_addPlatform_107 dX6_addPlatform_110 (fun x hx => (htab x hx).elim) (Nat.le_of_ble_eq_true rfl) (Nat.le_of_ble_eq_true rfl) (Nat.le_of_ble_eq_true rfl) (Nat.le_of_ble_eq_true rfl) hlocks (fun t9 a9 h1 h2 => ⟨("java/lang/IllegalStateException", σ87), ⟨hF.trans hFF, hO⟩, ⟨rfl, (hx_out hP hS h1 h2).1⟩, (hx_out hP hS h1 h2).2⟩) hS.2.2 (Nat.le_of_ble_eq_true rfl) (Nat.le_of_ble_eq_true rfl)
      have J86 : ∀  (H : Heap) (locs : List Loc) (ls : Array Slot), va_P D vwCl (pool G ad σ57) H → va_S (AA B0) s.heap H locs → lv_has ls 8 [(0, .ref (ad (270))), (1, .int a), (2, .int b), (3, .int c1), (4, .int d), (5, .int e1), (6, .int f1)] → f6_addPlatform_b86 a b c1 d e1 f1 σ57  = FF → W p l e (headSpec wsX6_addPlatform { frames := 7, cells := 4, slots := 24, locals := 116 }).room s m ([.ref (ad (270)), .int a, .int b, .int c1, .int d, .int e1, .int f1] : List Value).toArray below meth c H locs 2 12 (vx_MQ below (va_Qi (fun (r : Int32) (z : Nat → Nat → Int32) => ((Sum.inl r, z) : RT) = f6_addPlatform σ a b c1 d e1 f1 ∧ okS z) (fun (z : Nat → Nat → Int32) => Ho D G ad z) (AA B0)) (XX D G ad B0 (fun E z => ((Sum.inr E, z) : RT) = f6_addPlatform σ a b c1 d e1 f1 ∧ okS z)) ([.ref (ad (270)), .int a, .int b, .int c1, .int d, .int e1, .int f1] : List Value).toArray s 4 24 (AA B0)) (F0 m 86 ls []) := by
        intro  H locs ls hP hS hl hF
        rw [f6_addPlatform_b86] at hF
        refine lv_iconst (v := 0) hx hb dX6_addPlatform_86 (by decide) ?_
        exact J87 0 _ _ ls bl0 hP hS (lv_sub hl [0, 1, 2, 3, 4, 5, 6] rfl) hF
      refine lv_if_eq (tgt := 86) hx hb dX6_addPlatform_68 (by decide) (fun c68 => ?_) (fun c68 => ?_)
      · have hF := ift c68 hF
        exact J86  _ _ ls hP hS (lv_sub hl [0, 1, 2, 3, 4, 5, 6] rfl) hF
      · have hF := iff_ c68 hF
        refine lv_iload hx hb dX6_addPlatform_71 (lv_at hl 5 rfl) ?_
        refine lv_bipush (v := (-2)) hx hb dX6_addPlatform_73 (by decide) ?_
        refine lv_iconst (v := 2) hx hb dX6_addPlatform_75 (by decide) ?_
        refine va_calli (va_runS (As := [.int e1, .int (-2), .int 2]) (rest := []) ⟨hx, hb, hml, hown, hts⟩ (c6_isWithin l hA σ57 e1 (-2) 2 ) (va_cwS 3 hts gX6_addPlatform_X6_isWithin rfl rfl rfl hd_X6_isWithinS ⟨Nat.le_of_ble_eq_true rfl, Nat.le_of_ble_eq_true rfl⟩) ⟨hp_blind, hp_pre hK hN hP⟩ rfl rfl hl.1 rfl (lv_room (Nat.le_of_ble_eq_true rfl)) dX6_addPlatform_76 ⟨Nat.le_of_ble_eq_true rfl, Nat.le_of_ble_eq_true rfl⟩) hS (fun _ _ h => h) (fun _ h => h) (fun r76 _ t H locs ht hvm hw9 hB hz1 hk1 hS => ?_)
        have hP := ho_at ht hB
        obtain ⟨eq76, hb_r76⟩ := hw9
        have hF := bnd_s eq76 hF
        refine lv_if_eq (tgt := 86) hx hb dX6_addPlatform_79 (by decide) (fun c79 => ?_) (fun c79 => ?_)
        · have hF := ift c79 hF
          exact J86  _ _ ls hP hS (lv_sub hl [0, 1, 2, 3, 4, 5, 6] rfl) hF
        · have hF := iff_ c79 hF
          refine lv_iconst (v := 1) hx hb dX6_addPlatform_82 (by decide) ?_
          refine lv_goto (tgt := 87) hx hb dX6_addPlatform_83 (by decide) ?_
          exact J87 1 _ _ ls bl1 hP hS (lv_sub hl [0, 1, 2, 3, 4, 5, 6] rfl) hF
    have J56 : ∀  (H : Heap) (locs : List Loc) (ls : Array Slot), va_P D vwCl (pool G ad σ27) H → va_S (AA B0) s.heap H locs → lv_has ls 8 [(0, .ref (ad (270))), (1, .int a), (2, .int b), (3, .int c1), (4, .int d), (5, .int e1), (6, .int f1)] → f6_addPlatform_b56 a b c1 d e1 f1 σ27  = FF → W p l e (headSpec wsX6_addPlatform { frames := 7, cells := 4, slots := 24, locals := 116 }).room s m ([.ref (ad (270)), .int a, .int b, .int c1, .int d, .int e1, .int f1] : List Value).toArray below meth c H locs 1 6 (vx_MQ below (va_Qi (fun (r : Int32) (z : Nat → Nat → Int32) => ((Sum.inl r, z) : RT) = f6_addPlatform σ a b c1 d e1 f1 ∧ okS z) (fun (z : Nat → Nat → Int32) => Ho D G ad z) (AA B0)) (XX D G ad B0 (fun E z => ((Sum.inr E, z) : RT) = f6_addPlatform σ a b c1 d e1 f1 ∧ okS z)) ([.ref (ad (270)), .int a, .int b, .int c1, .int d, .int e1, .int f1] : List Value).toArray s 4 24 (AA B0)) (F0 m 56 ls []) := by
      intro  H locs ls hP hS hl hF
      rw [f6_addPlatform_b56] at hF
      refine lv_iconst (v := 0) hx hb dX6_addPlatform_56 (by decide) ?_
      exact J57 0 _ _ ls bl0 hP hS (lv_sub hl [0, 1, 2, 3, 4, 5, 6] rfl) hF
    refine lv_if_eq (tgt := 56) hx hb dX6_addPlatform_38 (by decide) (fun c38 => ?_) (fun c38 => ?_)
    · have hF := ift c38 hF
      exact J56  _ _ ls hP hS (lv_sub hl [0, 1, 2, 3, 4, 5, 6] rfl) hF
    · have hF := iff_ c38 hF
      refine lv_iload hx hb dX6_addPlatform_41 (lv_at hl 6 rfl) ?_
      refine lv_iconst (v := 1) hx hb dX6_addPlatform_43 (by decide) ?_
      refine lv_bipush (v := 60) hx hb dX6_addPlatform_44 (by decide) ?_
      refine va_calli (va_runS (As := [.int f1, .int 1, .int 60]) (rest := []) ⟨hx, hb, hml, hown, hts⟩ (c6_isWithin l hA σ27 f1 1 60 ) (va_cwS 3 hts gX6_addPlatform_X6_isWithin rfl rfl rfl hd_X6_isWithinS ⟨Nat.le_of_ble_eq_true rfl, Nat.le_of_ble_eq_true rfl⟩) ⟨hp_blind, hp_pre hK hN hP⟩ rfl rfl hl.1 rfl (lv_room (Nat.le_of_ble_eq_true rfl)) dX6_addPlatform_46 ⟨Nat.le_of_ble_eq_true rfl, Nat.le_of_ble_eq_true rfl⟩) hS (fun _ _ h => h) (fun _ h => h) (fun r46 _ t H locs ht hvm hw9 hB hz1 hk1 hS => ?_)
      have hP := ho_at ht hB
      obtain ⟨eq46, hb_r46⟩ := hw9
      have hF := bnd_s eq46 hF
      refine lv_if_eq (tgt := 56) hx hb dX6_addPlatform_49 (by decide) (fun c49 => ?_) (fun c49 => ?_)
      · have hF := ift c49 hF
        exact J56  _ _ ls hP hS (lv_sub hl [0, 1, 2, 3, 4, 5, 6] rfl) hF
      · have hF := iff_ c49 hF
        refine lv_iconst (v := 1) hx hb dX6_addPlatform_52 (by decide) ?_
        refine lv_goto (tgt := 57) hx hb dX6_addPlatform_53 (by decide) ?_
        exact J57 1 _ _ ls bl1 hP hS (lv_sub hl [0, 1, 2, 3, 4, 5, 6] rfl) hF
  have J26 : ∀  (H : Heap) (locs : List Loc) (ls : Array Slot), va_P D vwCl (pool G ad σ) H → va_S (AA B0) s.heap H locs → lv_has ls 8 [(0, .ref (ad (270))), (1, .int a), (2, .int b), (3, .int c1), (4, .int d), (5, .int e1), (6, .int f1)] → f6_addPlatform_b26 σ a b c1 d e1 f1  = FF → W p l e (headSpec wsX6_addPlatform { frames := 7, cells := 4, slots := 24, locals := 116 }).room s m ([.ref (ad (270)), .int a, .int b, .int c1, .int d, .int e1, .int f1] : List Value).toArray below meth c H locs 0 0 (vx_MQ below (va_Qi (fun (r : Int32) (z : Nat → Nat → Int32) => ((Sum.inl r, z) : RT) = f6_addPlatform σ a b c1 d e1 f1 ∧ okS z) (fun (z : Nat → Nat → Int32) => Ho D G ad z) (AA B0)) (XX D G ad B0 (fun E z => ((Sum.inr E, z) : RT) = f6_addPlatform σ a b c1 d e1 f1 ∧ okS z)) ([.ref (ad (270)), .int a, .int b, .int c1, .int d, .int e1, .int f1] : List Value).toArray s 4 24 (AA B0)) (F0 m 26 ls []) := by
    intro  H locs ls hP hS hl hF
    rw [f6_addPlatform_b26] at hF
    refine lv_iconst (v := 0) hx hb dX6_addPlatform_26 (by decide) ?_
    exact J27 0 _ _ ls bl0 hP hS (lv_sub hl [0, 1, 2, 3, 4, 5, 6] rfl) hF
  refine lv_if_eq (tgt := 26) hx hb dX6_addPlatform_8 (by decide) (fun c8 => ?_) (fun c8 => ?_)
  · have hF := ift c8 hF
    exact J26  _ _ ls hP hS (lv_sub hl [0, 1, 2, 3, 4, 5, 6] rfl) hF
  · have hF := iff_ c8 hF
    refine lv_iload_n hx hb dX6_addPlatform_11 rfl (lv_at hl 2 rfl) ?_
    refine lv_iconst (v := 0) hx hb dX6_addPlatform_12 (by decide) ?_
    refine lv_sipush (v := 223) hx hb dX6_addPlatform_13 (by decide) ?_
    refine va_calli (va_runS (As := [.int b, .int 0, .int 223]) (rest := []) ⟨hx, hb, hml, hown, hts⟩ (c6_isWithin l hA σ b 0 223 ) (va_cwS 3 hts gX6_addPlatform_X6_isWithin rfl rfl rfl hd_X6_isWithinS ⟨Nat.le_of_ble_eq_true rfl, Nat.le_of_ble_eq_true rfl⟩) ⟨hp_blind, hp_pre hK hN hP⟩ rfl rfl hl.1 rfl (lv_room (Nat.le_of_ble_eq_true rfl)) dX6_addPlatform_16 ⟨Nat.le_of_ble_eq_true rfl, Nat.le_of_ble_eq_true rfl⟩) hS (fun _ _ h => h) (fun _ h => h) (fun r16 _ t H locs ht hvm hw9 hB hz1 hk1 hS => ?_)
    have hP := ho_at ht hB
    obtain ⟨eq16, hb_r16⟩ := hw9
    have hF := bnd_s eq16 hF
    refine lv_if_eq (tgt := 26) hx hb dX6_addPlatform_19 (by decide) (fun c19 => ?_) (fun c19 => ?_)
    · have hF := ift c19 hF
      exact J26  _ _ ls hP hS (lv_sub hl [0, 1, 2, 3, 4, 5, 6] rfl) hF
    · have hF := iff_ c19 hF
      refine lv_iconst (v := 1) hx hb dX6_addPlatform_22 (by decide) ?_
      refine lv_goto (tgt := 27) hx hb dX6_addPlatform_23 (by decide) ?_
      exact J27 1 _ _ ls bl1 hP hS (lv_sub hl [0, 1, 2, 3, 4, 5, 6] rfl) hF
theorem hd_X6_addPlatformV : yX6_addPlatform.cls = RX6 ∧ yX6_addPlatform.cls ≠ "java/lang/invoke/MethodHandle" ∧ yX6_addPlatform.cls ≠ "java/lang/invoke/VarHandle" ∧ (parseMethodDescriptor yX6_addPlatform.desc).map (fun d => d.parameters.length) = some 6 := by decide +kernel
set_option maxHeartbeats 4000000 in
set_option maxRecDepth 100000 in
theorem c6_removeBody (l : Launch) (hl0 : l.stackTraces = false) {D : va_G} {G : CY} {ad : Nat → Nat} {B0 : Nat} (hA : adOK B0 ad) (σ : Nat → Nat → Int32) (a : Int32) (hO : okS σ) : vx_Met l yX6_removeBody wsX6_removeBody { frames := 7, cells := 1, slots := 6, locals := 117 } (va_Pc [.ref (ad (270)), .int a] (Hx XEs D G ad B0 σ)) (va_Qi (fun (r : Int32) (z : Nat → Nat → Int32) => ((Sum.inl r, z) : RT) = f6_removeBody σ a ∧ okS z) (fun (z : Nat → Nat → Int32) => Ho D G ad z) (AA B0)) (XX D G ad B0 (fun E z => ((Sum.inr E, z) : RT) = f6_removeBody σ a ∧ okS z)) 1 6 (AA B0) := by
  refine vx_ofW (cc := cX6_removeBody) (maxL := 2) (ret := (some .int)) (by decide) rfl ?_
  intro p e s m args below meth c s₁ B hml htab hv
  obtain ⟨rfl, ⟨hP, hK, hN⟩, hT, hL, adK, adV, hG, hR⟩ := hv
  have hx := B.exec
  have hb := B.bytes
  have hr := B.returns
  have hts := atoms_spec (ws := wsX6_removeBody) B.pre
  have hown : s.vm.findClass RX6 = some m.cls := findClass_of_methodNamed B.named
  have hlocks := B.notSynchronized
  have inX5 : ∀ w ∈ wsX50, w ∈ wsX6_removeBody := (fun w h => List.mem_cons_of_mem _ (List.mem_append_left _ (List.mem_append_left _ (List.mem_append_left _ (List.mem_append_right _ h)))))
  have inX6 : ∀ w ∈ wsX60, w ∈ wsX6_removeBody := (fun w h => List.mem_cons_of_mem _ (List.mem_append_left _ (List.mem_append_left _ (List.mem_append_left _ (List.mem_append_left _ (List.mem_append_right _ h))))))
  have hP : va_P D vwCl (pool G ad σ) s.heap := hP
  have hS : va_S (AA B0) s.heap s.heap [] := va_S.rf
  have hl := lv_entry ([.ref (ad (270)), .int a]) (n := 2) (Nat.le_of_ble_eq_true rfl)
  rw [lg_entry_eq]
  generalize (lg_sl ([.ref (ad (270)), .int a]) ++ List.replicate (2 - (lg_sl ([.ref (ad (270)), .int a])).length) Slot.unset).toArray = ls at hl ⊢
  have hl : lv_has ls 2 [(0, .ref (ad (270))), (1, .int a)] := hl
  obtain ⟨FF, hFF⟩ : ∃ z, z = f6_removeBody σ a := ⟨_, rfl⟩
  have hF := hFF.symm
  rw [f6_removeBody] at hF
  refine lv_aload_n hx hb dX6_removeBody_0 rfl (lv_at hl 0 rfl) ?_
  refine lv_iload_n hx hb dX6_removeBody_1 rfl (lv_at hl 1 rfl) ?_
  refine vx_callv (vx_runV (As := [.int a]) (rest := []) ⟨hx, hb, hml, hown, hts⟩ (c6_requireBody l hl0 hA σ a hO) (cwV 1 hts gX6_removeBody_X6_requireBody rfl rfl rfl hd_X6_requireBodyV ⟨Nat.le_of_ble_eq_true rfl, Nat.le_of_ble_eq_true rfl⟩) ⟨hx_blind, va_recv hK hP (ci := 8) (q0 := 270) rfl g_270, hx_pre hK hN hT hL hG hR hS hP⟩ rfl rfl hl.1 rfl (lv_room (Nat.le_of_ble_eq_true rfl)) dX6_removeBody_2 ⟨Nat.le_of_ble_eq_true rfl, Nat.le_of_ble_eq_true rfl⟩) hS (fun _ _ h => h) (fun _ h => h) (fun _ _ h => h) (fun E9 ce9 q9 z9 t9 H9 locs9 ht9 hvm9 hw9 hB9 hz9 hk9 hS9 hce9 hcv9 hcl9 => ?_) (fun u9 t H locs ht hvm hw9 hB hz1 hk1 hS => ?_)
  · obtain ⟨eqx, okx⟩ := hw9
    obtain ⟨rfl, hBx⟩ := hB9
    have hF := bndx_x eqx hF
    exact vx_out (fun x hx => (htab x hx).elim) hlocks hce9 hcv9 hcl9 (fun t8 h8 _ => ⟨z9, ⟨hF.trans hFF, okx⟩, ⟨rfl, ho_of h8 (ho_at ht9 hBx)⟩, hS9.F h8⟩) hS9.2.2 (Nat.le_of_ble_eq_true rfl) (Nat.le_of_ble_eq_true rfl)
  have hP := ho_at ht hB
  obtain ⟨eq2, ok9⟩ := hw9
  obtain ⟨σ2, e_σ2⟩ : ∃ z, z = u9 := ⟨_, rfl⟩
  rw [← e_σ2] at hP eq2 ok9
  have hO := ok9
  have hF := bndx_s eq2 hF
  have hi9 : vp_in a 4 := in_body hO eq2
  refine lv_aload_n hx hb dX6_removeBody_5 rfl (lv_at hl 0 rfl) ?_
  refine va_get (D := D) (ci := 8) (C := RX6) (T := TX6) (N := 9) hx hb hts inX6 hown hK hP (270) g_270 rfl 0 (by decide) (hts (.fieldLink RX6 12 "TileRunners" "world" "LTileRunners$World;") (List.mem_of_getElem? (i := 1) rfl)) (fun _ h9 => h9) rfl dX6_removeBody_6 ?_
  refine lv_iload_n hx hb dX6_removeBody_9 rfl (lv_at hl 1 rfl) ?_
  refine va_callv (va_runV (As := [.int a]) (rest := []) ⟨hx, hb, hml, hown, hts⟩ (c5_dropOutBody l hA σ2 0 (by decide) a hO hi9 (in_bodyC hO eq2)) (cwV 1 hts gX6_removeBody_X5_dropOutBody rfl rfl rfl hd_X5_dropOutBodyV ⟨Nat.le_of_ble_eq_true rfl, Nat.le_of_ble_eq_true rfl⟩) ⟨hp_blind, va_recv hK hP (ci := 7) (q0 := 18*0+0) rfl (g_o (by decide)), hp_pre hK hN hP⟩ rfl rfl hl.1 rfl (lv_room (Nat.le_of_ble_eq_true rfl)) dX6_removeBody_10 ⟨Nat.le_of_ble_eq_true rfl, Nat.le_of_ble_eq_true rfl⟩) hS (fun _ _ h => h) (fun _ h => h) (fun u9 t H locs ht hvm hw9 hB hz1 hk1 hS => ?_)
  have hP := ho_at ht hB
  obtain ⟨eq10, ok9⟩ := hw9
  obtain ⟨σ10, e_σ10⟩ : ∃ z, z = u9 := ⟨_, rfl⟩
  rw [← e_σ10] at hP eq10 ok9
  have hO := ok9
  have hF := bnd_s eq10 hF
  refine lv_aload_n hx hb dX6_removeBody_13 rfl (lv_at hl 0 rfl) ?_
  refine va_get (D := D) (ci := 8) (C := RX6) (T := TX6) (N := 9) hx hb hts inX6 hown hK hP (270) g_270 rfl 5 (by decide) (hts (.fieldLink RX6 40 "TileRunners" "history" "LTileRunners$History;") (List.mem_of_getElem? (i := 2) rfl)) (fun _ h9 => h9) rfl dX6_removeBody_14 ?_
  refine va_callv (va_runV (As := []) (rest := []) ⟨hx, hb, hml, hown, hts⟩ (c1_forget l hA σ10  hO) (cwV 0 hts gX6_removeBody_X1_forget rfl rfl rfl hd_X1_forgetV ⟨Nat.le_of_ble_eq_true rfl, Nat.le_of_ble_eq_true rfl⟩) ⟨hp_blind, va_recv hK hP (ci := 3) (q0 := 273) rfl g_273, hp_pre hK hN hP⟩ rfl rfl hl.1 rfl (lv_room (Nat.le_of_ble_eq_true rfl)) dX6_removeBody_17 ⟨Nat.le_of_ble_eq_true rfl, Nat.le_of_ble_eq_true rfl⟩) hS (fun _ _ h => h) (fun _ h => h) (fun u9 t H locs ht hvm hw9 hB hz1 hk1 hS => ?_)
  have hP := ho_at ht hB
  obtain ⟨eq17, ok9⟩ := hw9
  obtain ⟨σ17, e_σ17⟩ : ∃ z, z = u9 := ⟨_, rfl⟩
  rw [← e_σ17] at hP eq17 ok9
  have hO := ok9
  have hF := bnd_s eq17 hF
  refine lv_aload_n hx hb dX6_removeBody_20 rfl (lv_at hl 0 rfl) ?_
  refine va_get (D := D) (ci := 8) (C := RX6) (T := TX6) (N := 9) hx hb hts inX6 hown hK hP (270) g_270 rfl 0 (by decide) (hts (.fieldLink RX6 12 "TileRunners" "world" "LTileRunners$World;") (List.mem_of_getElem? (i := 1) rfl)) (fun _ h9 => h9) rfl dX6_removeBody_21 ?_
  refine va_get (D := D) (ci := 7) (C := RX5) (T := TX5) (N := 7) hx hb hts inX5 hown hK hP (18*0+0) (g_o (by decide)) rfl 4 (by decide) (hts (.fieldLink RX6 92 "TileRunners$World" "bodyCount" "I") (List.mem_of_getElem? (i := 3) rfl)) (fun _ h9 => h9) rfl dX6_removeBody_24 ?_
  exact vx_ret (W.widen (Nat.le_of_ble_eq_true rfl) (Nat.le_of_ble_eq_true rfl) (W.iret (v := (σ17 0 464)) hx hb hr (fun t ht hW => ⟨⟨(σ17 0 464), σ17, rfl, ⟨hF.trans hFF, hO⟩, ho_of ht hP⟩, hS.F ht⟩) hS.2.2 dX6_removeBody_27))
theorem hd_X6_removeBodyV : yX6_removeBody.cls = RX6 ∧ yX6_removeBody.cls ≠ "java/lang/invoke/MethodHandle" ∧ yX6_removeBody.cls ≠ "java/lang/invoke/VarHandle" ∧ (parseMethodDescriptor yX6_removeBody.desc).map (fun d => d.parameters.length) = some 1 := by decide +kernel
set_option maxHeartbeats 4000000 in
set_option maxRecDepth 100000 in
theorem c6_removePlatform (l : Launch) (hl0 : l.stackTraces = false) {D : va_G} {G : CY} {ad : Nat → Nat} {B0 : Nat} (hA : adOK B0 ad) (σ : Nat → Nat → Int32) (a : Int32) (hO : okS σ) : vx_Met l yX6_removePlatform wsX6_removePlatform { frames := 7, cells := 1, slots := 6, locals := 117 } (va_Pc [.ref (ad (270)), .int a] (Hx XEs D G ad B0 σ)) (va_Qi (fun (r : Int32) (z : Nat → Nat → Int32) => ((Sum.inl r, z) : RT) = f6_removePlatform σ a ∧ okS z) (fun (z : Nat → Nat → Int32) => Ho D G ad z) (AA B0)) (XX D G ad B0 (fun E z => ((Sum.inr E, z) : RT) = f6_removePlatform σ a ∧ okS z)) 1 6 (AA B0) := by
  refine vx_ofW (cc := cX6_removePlatform) (maxL := 2) (ret := (some .int)) (by decide) rfl ?_
  intro p e s m args below meth c s₁ B hml htab hv
  obtain ⟨rfl, ⟨hP, hK, hN⟩, hT, hL, adK, adV, hG, hR⟩ := hv
  have hx := B.exec
  have hb := B.bytes
  have hr := B.returns
  have hts := atoms_spec (ws := wsX6_removePlatform) B.pre
  have hown : s.vm.findClass RX6 = some m.cls := findClass_of_methodNamed B.named
  have hlocks := B.notSynchronized
  have inX5 : ∀ w ∈ wsX50, w ∈ wsX6_removePlatform := (fun w h => List.mem_cons_of_mem _ (List.mem_append_left _ (List.mem_append_left _ (List.mem_append_left _ (List.mem_append_right _ h)))))
  have inX6 : ∀ w ∈ wsX60, w ∈ wsX6_removePlatform := (fun w h => List.mem_cons_of_mem _ (List.mem_append_left _ (List.mem_append_left _ (List.mem_append_left _ (List.mem_append_left _ (List.mem_append_right _ h))))))
  have hP : va_P D vwCl (pool G ad σ) s.heap := hP
  have hS : va_S (AA B0) s.heap s.heap [] := va_S.rf
  have hl := lv_entry ([.ref (ad (270)), .int a]) (n := 2) (Nat.le_of_ble_eq_true rfl)
  rw [lg_entry_eq]
  generalize (lg_sl ([.ref (ad (270)), .int a]) ++ List.replicate (2 - (lg_sl ([.ref (ad (270)), .int a])).length) Slot.unset).toArray = ls at hl ⊢
  have hl : lv_has ls 2 [(0, .ref (ad (270))), (1, .int a)] := hl
  obtain ⟨FF, hFF⟩ : ∃ z, z = f6_removePlatform σ a := ⟨_, rfl⟩
  have hF := hFF.symm
  rw [f6_removePlatform] at hF
  refine lv_aload_n hx hb dX6_removePlatform_0 rfl (lv_at hl 0 rfl) ?_
  refine lv_iload_n hx hb dX6_removePlatform_1 rfl (lv_at hl 1 rfl) ?_
  refine vx_callv (vx_runV (As := [.int a]) (rest := []) ⟨hx, hb, hml, hown, hts⟩ (c6_requirePlatform l hl0 hA σ a hO) (cwV 1 hts gX6_removePlatform_X6_requirePlatform rfl rfl rfl hd_X6_requirePlatformV ⟨Nat.le_of_ble_eq_true rfl, Nat.le_of_ble_eq_true rfl⟩) ⟨hx_blind, va_recv hK hP (ci := 8) (q0 := 270) rfl g_270, hx_pre hK hN hT hL hG hR hS hP⟩ rfl rfl hl.1 rfl (lv_room (Nat.le_of_ble_eq_true rfl)) dX6_removePlatform_2 ⟨Nat.le_of_ble_eq_true rfl, Nat.le_of_ble_eq_true rfl⟩) hS (fun _ _ h => h) (fun _ h => h) (fun _ _ h => h) (fun E9 ce9 q9 z9 t9 H9 locs9 ht9 hvm9 hw9 hB9 hz9 hk9 hS9 hce9 hcv9 hcl9 => ?_) (fun u9 t H locs ht hvm hw9 hB hz1 hk1 hS => ?_)
  · obtain ⟨eqx, okx⟩ := hw9
    obtain ⟨rfl, hBx⟩ := hB9
    have hF := bndx_x eqx hF
    exact vx_out (fun x hx => (htab x hx).elim) hlocks hce9 hcv9 hcl9 (fun t8 h8 _ => ⟨z9, ⟨hF.trans hFF, okx⟩, ⟨rfl, ho_of h8 (ho_at ht9 hBx)⟩, hS9.F h8⟩) hS9.2.2 (Nat.le_of_ble_eq_true rfl) (Nat.le_of_ble_eq_true rfl)
  have hP := ho_at ht hB
  obtain ⟨eq2, ok9⟩ := hw9
  obtain ⟨σ2, e_σ2⟩ : ∃ z, z = u9 := ⟨_, rfl⟩
  rw [← e_σ2] at hP eq2 ok9
  have hO := ok9
  have hF := bndx_s eq2 hF
  have hi9 : vp_in a 4 := in_plat hO eq2
  refine lv_aload_n hx hb dX6_removePlatform_5 rfl (lv_at hl 0 rfl) ?_
  refine va_get (D := D) (ci := 8) (C := RX6) (T := TX6) (N := 9) hx hb hts inX6 hown hK hP (270) g_270 rfl 0 (by decide) (hts (.fieldLink RX6 12 "TileRunners" "world" "LTileRunners$World;") (List.mem_of_getElem? (i := 1) rfl)) (fun _ h9 => h9) rfl dX6_removePlatform_6 ?_
  refine lv_iload_n hx hb dX6_removePlatform_9 rfl (lv_at hl 1 rfl) ?_
  refine va_callv (va_runV (As := [.int a]) (rest := []) ⟨hx, hb, hml, hown, hts⟩ (c5_dropOutPlatform l hA σ2 0 (by decide) a hO hi9 (in_platC hO eq2)) (cwV 1 hts gX6_removePlatform_X5_dropOutPlatform rfl rfl rfl hd_X5_dropOutPlatformV ⟨Nat.le_of_ble_eq_true rfl, Nat.le_of_ble_eq_true rfl⟩) ⟨hp_blind, va_recv hK hP (ci := 7) (q0 := 18*0+0) rfl (g_o (by decide)), hp_pre hK hN hP⟩ rfl rfl hl.1 rfl (lv_room (Nat.le_of_ble_eq_true rfl)) dX6_removePlatform_10 ⟨Nat.le_of_ble_eq_true rfl, Nat.le_of_ble_eq_true rfl⟩) hS (fun _ _ h => h) (fun _ h => h) (fun u9 t H locs ht hvm hw9 hB hz1 hk1 hS => ?_)
  have hP := ho_at ht hB
  obtain ⟨eq10, ok9⟩ := hw9
  obtain ⟨σ10, e_σ10⟩ : ∃ z, z = u9 := ⟨_, rfl⟩
  rw [← e_σ10] at hP eq10 ok9
  have hO := ok9
  have hF := bnd_s eq10 hF
  refine lv_aload_n hx hb dX6_removePlatform_13 rfl (lv_at hl 0 rfl) ?_
  refine va_get (D := D) (ci := 8) (C := RX6) (T := TX6) (N := 9) hx hb hts inX6 hown hK hP (270) g_270 rfl 5 (by decide) (hts (.fieldLink RX6 40 "TileRunners" "history" "LTileRunners$History;") (List.mem_of_getElem? (i := 2) rfl)) (fun _ h9 => h9) rfl dX6_removePlatform_14 ?_
  refine va_callv (va_runV (As := []) (rest := []) ⟨hx, hb, hml, hown, hts⟩ (c1_forget l hA σ10  hO) (cwV 0 hts gX6_removePlatform_X1_forget rfl rfl rfl hd_X1_forgetV ⟨Nat.le_of_ble_eq_true rfl, Nat.le_of_ble_eq_true rfl⟩) ⟨hp_blind, va_recv hK hP (ci := 3) (q0 := 273) rfl g_273, hp_pre hK hN hP⟩ rfl rfl hl.1 rfl (lv_room (Nat.le_of_ble_eq_true rfl)) dX6_removePlatform_17 ⟨Nat.le_of_ble_eq_true rfl, Nat.le_of_ble_eq_true rfl⟩) hS (fun _ _ h => h) (fun _ h => h) (fun u9 t H locs ht hvm hw9 hB hz1 hk1 hS => ?_)
  have hP := ho_at ht hB
  obtain ⟨eq17, ok9⟩ := hw9
  obtain ⟨σ17, e_σ17⟩ : ∃ z, z = u9 := ⟨_, rfl⟩
  rw [← e_σ17] at hP eq17 ok9
  have hO := ok9
  have hF := bnd_s eq17 hF
  refine lv_aload_n hx hb dX6_removePlatform_20 rfl (lv_at hl 0 rfl) ?_
  refine va_get (D := D) (ci := 8) (C := RX6) (T := TX6) (N := 9) hx hb hts inX6 hown hK hP (270) g_270 rfl 0 (by decide) (hts (.fieldLink RX6 12 "TileRunners" "world" "LTileRunners$World;") (List.mem_of_getElem? (i := 1) rfl)) (fun _ h9 => h9) rfl dX6_removePlatform_21 ?_
  refine va_get (D := D) (ci := 7) (C := RX5) (T := TX5) (N := 7) hx hb hts inX5 hown hK hP (18*0+0) (g_o (by decide)) rfl 5 (by decide) (hts (.fieldLink RX6 144 "TileRunners$World" "platformCount" "I") (List.mem_of_getElem? (i := 3) rfl)) (fun _ h9 => h9) rfl dX6_removePlatform_24 ?_
  exact vx_ret (W.widen (Nat.le_of_ble_eq_true rfl) (Nat.le_of_ble_eq_true rfl) (W.iret (v := (σ17 0 465)) hx hb hr (fun t ht hW => ⟨⟨(σ17 0 465), σ17, rfl, ⟨hF.trans hFF, hO⟩, ho_of ht hP⟩, hS.F ht⟩) hS.2.2 dX6_removePlatform_27))
theorem hd_X6_removePlatformV : yX6_removePlatform.cls = RX6 ∧ yX6_removePlatform.cls ≠ "java/lang/invoke/MethodHandle" ∧ yX6_removePlatform.cls ≠ "java/lang/invoke/VarHandle" ∧ (parseMethodDescriptor yX6_removePlatform.desc).map (fun d => d.parameters.length) = some 1 := by decide +kernel
set_option maxHeartbeats 4000000 in
set_option maxRecDepth 100000 in
theorem c6_tick (l : Launch) (hl0 : l.stackTraces = false) {D : va_G} {G : CY} {ad : Nat → Nat} {B0 : Nat} (hA : adOK B0 ad) (σ : Nat → Nat → Int32) (a : Int32) (hO : okS σ) : vx_Met l yX6_tick wsX6_tick { frames := 7, cells := 1, slots := 6, locals := 173 } (va_Pc [.ref (ad (270)), .int a] (Hx XEs D G ad B0 σ)) (va_Qi (fun (r : Int32) (z : Nat → Nat → Int32) => ((Sum.inl r, z) : RT) = f6_tick σ a ∧ okS z) (fun (z : Nat → Nat → Int32) => Ho D G ad z) (AA B0)) (XX D G ad B0 (fun E z => ((Sum.inr E, z) : RT) = f6_tick σ a ∧ okS z)) 1 6 (AA B0) := by
  refine vx_ofW (cc := cX6_tick) (maxL := 3) (ret := (some .int)) (by decide) rfl ?_
  intro p e s m args below meth c s₁ B hml htab hv
  obtain ⟨rfl, ⟨hP, hK, hN⟩, hT, hL, adK, adV, hG, hR⟩ := hv
  have hx := B.exec
  have hb := B.bytes
  have hr := B.returns
  have hts := atoms_spec (ws := wsX6_tick) B.pre
  have hown : s.vm.findClass RX6 = some m.cls := findClass_of_methodNamed B.named
  have hlocks := B.notSynchronized
  have inX5 : ∀ w ∈ wsX50, w ∈ wsX6_tick := (fun w h => List.mem_cons_of_mem _ (List.mem_append_left _ (List.mem_append_left _ (List.mem_append_left _ (List.mem_append_left _ (List.mem_append_left _ (List.mem_append_left _ (List.mem_append_right _ h))))))))
  have inX6 : ∀ w ∈ wsX60, w ∈ wsX6_tick := (fun w h => List.mem_cons_of_mem _ (List.mem_append_left _ (List.mem_append_left _ (List.mem_append_left _ (List.mem_append_left _ (List.mem_append_left _ (List.mem_append_left _ (List.mem_append_left _ (List.mem_append_right _ h)))))))))
  have hP : va_P D vwCl (pool G ad σ) s.heap := hP
  have hS : va_S (AA B0) s.heap s.heap [] := va_S.rf
  have hl := lv_entry ([.ref (ad (270)), .int a]) (n := 3) (Nat.le_of_ble_eq_true rfl)
  rw [lg_entry_eq]
  generalize (lg_sl ([.ref (ad (270)), .int a]) ++ List.replicate (3 - (lg_sl ([.ref (ad (270)), .int a])).length) Slot.unset).toArray = ls at hl ⊢
  have hl : lv_has ls 3 [(0, .ref (ad (270))), (1, .int a)] := hl
  obtain ⟨FF, hFF⟩ : ∃ z, z = f6_tick σ a := ⟨_, rfl⟩
  have hF := hFF.symm
  rw [f6_tick] at hF
  refine lv_iload_n hx hb dX6_tick_0 rfl (lv_at hl 1 rfl) ?_
  refine lv_iconst (v := 1) hx hb dX6_tick_1 (by decide) ?_
  refine lv_bipush (v := 100) hx hb dX6_tick_2 (by decide) ?_
  refine va_calli (va_runS (As := [.int a, .int 1, .int 100]) (rest := []) ⟨hx, hb, hml, hown, hts⟩ (c6_isWithin l hA σ a 1 100 ) (va_cwS 3 hts gX6_tick_X6_isWithin rfl rfl rfl hd_X6_isWithinS ⟨Nat.le_of_ble_eq_true rfl, Nat.le_of_ble_eq_true rfl⟩) ⟨hp_blind, hp_pre hK hN hP⟩ rfl rfl hl.1 rfl (lv_room (Nat.le_of_ble_eq_true rfl)) dX6_tick_4 ⟨Nat.le_of_ble_eq_true rfl, Nat.le_of_ble_eq_true rfl⟩) hS (fun _ _ h => h) (fun _ h => h) (fun r4 _ t H locs ht hvm hw9 hB hz1 hk1 hS => ?_)
  have hP := ho_at ht hB
  obtain ⟨eq4, hb_r4⟩ := hw9
  have hF := bnd_s eq4 hF
  refine vx_callv (vx_runS (As := [.int r4]) (rest := []) ⟨hx, hb, hml, hown, hts⟩ (c6_require l hl0 hA σ r4 hO hb_r4) (va_cwS 1 hts gX6_tick_X6_require rfl rfl rfl hd_X6_requireS ⟨Nat.le_of_ble_eq_true rfl, Nat.le_of_ble_eq_true rfl⟩) ⟨hx_blind, hx_pre hK hN hT hL hG hR hS hP⟩ rfl rfl hl.1 rfl (lv_room (Nat.le_of_ble_eq_true rfl)) dX6_tick_7 ⟨Nat.le_of_ble_eq_true rfl, Nat.le_of_ble_eq_true rfl⟩) hS (fun _ _ h => h) (fun _ h => h) (fun _ _ h => h) (fun E9 ce9 q9 z9 t9 H9 locs9 ht9 hvm9 hw9 hB9 hz9 hk9 hS9 hce9 hcv9 hcl9 => ?_) (fun u9 t H locs ht hvm hw9 hB hz1 hk1 hS => ?_)
  · obtain ⟨eqx, okx⟩ := hw9
    obtain ⟨rfl, hBx⟩ := hB9
    have hF := bndx_x eqx hF
    exact vx_out (fun x hx => (htab x hx).elim) hlocks hce9 hcv9 hcl9 (fun t8 h8 _ => ⟨z9, ⟨hF.trans hFF, okx⟩, ⟨rfl, ho_of h8 (ho_at ht9 hBx)⟩, hS9.F h8⟩) hS9.2.2 (Nat.le_of_ble_eq_true rfl) (Nat.le_of_ble_eq_true rfl)
  have hP := ho_at ht hB
  obtain ⟨eq7, ok9⟩ := hw9
  obtain ⟨σ7, e_σ7⟩ : ∃ z, z = u9 := ⟨_, rfl⟩
  rw [← e_σ7] at hP eq7 ok9
  have hO := ok9
  have hF := bndx_s eq7 hF
  refine lv_iconst (v := 0) hx hb dX6_tick_10 (by decide) ?_
  refine lv_istore_n (lv' := [(2, .int 0), (0, .ref (ad (270))), (1, .int a)]) hx hb dX6_tick_11 rfl hl (by decide) rfl (fun ls hl => ?_)
  have L12 : ∀ (n12 : Nat) (w2_12 : Int32) (σ_12 : (Nat → Nat → Int32)) (H : Heap) (locs : List Loc) (ls : Array Slot), (a.toInt - w2_12.toInt).toNat < n12 → okS σ_12 → va_P D vwCl (pool G ad σ_12) H → va_S (AA B0) s.heap H locs → lv_has ls 3 [(2, .int w2_12), (0, .ref (ad (270))), (1, .int a)] → f6_tick_L12 a n12 w2_12 σ_12 = FF → W p l e (headSpec wsX6_tick { frames := 7, cells := 1, slots := 6, locals := 173 }).room s m ([.ref (ad (270)), .int a] : List Value).toArray below meth c H locs 1 6 (vx_MQ below (va_Qi (fun (r : Int32) (z : Nat → Nat → Int32) => ((Sum.inl r, z) : RT) = f6_tick σ a ∧ okS z) (fun (z : Nat → Nat → Int32) => Ho D G ad z) (AA B0)) (XX D G ad B0 (fun E z => ((Sum.inr E, z) : RT) = f6_tick σ a ∧ okS z)) ([.ref (ad (270)), .int a] : List Value).toArray s 1 6 (AA B0)) (F0 m 12 ls []) := by
    intro n12
    induction n12 with
    | zero => intro w2_12 σ_12 H locs ls hm; exact absurd hm (Nat.not_lt_zero _)
    | succ n12 ih12 =>
      intro w2_12 σ_12 H locs ls hm12 hO hP hS hl hF
      rw [f6_tick_L12] at hF
      refine lv_iload_n hx hb dX6_tick_12 rfl (lv_at hl 0 rfl) ?_
      refine lv_iload_n hx hb dX6_tick_13 rfl (lv_at hl 2 rfl) ?_
      refine lv_icmp_ge (tgt := 45) hx hb dX6_tick_14 (by decide) (fun c14 => ?_) (fun c14 => ?_)
      · have hF := ift c14 hF
        refine lv_aload_n hx hb dX6_tick_45 rfl (lv_at hl 1 rfl) ?_
        refine va_get (D := D) (ci := 8) (C := RX6) (T := TX6) (N := 9) hx hb hts inX6 hown hK hP (270) g_270 rfl 0 (by decide) (hts (.fieldLink RX6 12 "TileRunners" "world" "LTileRunners$World;") (List.mem_of_getElem? (i := 2) rfl)) (fun _ h9 => h9) rfl dX6_tick_46 ?_
        refine va_get (D := D) (ci := 7) (C := RX5) (T := TX5) (N := 7) hx hb hts inX5 hown hK hP (18*0+0) (g_o (by decide)) rfl 6 (by decide) (hts (.fieldLink RX6 186 "TileRunners$World" "time" "I") (List.mem_of_getElem? (i := 4) rfl)) (fun _ h9 => h9) rfl dX6_tick_49 ?_
        exact vx_ret (W.widen (Nat.le_of_ble_eq_true rfl) (Nat.le_of_ble_eq_true rfl) (W.iret (v := (σ_12 0 466)) hx hb hr (fun t ht hW => ⟨⟨(σ_12 0 466), σ_12, rfl, ⟨hF.trans hFF, hO⟩, ho_of ht hP⟩, hS.F ht⟩) hS.2.2 dX6_tick_52))
      · have hF := iff_ c14 hF
        refine lv_aload_n hx hb dX6_tick_17 rfl (lv_at hl 1 rfl) ?_
        refine va_get (D := D) (ci := 8) (C := RX6) (T := TX6) (N := 9) hx hb hts inX6 hown hK hP (270) g_270 rfl 5 (by decide) (hts (.fieldLink RX6 40 "TileRunners" "history" "LTileRunners$History;") (List.mem_of_getElem? (i := 1) rfl)) (fun _ h9 => h9) rfl dX6_tick_18 ?_
        refine lv_aload_n hx hb dX6_tick_21 rfl (lv_at hl 1 rfl) ?_
        refine va_get (D := D) (ci := 8) (C := RX6) (T := TX6) (N := 9) hx hb hts inX6 hown hK hP (270) g_270 rfl 0 (by decide) (hts (.fieldLink RX6 12 "TileRunners" "world" "LTileRunners$World;") (List.mem_of_getElem? (i := 2) rfl)) (fun _ h9 => h9) rfl dX6_tick_22 ?_
        refine va_callv (va_runV (As := [.ref (ad (18*0+0))]) (rest := []) ⟨hx, hb, hml, hown, hts⟩ (c1_keep l hA σ_12 0 (by decide) hO) (cwV 1 hts gX6_tick_X1_keep rfl rfl rfl hd_X1_keepV ⟨Nat.le_of_ble_eq_true rfl, Nat.le_of_ble_eq_true rfl⟩) ⟨hp_blind, va_recv hK hP (ci := 3) (q0 := 273) rfl g_273, hp_pre hK hN hP⟩ rfl rfl hl.1 rfl (lv_room (Nat.le_of_ble_eq_true rfl)) dX6_tick_25 ⟨Nat.le_of_ble_eq_true rfl, Nat.le_of_ble_eq_true rfl⟩) hS (fun _ _ h => h) (fun _ h => h) (fun u9 t H locs ht hvm hw9 hB hz1 hk1 hS => ?_)
        have hP := ho_at ht hB
        obtain ⟨eq25, ok9⟩ := hw9
        obtain ⟨σ25, e_σ25⟩ : ∃ z, z = u9 := ⟨_, rfl⟩
        rw [← e_σ25] at hP eq25 ok9
        have hO := ok9
        have hF := bnd_s eq25 hF
        refine lv_aload_n hx hb dX6_tick_28 rfl (lv_at hl 1 rfl) ?_
        refine va_get (D := D) (ci := 8) (C := RX6) (T := TX6) (N := 9) hx hb hts inX6 hown hK hP (270) g_270 rfl 0 (by decide) (hts (.fieldLink RX6 12 "TileRunners" "world" "LTileRunners$World;") (List.mem_of_getElem? (i := 2) rfl)) (fun _ h9 => h9) rfl dX6_tick_29 ?_
        refine lv_aload_n hx hb dX6_tick_32 rfl (lv_at hl 1 rfl) ?_
        refine va_get (D := D) (ci := 8) (C := RX6) (T := TX6) (N := 9) hx hb hts inX6 hown hK hP (270) g_270 rfl 3 (by decide) (hts (.fieldLink RX6 31 "TileRunners" "settings" "[I") (List.mem_of_getElem? (i := 3) rfl)) (fun _ h9 => h9) rfl dX6_tick_33 ?_
        have hP := f_eta 0 hP
        refine va_callv (va_runV (As := [.ref (ad (271))]) (rest := []) ⟨hx, hb, hml, hown, hts⟩ (c5_advance l hA σ25 (σ25 0) 0 (by decide) (hO.1 0 (by decide))) (cwV 1 hts gX6_tick_X5_advance rfl rfl rfl hd_X5_advanceV ⟨Nat.le_of_ble_eq_true rfl, Nat.le_of_ble_eq_true rfl⟩) ⟨hp_blind, va_recv hK hP (ci := 7) (q0 := 18*0+0) rfl (c_o (by decide)), hp_pre hK hN hP⟩ rfl rfl hl.1 rfl (lv_room (Nat.le_of_ble_eq_true rfl)) dX6_tick_36 ⟨Nat.le_of_ble_eq_true rfl, Nat.le_of_ble_eq_true rfl⟩) hS (fun _ _ h => h) (fun _ h => h) (fun u9 t H locs ht hvm hw9 hB hz1 hk1 hS => ?_)
        have hP := ho_at ht hB
        obtain ⟨eq36, ok9⟩ := hw9
        obtain ⟨σ36, e_σ36⟩ : ∃ z, z = va_up σ25 0 u9 := ⟨_, rfl⟩
        rw [← e_σ36] at hP
        have hF := bnd_s eq36 hF
        have hF := bnd_s e_σ36 hF
        have hO := okS_row e_σ36 hO (by decide) ok9
        obtain ⟨v2_39, e_v2_39⟩ : ∃ z : Int32, z = w2_12 + 1 := ⟨_, rfl⟩
        have hF := bnd_s e_v2_39 hF
        refine lv_iinc (v := v2_39) (lv' := [(2, .int v2_39), (0, .ref (ad (270))), (1, .int a)]) hx hb dX6_tick_39 hl (k := 0) rfl (by rw [e_v2_39]; rfl) (by decide) rfl (fun ls hl => ?_)
        refine lv_goto (tgt := 12) hx hb dX6_tick_42 (by decide) ?_
        exact ih12 v2_39 σ36 _ _ ls (ms_s (dec_up (nle_lt c14) e_v2_39) hm12) hO hP hS (lv_sub hl [0, 1, 2] rfl) hF
  exact L12 BIG 0 σ7 _ _ ls (big_up _ _) hO hP hS (lv_sub hl [0, 1, 2] rfl) hF
theorem hd_X6_tickV : yX6_tick.cls = RX6 ∧ yX6_tick.cls ≠ "java/lang/invoke/MethodHandle" ∧ yX6_tick.cls ≠ "java/lang/invoke/VarHandle" ∧ (parseMethodDescriptor yX6_tick.desc).map (fun d => d.parameters.length) = some 1 := by decide +kernel
set_option maxHeartbeats 4000000 in
set_option maxRecDepth 100000 in
theorem c6_undo (l : Launch) (hl0 : l.stackTraces = false) {D : va_G} {G : CY} {ad : Nat → Nat} {B0 : Nat} (hA : adOK B0 ad) (σ : Nat → Nat → Int32)  (hO : okS σ) : vx_Met l yX6_undo wsX6_undo { frames := 6, cells := 1, slots := 6, locals := 124 } (va_Pc [.ref (ad (270))] (Hx XEs D G ad B0 σ)) (va_Qi (fun (r : Int32) (z : Nat → Nat → Int32) => ((Sum.inl r, z) : RT) = f6_undo σ ∧ okS z) (fun (z : Nat → Nat → Int32) => Ho D G ad z) (AA B0)) (XX D G ad B0 (fun E z => ((Sum.inr E, z) : RT) = f6_undo σ ∧ okS z)) 1 6 (AA B0) := by
  refine vx_ofW (cc := cX6_undo) (maxL := 1) (ret := (some .int)) (by decide) rfl ?_
  intro p e s m args below meth c s₁ B hml htab hv
  obtain ⟨rfl, ⟨hP, hK, hN⟩, hT, hL, adK, adV, hG, hR⟩ := hv
  have hx := B.exec
  have hb := B.bytes
  have hr := B.returns
  have hts := atoms_spec (ws := wsX6_undo) B.pre
  have hown : s.vm.findClass RX6 = some m.cls := findClass_of_methodNamed B.named
  have hlocks := B.notSynchronized
  have inX1 : ∀ w ∈ wsX10, w ∈ wsX6_undo := (fun w h => List.mem_cons_of_mem _ (List.mem_append_left _ (List.mem_append_left _ (List.mem_append_left _ (List.mem_append_left _ (List.mem_append_left _ (List.mem_append_right _ h)))))))
  have inX5 : ∀ w ∈ wsX50, w ∈ wsX6_undo := (fun w h => List.mem_cons_of_mem _ (List.mem_append_left _ (List.mem_append_left _ (List.mem_append_left _ (List.mem_append_left _ (List.mem_append_right _ h))))))
  have inX6 : ∀ w ∈ wsX60, w ∈ wsX6_undo := (fun w h => List.mem_cons_of_mem _ (List.mem_append_left _ (List.mem_append_left _ (List.mem_append_left _ (List.mem_append_left _ (List.mem_append_left _ (List.mem_append_left _ (List.mem_append_right _ h))))))))
  have hP : va_P D vwCl (pool G ad σ) s.heap := hP
  have hS : va_S (AA B0) s.heap s.heap [] := va_S.rf
  have hl := lv_entry ([.ref (ad (270))]) (n := 1) (Nat.le_of_ble_eq_true rfl)
  rw [lg_entry_eq]
  generalize (lg_sl ([.ref (ad (270))]) ++ List.replicate (1 - (lg_sl ([.ref (ad (270))])).length) Slot.unset).toArray = ls at hl ⊢
  have hl : lv_has ls 1 [(0, .ref (ad (270)))] := hl
  obtain ⟨FF, hFF⟩ : ∃ z, z = f6_undo σ := ⟨_, rfl⟩
  have hF := hFF.symm
  rw [f6_undo] at hF
  refine lv_aload_n hx hb dX6_undo_0 rfl (lv_at hl 0 rfl) ?_
  refine va_get (D := D) (ci := 8) (C := RX6) (T := TX6) (N := 9) hx hb hts inX6 hown hK hP (270) g_270 rfl 5 (by decide) (hts (.fieldLink RX6 40 "TileRunners" "history" "LTileRunners$History;") (List.mem_of_getElem? (i := 3) rfl)) (fun _ h9 => h9) rfl dX6_undo_1 ?_
  refine va_get (D := D) (ci := 3) (C := RX1) (T := TX1) (N := 3) hx hb hts inX1 hown hK hP (273) g_273 rfl 1 (by decide) (hts (.fieldLink RX6 198 "TileRunners$History" "count" "I") (List.mem_of_getElem? (i := 4) rfl)) (fun _ h9 => h9) rfl dX6_undo_4 ?_
  refine lv_if_ne (tgt := 20) hx hb dX6_undo_7 (by decide) (fun c7 => ?_) (fun c7 => ?_)
  · have hF := iff_ c7 hF
    refine lv_aload_n hx hb dX6_undo_20 rfl (lv_at hl 0 rfl) ?_
    refine va_get (D := D) (ci := 8) (C := RX6) (T := TX6) (N := 9) hx hb hts inX6 hown hK hP (270) g_270 rfl 5 (by decide) (hts (.fieldLink RX6 40 "TileRunners" "history" "LTileRunners$History;") (List.mem_of_getElem? (i := 3) rfl)) (fun _ h9 => h9) rfl dX6_undo_21 ?_
    refine lv_aload_n hx hb dX6_undo_24 rfl (lv_at hl 0 rfl) ?_
    refine va_get (D := D) (ci := 8) (C := RX6) (T := TX6) (N := 9) hx hb hts inX6 hown hK hP (270) g_270 rfl 0 (by decide) (hts (.fieldLink RX6 12 "TileRunners" "world" "LTileRunners$World;") (List.mem_of_getElem? (i := 5) rfl)) (fun _ h9 => h9) rfl dX6_undo_25 ?_
    refine va_callv (va_runV (As := [.ref (ad (18*0+0))]) (rest := []) ⟨hx, hb, hml, hown, hts⟩ (c1_bringBack l hA σ 0 (by decide) hO (ne0_1 hO.2.1.1.1 c7)) (cwV 1 hts gX6_undo_X1_bringBack rfl rfl rfl hd_X1_bringBackV ⟨Nat.le_of_ble_eq_true rfl, Nat.le_of_ble_eq_true rfl⟩) ⟨hp_blind, va_recv hK hP (ci := 3) (q0 := 273) rfl g_273, hp_pre hK hN hP⟩ rfl rfl hl.1 rfl (lv_room (Nat.le_of_ble_eq_true rfl)) dX6_undo_28 ⟨Nat.le_of_ble_eq_true rfl, Nat.le_of_ble_eq_true rfl⟩) hS (fun _ _ h => h) (fun _ h => h) (fun u9 t H locs ht hvm hw9 hB hz1 hk1 hS => ?_)
    have hP := ho_at ht hB
    obtain ⟨eq28, ok9⟩ := hw9
    obtain ⟨σ28, e_σ28⟩ : ∃ z, z = u9 := ⟨_, rfl⟩
    rw [← e_σ28] at hP eq28 ok9
    have hO := ok9
    have hF := bnd_s eq28 hF
    refine lv_aload_n hx hb dX6_undo_31 rfl (lv_at hl 0 rfl) ?_
    refine va_get (D := D) (ci := 8) (C := RX6) (T := TX6) (N := 9) hx hb hts inX6 hown hK hP (270) g_270 rfl 0 (by decide) (hts (.fieldLink RX6 12 "TileRunners" "world" "LTileRunners$World;") (List.mem_of_getElem? (i := 5) rfl)) (fun _ h9 => h9) rfl dX6_undo_32 ?_
    refine va_get (D := D) (ci := 7) (C := RX5) (T := TX5) (N := 7) hx hb hts inX5 hown hK hP (18*0+0) (g_o (by decide)) rfl 6 (by decide) (hts (.fieldLink RX6 186 "TileRunners$World" "time" "I") (List.mem_of_getElem? (i := 6) rfl)) (fun _ h9 => h9) rfl dX6_undo_35 ?_
    exact vx_ret (W.widen (Nat.le_of_ble_eq_true rfl) (Nat.le_of_ble_eq_true rfl) (W.iret (v := (σ28 0 466)) hx hb hr (fun t ht hW => ⟨⟨(σ28 0 466), σ28, rfl, ⟨hF.trans hFF, hO⟩, ho_of ht hP⟩, hS.F ht⟩) hS.2.2 dX6_undo_38))
  · have hF := ift c7 hF
    obtain ⟨sa9, hsa9⟩ := hL.1 (201, "no world is kept") (by decide)
    exact vx_throwS (own := RX6) (cls := "java/lang/IllegalStateException") (names := ["java/lang/RuntimeException", "java/lang/Exception"]) (ik := 95) (is := 201) (ic := 99) (text := "no world is kept") (sa := sa9) hx hb hl0 hown (by decide) (by decide) (hts (.classLink RX6 95 "java/lang/IllegalStateException") (List.mem_of_getElem? (i := 1) rfl)) (hts (.initialized "java/lang/IllegalStateException") (List.mem_of_getElem? (i := 2) rfl)) hsa9 (hx_hat hL (by decide) (fun w h => hts w ((fun w h => List.mem_cons_of_mem _ (List.mem_append_right _ h)) w h)) xa_101) xg_101 hT.1 hT.2 hS (hl.1.trans hml.symm) dX6_undo_10 dX6_undo_13 dX6_undo_14 dX6_undo_16 dX6_undo_19 (fun x hx => (htab x hx).elim) (Nat.le_of_ble_eq_true rfl) (Nat.le_of_ble_eq_true rfl) (Nat.le_of_ble_eq_true rfl) (Nat.le_of_ble_eq_true rfl) hlocks (fun t9 a9 h1 h2 => ⟨("java/lang/IllegalStateException", σ), ⟨hF.trans hFF, hO⟩, ⟨rfl, (hx_out hP hS h1 h2).1⟩, (hx_out hP hS h1 h2).2⟩) hS.2.2 (Nat.le_of_ble_eq_true rfl) (Nat.le_of_ble_eq_true rfl)
theorem hd_X6_undoV : yX6_undo.cls = RX6 ∧ yX6_undo.cls ≠ "java/lang/invoke/MethodHandle" ∧ yX6_undo.cls ≠ "java/lang/invoke/VarHandle" ∧ (parseMethodDescriptor yX6_undo.desc).map (fun d => d.parameters.length) = some 0 := by decide +kernel
set_option maxHeartbeats 4000000 in
set_option maxRecDepth 100000 in
theorem c6_clearance (l : Launch) (hl0 : l.stackTraces = false) {D : va_G} {G : CY} {ad : Nat → Nat} {B0 : Nat} (hA : adOK B0 ad) (σ : Nat → Nat → Int32) (a : Int32) (b : Int32) (hO : okS σ) : vx_Met l yX6_clearance wsX6_clearance { frames := 7, cells := 2, slots := 12, locals := 117 } (va_Pc [.ref (ad (270)), .int a, .int b] (Hx XEs D G ad B0 σ)) (va_Qi (fun (r : Int32) (z : Nat → Nat → Int32) => ((Sum.inl r, z) : RT) = f6_clearance σ a b ∧ okS z) (fun (z : Nat → Nat → Int32) => Ho D G ad z) (AA B0)) (XX D G ad B0 (fun E z => ((Sum.inr E, z) : RT) = f6_clearance σ a b ∧ okS z)) 2 12 (AA B0) := by
  refine vx_ofW (cc := cX6_clearance) (maxL := 4) (ret := (some .int)) (by decide) rfl ?_
  intro p e s m args below meth c s₁ B hml htab hv
  obtain ⟨rfl, ⟨hP, hK, hN⟩, hT, hL, adK, adV, hG, hR⟩ := hv
  have hx := B.exec
  have hb := B.bytes
  have hr := B.returns
  have hts := atoms_spec (ws := wsX6_clearance) B.pre
  have hown : s.vm.findClass RX6 = some m.cls := findClass_of_methodNamed B.named
  have hlocks := B.notSynchronized
  have inX5 : ∀ w ∈ wsX50, w ∈ wsX6_clearance := (fun w h => List.mem_cons_of_mem _ (List.mem_append_left _ (List.mem_append_left _ (List.mem_append_left _ (List.mem_append_left _ (List.mem_append_left _ (List.mem_append_left _ (List.mem_append_right _ h))))))))
  have inX6 : ∀ w ∈ wsX60, w ∈ wsX6_clearance := (fun w h => List.mem_cons_of_mem _ (List.mem_append_left _ (List.mem_append_left _ (List.mem_append_left _ (List.mem_append_left _ (List.mem_append_left _ (List.mem_append_left _ (List.mem_append_left _ (List.mem_append_right _ h)))))))))
  have hP : va_P D vwCl (pool G ad σ) s.heap := hP
  have hS : va_S (AA B0) s.heap s.heap [] := va_S.rf
  have hl := lv_entry ([.ref (ad (270)), .int a, .int b]) (n := 4) (Nat.le_of_ble_eq_true rfl)
  rw [lg_entry_eq]
  generalize (lg_sl ([.ref (ad (270)), .int a, .int b]) ++ List.replicate (4 - (lg_sl ([.ref (ad (270)), .int a, .int b])).length) Slot.unset).toArray = ls at hl ⊢
  have hl : lv_has ls 4 [(0, .ref (ad (270))), (1, .int a), (2, .int b)] := hl
  obtain ⟨FF, hFF⟩ : ∃ z, z = f6_clearance σ a b := ⟨_, rfl⟩
  have hF := hFF.symm
  rw [f6_clearance] at hF
  refine lv_aload_n hx hb dX6_clearance_0 rfl (lv_at hl 0 rfl) ?_
  refine lv_iload_n hx hb dX6_clearance_1 rfl (lv_at hl 1 rfl) ?_
  refine vx_callv (vx_runV (As := [.int a]) (rest := []) ⟨hx, hb, hml, hown, hts⟩ (c6_requireBody l hl0 hA σ a hO) (cwV 1 hts gX6_clearance_X6_requireBody rfl rfl rfl hd_X6_requireBodyV ⟨Nat.le_of_ble_eq_true rfl, Nat.le_of_ble_eq_true rfl⟩) ⟨hx_blind, va_recv hK hP (ci := 8) (q0 := 270) rfl g_270, hx_pre hK hN hT hL hG hR hS hP⟩ rfl rfl hl.1 rfl (lv_room (Nat.le_of_ble_eq_true rfl)) dX6_clearance_2 ⟨Nat.le_of_ble_eq_true rfl, Nat.le_of_ble_eq_true rfl⟩) hS (fun _ _ h => h) (fun _ h => h) (fun _ _ h => h) (fun E9 ce9 q9 z9 t9 H9 locs9 ht9 hvm9 hw9 hB9 hz9 hk9 hS9 hce9 hcv9 hcl9 => ?_) (fun u9 t H locs ht hvm hw9 hB hz1 hk1 hS => ?_)
  · obtain ⟨eqx, okx⟩ := hw9
    obtain ⟨rfl, hBx⟩ := hB9
    have hF := bndx_x eqx hF
    exact vx_out (fun x hx => (htab x hx).elim) hlocks hce9 hcv9 hcl9 (fun t8 h8 _ => ⟨z9, ⟨hF.trans hFF, okx⟩, ⟨rfl, ho_of h8 (ho_at ht9 hBx)⟩, hS9.F h8⟩) hS9.2.2 (Nat.le_of_ble_eq_true rfl) (Nat.le_of_ble_eq_true rfl)
  have hP := ho_at ht hB
  obtain ⟨eq2, ok9⟩ := hw9
  obtain ⟨σ2, e_σ2⟩ : ∃ z, z = u9 := ⟨_, rfl⟩
  rw [← e_σ2] at hP eq2 ok9
  have hO := ok9
  have hF := bndx_s eq2 hF
  have hi9 : vp_in a 4 := in_body hO eq2
  refine lv_iload_n hx hb dX6_clearance_5 rfl (lv_at hl 2 rfl) ?_
  refine lv_iconst (v := (-1)) hx hb dX6_clearance_6 (by decide) ?_
  have J20 : ∀ (t0_20 : Int32) (H : Heap) (locs : List Loc) (ls : Array Slot), bl t0_20 → va_P D vwCl (pool G ad σ2) H → va_S (AA B0) s.heap H locs → lv_has ls 4 [(0, .ref (ad (270))), (1, .int a), (2, .int b)] → f6_clearance_b20 a b σ2 t0_20 = FF → W p l e (headSpec wsX6_clearance { frames := 7, cells := 2, slots := 12, locals := 117 }).room s m ([.ref (ad (270)), .int a, .int b] : List Value).toArray below meth c H locs 1 6 (vx_MQ below (va_Qi (fun (r : Int32) (z : Nat → Nat → Int32) => ((Sum.inl r, z) : RT) = f6_clearance σ a b ∧ okS z) (fun (z : Nat → Nat → Int32) => Ho D G ad z) (AA B0)) (XX D G ad B0 (fun E z => ((Sum.inr E, z) : RT) = f6_clearance σ a b ∧ okS z)) ([.ref (ad (270)), .int a, .int b] : List Value).toArray s 2 12 (AA B0)) (F0 m 20 ls [.int t0_20]) := by
    intro t0_20 H locs ls hb_t0_20 hP hS hl hF
    rw [f6_clearance_b20] at hF
    refine vx_callv (vx_runS (As := [.int t0_20]) (rest := []) ⟨hx, hb, hml, hown, hts⟩ (c6_require l hl0 hA σ2 t0_20 hO hb_t0_20) (va_cwS 1 hts gX6_clearance_X6_require rfl rfl rfl hd_X6_requireS ⟨Nat.le_of_ble_eq_true rfl, Nat.le_of_ble_eq_true rfl⟩) ⟨hx_blind, hx_pre hK hN hT hL hG hR hS hP⟩ rfl rfl hl.1 rfl (lv_room (Nat.le_of_ble_eq_true rfl)) dX6_clearance_20 ⟨Nat.le_of_ble_eq_true rfl, Nat.le_of_ble_eq_true rfl⟩) hS (fun _ _ h => h) (fun _ h => h) (fun _ _ h => h) (fun E9 ce9 q9 z9 t9 H9 locs9 ht9 hvm9 hw9 hB9 hz9 hk9 hS9 hce9 hcv9 hcl9 => ?_) (fun u9 t H locs ht hvm hw9 hB hz1 hk1 hS => ?_)
    · obtain ⟨eqx, okx⟩ := hw9
      obtain ⟨rfl, hBx⟩ := hB9
      have hF := bndx_x eqx hF
      exact vx_out (fun x hx => (htab x hx).elim) hlocks hce9 hcv9 hcl9 (fun t8 h8 _ => ⟨z9, ⟨hF.trans hFF, okx⟩, ⟨rfl, ho_of h8 (ho_at ht9 hBx)⟩, hS9.F h8⟩) hS9.2.2 (Nat.le_of_ble_eq_true rfl) (Nat.le_of_ble_eq_true rfl)
    have hP := ho_at ht hB
    obtain ⟨eq20, ok9⟩ := hw9
    obtain ⟨σ20, e_σ20⟩ : ∃ z, z = u9 := ⟨_, rfl⟩
    rw [← e_σ20] at hP eq20 ok9
    have hO := ok9
    have hF := bndx_s eq20 hF
    refine lv_aload_n hx hb dX6_clearance_23 rfl (lv_at hl 0 rfl) ?_
    refine va_get (D := D) (ci := 8) (C := RX6) (T := TX6) (N := 9) hx hb hts inX6 hown hK hP (270) g_270 rfl 1 (by decide) (hts (.fieldLink RX6 16 "TileRunners" "trial" "LTileRunners$World;") (List.mem_of_getElem? (i := 1) rfl)) (fun _ h9 => h9) rfl dX6_clearance_24 ?_
    refine lv_aload_n hx hb dX6_clearance_27 rfl (lv_at hl 0 rfl) ?_
    refine va_get (D := D) (ci := 8) (C := RX6) (T := TX6) (N := 9) hx hb hts inX6 hown hK hP (270) g_270 rfl 0 (by decide) (hts (.fieldLink RX6 12 "TileRunners" "world" "LTileRunners$World;") (List.mem_of_getElem? (i := 2) rfl)) (fun _ h9 => h9) rfl dX6_clearance_28 ?_
    refine va_callv (va_runV (As := [.ref (ad (18*0+0))]) (rest := []) ⟨hx, hb, hml, hown, hts⟩ (c5_copyFrom l hA σ20 1 (by decide) 0 (by decide) hO) (cwV 1 hts gX6_clearance_X5_copyFrom rfl rfl rfl hd_X5_copyFromV ⟨Nat.le_of_ble_eq_true rfl, Nat.le_of_ble_eq_true rfl⟩) ⟨hp_blind, va_recv hK hP (ci := 7) (q0 := 18*1+0) rfl (g_o (by decide)), hp_pre hK hN hP⟩ rfl rfl hl.1 rfl (lv_room (Nat.le_of_ble_eq_true rfl)) dX6_clearance_31 ⟨Nat.le_of_ble_eq_true rfl, Nat.le_of_ble_eq_true rfl⟩) hS (fun _ _ h => h) (fun _ h => h) (fun u9 t H locs ht hvm hw9 hB hz1 hk1 hS => ?_)
    have hP := ho_at ht hB
    obtain ⟨eq31, ok9⟩ := hw9
    obtain ⟨σ31, e_σ31⟩ : ∃ z, z = u9 := ⟨_, rfl⟩
    rw [← e_σ31] at hP eq31 ok9
    have hO := ok9
    have hF := bnd_s eq31 hF
    refine lv_iconst (v := 0) hx hb dX6_clearance_34 (by decide) ?_
    refine lv_istore_n (lv' := [(3, .int 0), (0, .ref (ad (270))), (1, .int a), (2, .int b)]) hx hb dX6_clearance_35 rfl hl (by decide) rfl (fun ls hl => ?_)
    have L36 : ∀ (n36 : Nat) (w3_36 : Int32) (σ_36 : (Nat → Nat → Int32)) (H : Heap) (locs : List Loc) (ls : Array Slot), ((400 : Int32).toInt - w3_36.toInt).toNat < n36 → okS σ_36 → va_P D vwCl (pool G ad σ_36) H → va_S (AA B0) s.heap H locs → lv_has ls 4 [(3, .int w3_36), (0, .ref (ad (270))), (1, .int a), (2, .int b)] → f6_clearance_L36 a b n36 w3_36 σ_36 = FF → W p l e (headSpec wsX6_clearance { frames := 7, cells := 2, slots := 12, locals := 117 }).room s m ([.ref (ad (270)), .int a, .int b] : List Value).toArray below meth c H locs 2 12 (vx_MQ below (va_Qi (fun (r : Int32) (z : Nat → Nat → Int32) => ((Sum.inl r, z) : RT) = f6_clearance σ a b ∧ okS z) (fun (z : Nat → Nat → Int32) => Ho D G ad z) (AA B0)) (XX D G ad B0 (fun E z => ((Sum.inr E, z) : RT) = f6_clearance σ a b ∧ okS z)) ([.ref (ad (270)), .int a, .int b] : List Value).toArray s 2 12 (AA B0)) (F0 m 36 ls []) := by
      intro n36
      induction n36 with
      | zero => intro w3_36 σ_36 H locs ls hm; exact absurd hm (Nat.not_lt_zero _)
      | succ n36 ih36 =>
        intro w3_36 σ_36 H locs ls hm36 hO hP hS hl hF
        rw [f6_clearance_L36] at hF
        refine lv_iload_n hx hb dX6_clearance_36 rfl (lv_at hl 0 rfl) ?_
        refine lv_sipush (v := 400) hx hb dX6_clearance_37 (by decide) ?_
        refine lv_icmp_ge (tgt := 69) hx hb dX6_clearance_40 (by decide) (fun c40 => ?_) (fun c40 => ?_)
        · have hF := ift c40 hF
          refine lv_iload_n hx hb dX6_clearance_69 rfl (lv_at hl 0 rfl) ?_
          exact vx_ret (W.widen (Nat.le_of_ble_eq_true rfl) (Nat.le_of_ble_eq_true rfl) (W.iret (v := w3_36) hx hb hr (fun t ht hW => ⟨⟨w3_36, σ_36, rfl, ⟨hF.trans hFF, hO⟩, ho_of ht hP⟩, hS.F ht⟩) hS.2.2 dX6_clearance_70))
        · have hF := iff_ c40 hF
          refine lv_aload_n hx hb dX6_clearance_43 rfl (lv_at hl 1 rfl) ?_
          refine va_get (D := D) (ci := 8) (C := RX6) (T := TX6) (N := 9) hx hb hts inX6 hown hK hP (270) g_270 rfl 1 (by decide) (hts (.fieldLink RX6 16 "TileRunners" "trial" "LTileRunners$World;") (List.mem_of_getElem? (i := 1) rfl)) (fun _ h9 => h9) rfl dX6_clearance_44 ?_
          refine lv_aload_n hx hb dX6_clearance_47 rfl (lv_at hl 1 rfl) ?_
          refine va_get (D := D) (ci := 8) (C := RX6) (T := TX6) (N := 9) hx hb hts inX6 hown hK hP (270) g_270 rfl 1 (by decide) (hts (.fieldLink RX6 16 "TileRunners" "trial" "LTileRunners$World;") (List.mem_of_getElem? (i := 1) rfl)) (fun _ h9 => h9) rfl dX6_clearance_48 ?_
          refine va_get (D := D) (ci := 7) (C := RX5) (T := TX5) (N := 7) hx hb hts inX5 hown hK hP (18*1+0) (g_o (by decide)) rfl 1 (by decide) (hts (.fieldLink RX6 102 "TileRunners$World" "bodies" "[LTileRunners$Body;") (List.mem_of_getElem? (i := 3) rfl)) (fun _ h9 => h9) rfl dX6_clearance_51 ?_
          refine lv_iload_n hx hb dX6_clearance_54 rfl (lv_at hl 2 rfl) ?_
          have hi_55 : a.toNatClampNeg < 4 := in_lt (i := a) hi9
          refine pqald (t0 := 2) (i := a) hx hb hK hP (c_bs (by decide)) rfl hi9 dX6_clearance_55 ?_
          refine lv_iload_n hx hb dX6_clearance_56 rfl (lv_at hl 3 rfl) ?_
          have hP := f_eta 1 hP
          refine va_calli (va_runV (As := [.ref (ad (18*1+(6+2*a.toNatClampNeg))), .int b]) (rest := []) ⟨hx, hb, hml, hown, hts⟩ (c5_stepSideways l hA σ_36 (σ_36 1) 1 (by decide) a.toNatClampNeg hi_55 b (hO.1 1 (by decide))) (cwV 2 hts gX6_clearance_X5_stepSideways rfl rfl rfl hd_X5_stepSidewaysV ⟨Nat.le_of_ble_eq_true rfl, Nat.le_of_ble_eq_true rfl⟩) ⟨hp_blind, va_recv hK hP (ci := 7) (q0 := 18*1+0) rfl (c_o (by decide)), hp_pre hK hN hP⟩ rfl rfl hl.1 rfl (lv_room (Nat.le_of_ble_eq_true rfl)) dX6_clearance_57 ⟨Nat.le_of_ble_eq_true rfl, Nat.le_of_ble_eq_true rfl⟩) hS (fun _ _ h => h) (fun _ h => h) (fun r57 u9 t H locs ht hvm hw9 hB hz1 hk1 hS => ?_)
          have hP := ho_at ht hB
          obtain ⟨eq57, ok9, hb_r57⟩ := hw9
          obtain ⟨σ57, e_σ57⟩ : ∃ z, z = va_up σ_36 1 u9 := ⟨_, rfl⟩
          rw [← e_σ57] at hP
          have hF := bnd2_s eq57 hF
          have hF := bnd_s e_σ57 hF
          have hO := okS_row e_σ57 hO (by decide) ok9
          refine lv_if_eq (tgt := 69) hx hb dX6_clearance_60 (by decide) (fun c60 => ?_) (fun c60 => ?_)
          · have hF := ift c60 hF
            refine lv_iload_n hx hb dX6_clearance_69 rfl (lv_at hl 0 rfl) ?_
            exact vx_ret (W.widen (Nat.le_of_ble_eq_true rfl) (Nat.le_of_ble_eq_true rfl) (W.iret (v := w3_36) hx hb hr (fun t ht hW => ⟨⟨w3_36, σ57, rfl, ⟨hF.trans hFF, hO⟩, ho_of ht hP⟩, hS.F ht⟩) hS.2.2 dX6_clearance_70))
          · have hF := iff_ c60 hF
            obtain ⟨v3_63, e_v3_63⟩ : ∃ z : Int32, z = w3_36 + 1 := ⟨_, rfl⟩
            have hF := bnd_s e_v3_63 hF
            refine lv_iinc (v := v3_63) (lv' := [(3, .int v3_63), (0, .ref (ad (270))), (1, .int a), (2, .int b)]) hx hb dX6_clearance_63 hl (k := 0) rfl (by rw [e_v3_63]; rfl) (by decide) rfl (fun ls hl => ?_)
            refine lv_goto (tgt := 36) hx hb dX6_clearance_66 (by decide) ?_
            exact ih36 v3_63 σ57 _ _ ls (ms_s (dec_up (nle_lt c40) e_v3_63) hm36) hO hP hS (lv_sub hl [0, 1, 2, 3] rfl) hF
    exact L36 BIG 0 σ31 _ _ ls (big_up _ _) hO hP hS (lv_sub hl [0, 1, 2, 3] rfl) hF
  have J15 : ∀  (H : Heap) (locs : List Loc) (ls : Array Slot), va_P D vwCl (pool G ad σ2) H → va_S (AA B0) s.heap H locs → lv_has ls 4 [(0, .ref (ad (270))), (1, .int a), (2, .int b)] → f6_clearance_b15 a b σ2  = FF → W p l e (headSpec wsX6_clearance { frames := 7, cells := 2, slots := 12, locals := 117 }).room s m ([.ref (ad (270)), .int a, .int b] : List Value).toArray below meth c H locs 1 6 (vx_MQ below (va_Qi (fun (r : Int32) (z : Nat → Nat → Int32) => ((Sum.inl r, z) : RT) = f6_clearance σ a b ∧ okS z) (fun (z : Nat → Nat → Int32) => Ho D G ad z) (AA B0)) (XX D G ad B0 (fun E z => ((Sum.inr E, z) : RT) = f6_clearance σ a b ∧ okS z)) ([.ref (ad (270)), .int a, .int b] : List Value).toArray s 2 12 (AA B0)) (F0 m 15 ls []) := by
    intro  H locs ls hP hS hl hF
    rw [f6_clearance_b15] at hF
    refine lv_iconst (v := 1) hx hb dX6_clearance_15 (by decide) ?_
    refine lv_goto (tgt := 20) hx hb dX6_clearance_16 (by decide) ?_
    exact J20 1 _ _ ls bl1 hP hS (lv_sub hl [0, 1, 2] rfl) hF
  refine lv_icmp_eq (tgt := 15) hx hb dX6_clearance_7 (by decide) (fun c7 => ?_) (fun c7 => ?_)
  · have hF := ift c7 hF
    exact J15  _ _ ls hP hS (lv_sub hl [0, 1, 2] rfl) hF
  · have hF := iff_ c7 hF
    refine lv_iload_n hx hb dX6_clearance_10 rfl (lv_at hl 2 rfl) ?_
    refine lv_iconst (v := 1) hx hb dX6_clearance_11 (by decide) ?_
    refine lv_icmp_ne (tgt := 19) hx hb dX6_clearance_12 (by decide) (fun c12 => ?_) (fun c12 => ?_)
    · have hF := iff_ c12 hF
      refine lv_iconst (v := 0) hx hb dX6_clearance_19 (by decide) ?_
      exact J20 0 _ _ ls bl0 hP hS (lv_sub hl [0, 1, 2] rfl) hF
    · have hF := ift c12 hF
      exact J15  _ _ ls hP hS (lv_sub hl [0, 1, 2] rfl) hF
theorem hd_X6_clearanceV : yX6_clearance.cls = RX6 ∧ yX6_clearance.cls ≠ "java/lang/invoke/MethodHandle" ∧ yX6_clearance.cls ≠ "java/lang/invoke/VarHandle" ∧ (parseMethodDescriptor yX6_clearance.desc).map (fun d => d.parameters.length) = some 2 := by decide +kernel
set_option maxHeartbeats 4000000 in
set_option maxRecDepth 100000 in
theorem c6_predict (l : Launch) (hl0 : l.stackTraces = false) {D : va_G} {G : CY} {ad : Nat → Nat} {B0 : Nat} (hA : adOK B0 ad) (σ : Nat → Nat → Int32) (a : Int32) (b : Int32) (c1 : Int32) (d : Int32) (hO : okS σ) : vx_Met l yX6_predict wsX6_predict { frames := 7, cells := 2, slots := 12, locals := 173 } (va_Pc [.ref (ad (270)), .int a, .int b, .int c1, .int d] (Hx XEs D G ad B0 σ)) (va_Qi (fun (r : Int32) (z : Nat → Nat → Int32) => ((Sum.inl r, z) : RT) = f6_predict σ a b c1 d ∧ okS z) (fun (z : Nat → Nat → Int32) => Ho D G ad z) (AA B0)) (XX D G ad B0 (fun E z => ((Sum.inr E, z) : RT) = f6_predict σ a b c1 d ∧ okS z)) 2 12 (AA B0) := by
  refine vx_ofW (cc := cX6_predict) (maxL := 6) (ret := (some .int)) (by decide) rfl ?_
  intro p e s m args below meth c s₁ B hml htab hv
  obtain ⟨rfl, ⟨hP, hK, hN⟩, hT, hL, adK, adV, hG, hR⟩ := hv
  have hx := B.exec
  have hb := B.bytes
  have hr := B.returns
  have hts := atoms_spec (ws := wsX6_predict) B.pre
  have hown : s.vm.findClass RX6 = some m.cls := findClass_of_methodNamed B.named
  have hlocks := B.notSynchronized
  have inX0 : ∀ w ∈ wsX00, w ∈ wsX6_predict := (fun w h => List.mem_cons_of_mem _ (List.mem_append_left _ (List.mem_append_left _ (List.mem_append_left _ (List.mem_append_left _ (List.mem_append_left _ (List.mem_append_right _ h)))))))
  have inX5 : ∀ w ∈ wsX50, w ∈ wsX6_predict := (fun w h => List.mem_cons_of_mem _ (List.mem_append_left _ (List.mem_append_left _ (List.mem_append_left _ (List.mem_append_left _ (List.mem_append_left _ (List.mem_append_left _ (List.mem_append_right _ h))))))))
  have inX6 : ∀ w ∈ wsX60, w ∈ wsX6_predict := (fun w h => List.mem_cons_of_mem _ (List.mem_append_left _ (List.mem_append_left _ (List.mem_append_left _ (List.mem_append_left _ (List.mem_append_left _ (List.mem_append_left _ (List.mem_append_left _ (List.mem_append_right _ h)))))))))
  have hP : va_P D vwCl (pool G ad σ) s.heap := hP
  have hS : va_S (AA B0) s.heap s.heap [] := va_S.rf
  have hl := lv_entry ([.ref (ad (270)), .int a, .int b, .int c1, .int d]) (n := 6) (Nat.le_of_ble_eq_true rfl)
  rw [lg_entry_eq]
  generalize (lg_sl ([.ref (ad (270)), .int a, .int b, .int c1, .int d]) ++ List.replicate (6 - (lg_sl ([.ref (ad (270)), .int a, .int b, .int c1, .int d])).length) Slot.unset).toArray = ls at hl ⊢
  have hl : lv_has ls 6 [(0, .ref (ad (270))), (1, .int a), (2, .int b), (3, .int c1), (4, .int d)] := hl
  obtain ⟨FF, hFF⟩ : ∃ z, z = f6_predict σ a b c1 d := ⟨_, rfl⟩
  have hF := hFF.symm
  rw [f6_predict] at hF
  refine lv_aload_n hx hb dX6_predict_0 rfl (lv_at hl 0 rfl) ?_
  refine lv_iload_n hx hb dX6_predict_1 rfl (lv_at hl 1 rfl) ?_
  refine vx_callv (vx_runV (As := [.int a]) (rest := []) ⟨hx, hb, hml, hown, hts⟩ (c6_requireBody l hl0 hA σ a hO) (cwV 1 hts gX6_predict_X6_requireBody rfl rfl rfl hd_X6_requireBodyV ⟨Nat.le_of_ble_eq_true rfl, Nat.le_of_ble_eq_true rfl⟩) ⟨hx_blind, va_recv hK hP (ci := 8) (q0 := 270) rfl g_270, hx_pre hK hN hT hL hG hR hS hP⟩ rfl rfl hl.1 rfl (lv_room (Nat.le_of_ble_eq_true rfl)) dX6_predict_2 ⟨Nat.le_of_ble_eq_true rfl, Nat.le_of_ble_eq_true rfl⟩) hS (fun _ _ h => h) (fun _ h => h) (fun _ _ h => h) (fun E9 ce9 q9 z9 t9 H9 locs9 ht9 hvm9 hw9 hB9 hz9 hk9 hS9 hce9 hcv9 hcl9 => ?_) (fun u9 t H locs ht hvm hw9 hB hz1 hk1 hS => ?_)
  · obtain ⟨eqx, okx⟩ := hw9
    obtain ⟨rfl, hBx⟩ := hB9
    have hF := bndx_x eqx hF
    exact vx_out (fun x hx => (htab x hx).elim) hlocks hce9 hcv9 hcl9 (fun t8 h8 _ => ⟨z9, ⟨hF.trans hFF, okx⟩, ⟨rfl, ho_of h8 (ho_at ht9 hBx)⟩, hS9.F h8⟩) hS9.2.2 (Nat.le_of_ble_eq_true rfl) (Nat.le_of_ble_eq_true rfl)
  have hP := ho_at ht hB
  obtain ⟨eq2, ok9⟩ := hw9
  obtain ⟨σ2, e_σ2⟩ : ∃ z, z = u9 := ⟨_, rfl⟩
  rw [← e_σ2] at hP eq2 ok9
  have hO := ok9
  have hF := bndx_s eq2 hF
  have hi9 : vp_in a 4 := in_body hO eq2
  refine lv_iload_n hx hb dX6_predict_5 rfl (lv_at hl 2 rfl) ?_
  refine lv_iconst (v := 0) hx hb dX6_predict_6 (by decide) ?_
  refine lv_bipush (v := 15) hx hb dX6_predict_7 (by decide) ?_
  refine va_calli (va_runS (As := [.int b, .int 0, .int 15]) (rest := []) ⟨hx, hb, hml, hown, hts⟩ (c6_isWithin l hA σ2 b 0 15 ) (va_cwS 3 hts gX6_predict_X6_isWithin rfl rfl rfl hd_X6_isWithinS ⟨Nat.le_of_ble_eq_true rfl, Nat.le_of_ble_eq_true rfl⟩) ⟨hp_blind, hp_pre hK hN hP⟩ rfl rfl hl.1 rfl (lv_room (Nat.le_of_ble_eq_true rfl)) dX6_predict_9 ⟨Nat.le_of_ble_eq_true rfl, Nat.le_of_ble_eq_true rfl⟩) hS (fun _ _ h => h) (fun _ h => h) (fun r9 _ t H locs ht hvm hw9 hB hz1 hk1 hS => ?_)
  have hP := ho_at ht hB
  obtain ⟨eq9, hb_r9⟩ := hw9
  have hF := bnd_s eq9 hF
  have J41 : ∀ (t0_41 : Int32) (H : Heap) (locs : List Loc) (ls : Array Slot), bl t0_41 → va_P D vwCl (pool G ad σ2) H → va_S (AA B0) s.heap H locs → lv_has ls 6 [(0, .ref (ad (270))), (1, .int a), (2, .int b), (3, .int c1), (4, .int d)] → f6_predict_b41 a b c1 d σ2 t0_41 = FF → W p l e (headSpec wsX6_predict { frames := 7, cells := 2, slots := 12, locals := 173 }).room s m ([.ref (ad (270)), .int a, .int b, .int c1, .int d] : List Value).toArray below meth c H locs 1 6 (vx_MQ below (va_Qi (fun (r : Int32) (z : Nat → Nat → Int32) => ((Sum.inl r, z) : RT) = f6_predict σ a b c1 d ∧ okS z) (fun (z : Nat → Nat → Int32) => Ho D G ad z) (AA B0)) (XX D G ad B0 (fun E z => ((Sum.inr E, z) : RT) = f6_predict σ a b c1 d ∧ okS z)) ([.ref (ad (270)), .int a, .int b, .int c1, .int d] : List Value).toArray s 2 12 (AA B0)) (F0 m 41 ls [.int t0_41]) := by
    intro t0_41 H locs ls hb_t0_41 hP hS hl hF
    rw [f6_predict_b41] at hF
    refine vx_callv (vx_runS (As := [.int t0_41]) (rest := []) ⟨hx, hb, hml, hown, hts⟩ (c6_require l hl0 hA σ2 t0_41 hO hb_t0_41) (va_cwS 1 hts gX6_predict_X6_require rfl rfl rfl hd_X6_requireS ⟨Nat.le_of_ble_eq_true rfl, Nat.le_of_ble_eq_true rfl⟩) ⟨hx_blind, hx_pre hK hN hT hL hG hR hS hP⟩ rfl rfl hl.1 rfl (lv_room (Nat.le_of_ble_eq_true rfl)) dX6_predict_41 ⟨Nat.le_of_ble_eq_true rfl, Nat.le_of_ble_eq_true rfl⟩) hS (fun _ _ h => h) (fun _ h => h) (fun _ _ h => h) (fun E9 ce9 q9 z9 t9 H9 locs9 ht9 hvm9 hw9 hB9 hz9 hk9 hS9 hce9 hcv9 hcl9 => ?_) (fun u9 t H locs ht hvm hw9 hB hz1 hk1 hS => ?_)
    · obtain ⟨eqx, okx⟩ := hw9
      obtain ⟨rfl, hBx⟩ := hB9
      have hF := bndx_x eqx hF
      exact vx_out (fun x hx => (htab x hx).elim) hlocks hce9 hcv9 hcl9 (fun t8 h8 _ => ⟨z9, ⟨hF.trans hFF, okx⟩, ⟨rfl, ho_of h8 (ho_at ht9 hBx)⟩, hS9.F h8⟩) hS9.2.2 (Nat.le_of_ble_eq_true rfl) (Nat.le_of_ble_eq_true rfl)
    have hP := ho_at ht hB
    obtain ⟨eq41, ok9⟩ := hw9
    obtain ⟨σ41, e_σ41⟩ : ∃ z, z = u9 := ⟨_, rfl⟩
    rw [← e_σ41] at hP eq41 ok9
    have hO := ok9
    have hF := bndx_s eq41 hF
    refine lv_aload_n hx hb dX6_predict_44 rfl (lv_at hl 0 rfl) ?_
    refine va_get (D := D) (ci := 8) (C := RX6) (T := TX6) (N := 9) hx hb hts inX6 hown hK hP (270) g_270 rfl 1 (by decide) (hts (.fieldLink RX6 16 "TileRunners" "trial" "LTileRunners$World;") (List.mem_of_getElem? (i := 1) rfl)) (fun _ h9 => h9) rfl dX6_predict_45 ?_
    refine lv_aload_n hx hb dX6_predict_48 rfl (lv_at hl 0 rfl) ?_
    refine va_get (D := D) (ci := 8) (C := RX6) (T := TX6) (N := 9) hx hb hts inX6 hown hK hP (270) g_270 rfl 0 (by decide) (hts (.fieldLink RX6 12 "TileRunners" "world" "LTileRunners$World;") (List.mem_of_getElem? (i := 2) rfl)) (fun _ h9 => h9) rfl dX6_predict_49 ?_
    refine va_callv (va_runV (As := [.ref (ad (18*0+0))]) (rest := []) ⟨hx, hb, hml, hown, hts⟩ (c5_copyFrom l hA σ41 1 (by decide) 0 (by decide) hO) (cwV 1 hts gX6_predict_X5_copyFrom rfl rfl rfl hd_X5_copyFromV ⟨Nat.le_of_ble_eq_true rfl, Nat.le_of_ble_eq_true rfl⟩) ⟨hp_blind, va_recv hK hP (ci := 7) (q0 := 18*1+0) rfl (g_o (by decide)), hp_pre hK hN hP⟩ rfl rfl hl.1 rfl (lv_room (Nat.le_of_ble_eq_true rfl)) dX6_predict_52 ⟨Nat.le_of_ble_eq_true rfl, Nat.le_of_ble_eq_true rfl⟩) hS (fun _ _ h => h) (fun _ h => h) (fun u9 t H locs ht hvm hw9 hB hz1 hk1 hS => ?_)
    have hP := ho_at ht hB
    obtain ⟨eq52, ok9⟩ := hw9
    obtain ⟨σ52, e_σ52⟩ : ∃ z, z = u9 := ⟨_, rfl⟩
    rw [← e_σ52] at hP eq52 ok9
    have hO := ok9
    have hF := bnd_s eq52 hF
    refine lv_aload_n hx hb dX6_predict_55 rfl (lv_at hl 0 rfl) ?_
    refine va_get (D := D) (ci := 8) (C := RX6) (T := TX6) (N := 9) hx hb hts inX6 hown hK hP (270) g_270 rfl 1 (by decide) (hts (.fieldLink RX6 16 "TileRunners" "trial" "LTileRunners$World;") (List.mem_of_getElem? (i := 1) rfl)) (fun _ h9 => h9) rfl dX6_predict_56 ?_
    refine va_get (D := D) (ci := 7) (C := RX5) (T := TX5) (N := 7) hx hb hts inX5 hown hK hP (18*1+0) (g_o (by decide)) rfl 1 (by decide) (hts (.fieldLink RX6 102 "TileRunners$World" "bodies" "[LTileRunners$Body;") (List.mem_of_getElem? (i := 3) rfl)) (fun _ h9 => h9) rfl dX6_predict_59 ?_
    refine lv_iload_n hx hb dX6_predict_62 rfl (lv_at hl 1 rfl) ?_
    have hi_63 : a.toNatClampNeg < 4 := in_lt (i := a) hi9
    refine pqald (t0 := 2) (i := a) hx hb hK hP (c_bs (by decide)) rfl hi9 dX6_predict_63 ?_
    refine lv_iload_n hx hb dX6_predict_64 rfl (lv_at hl 2 rfl) ?_
    have hP := f_eta 1 hP
    refine pput hx hb hts inX0 tyX0 tyX0_ok nmX0 hown hK hP hA hS (by decide) (j := 6+2*a.toNatClampNeg) (by omega) (wcel_b hi_63) rfl 11 (by decide) (hts (.fieldLink RX6 132 "TileRunners$Body" "input" "I") (List.mem_of_getElem? (i := 4) rfl)) (fun _ h9 => h9) rfl (tyX0_ok 11 (by decide)) rfl rfl (Nat.le_of_ble_eq_true rfl) (336+24*a.toNatClampNeg+9) (own_b hi_63 (by decide) (by decide)) (setB_11 hi_63) dX6_predict_65 (fun u9 H locs eu9 hP hS => ?_)
    obtain ⟨σ65, e_σ65⟩ : ∃ z, z = va_up σ52 1 (va_up (σ52 1) (336+24*a.toNatClampNeg+9) b) := ⟨_, rfl⟩
    rw [eu9, ← e_σ65] at hP
    have hF := bnd_s e_σ65 hF
    have hO := okS_up e_σ65 hO (by decide) (by omega) (by omega)
    refine lv_iconst (v := 0) hx hb dX6_predict_68 (by decide) ?_
    refine lv_istore (lv' := [(5, .int 0), (0, .ref (ad (270))), (1, .int a), (2, .int b), (3, .int c1), (4, .int d)]) hx hb dX6_predict_69 hl (by decide) rfl (fun ls hl => ?_)
    have L71 : ∀ (n71 : Nat) (w5_71 : Int32) (σ_71 : (Nat → Nat → Int32)) (H : Heap) (locs : List Loc) (ls : Array Slot), (c1.toInt - w5_71.toInt).toNat < n71 → okS σ_71 → va_P D vwCl (pool G ad σ_71) H → va_S (AA B0) s.heap H locs → lv_has ls 6 [(5, .int w5_71), (0, .ref (ad (270))), (1, .int a), (3, .int c1), (4, .int d)] → f6_predict_L71 a c1 d n71 w5_71 σ_71 = FF → W p l e (headSpec wsX6_predict { frames := 7, cells := 2, slots := 12, locals := 173 }).room s m ([.ref (ad (270)), .int a, .int b, .int c1, .int d] : List Value).toArray below meth c H locs 2 12 (vx_MQ below (va_Qi (fun (r : Int32) (z : Nat → Nat → Int32) => ((Sum.inl r, z) : RT) = f6_predict σ a b c1 d ∧ okS z) (fun (z : Nat → Nat → Int32) => Ho D G ad z) (AA B0)) (XX D G ad B0 (fun E z => ((Sum.inr E, z) : RT) = f6_predict σ a b c1 d ∧ okS z)) ([.ref (ad (270)), .int a, .int b, .int c1, .int d] : List Value).toArray s 2 12 (AA B0)) (F0 m 71 ls []) := by
      intro n71
      induction n71 with
      | zero => intro w5_71 σ_71 H locs ls hm; exact absurd hm (Nat.not_lt_zero _)
      | succ n71 ih71 =>
        intro w5_71 σ_71 H locs ls hm71 hO hP hS hl hF
        rw [f6_predict_L71] at hF
        refine lv_iload hx hb dX6_predict_71 (lv_at hl 0 rfl) ?_
        refine lv_iload_n hx hb dX6_predict_73 rfl (lv_at hl 3 rfl) ?_
        refine lv_icmp_ge (tgt := 94) hx hb dX6_predict_74 (by decide) (fun c74 => ?_) (fun c74 => ?_)
        · have hF := ift c74 hF
          refine lv_aload_n hx hb dX6_predict_94 rfl (lv_at hl 1 rfl) ?_
          refine va_get (D := D) (ci := 8) (C := RX6) (T := TX6) (N := 9) hx hb hts inX6 hown hK hP (270) g_270 rfl 1 (by decide) (hts (.fieldLink RX6 16 "TileRunners" "trial" "LTileRunners$World;") (List.mem_of_getElem? (i := 1) rfl)) (fun _ h9 => h9) rfl dX6_predict_95 ?_
          refine va_get (D := D) (ci := 7) (C := RX5) (T := TX5) (N := 7) hx hb hts inX5 hown hK hP (18*1+0) (g_o (by decide)) rfl 1 (by decide) (hts (.fieldLink RX6 102 "TileRunners$World" "bodies" "[LTileRunners$Body;") (List.mem_of_getElem? (i := 3) rfl)) (fun _ h9 => h9) rfl dX6_predict_98 ?_
          refine lv_iload_n hx hb dX6_predict_101 rfl (lv_at hl 2 rfl) ?_
          have hi_102 : a.toNatClampNeg < 4 := in_lt (i := a) hi9
          refine pqald (t0 := 2) (i := a) hx hb hK hP (c_bs (by decide)) rfl hi9 dX6_predict_102 ?_
          refine lv_iload hx hb dX6_predict_103 (lv_at hl 4 rfl) ?_
          have hP := f_eta 1 hP
          refine va_calli (va_runV (As := [.int d]) (rest := []) ⟨hx, hb, hml, hown, hts⟩ (c0_number l hA σ_71 (σ_71 1) 1 (by decide) a.toNatClampNeg hi_102 d ) (cwV 1 hts gX6_predict_X0_number rfl rfl rfl hd_X0_numberV ⟨Nat.le_of_ble_eq_true rfl, Nat.le_of_ble_eq_true rfl⟩) ⟨hp_blind, va_recv hK hP (ci := 2) (q0 := 18*1+(6+2*a.toNatClampNeg)) rfl (c_b (by decide) hi_102), hp_pre hK hN hP⟩ rfl rfl hl.1 rfl (lv_room (Nat.le_of_ble_eq_true rfl)) dX6_predict_105 ⟨Nat.le_of_ble_eq_true rfl, Nat.le_of_ble_eq_true rfl⟩) hS (fun _ _ h => h) (fun _ h => h) (fun r105 _ t H locs ht hvm hw9 hB hz1 hk1 hS => ?_)
          have hP := ho_at ht hB
          have eq105 := hw9
          rw [up_eta] at hP
          have hF := bnd_s eq105 hF
          exact vx_ret (W.widen (Nat.le_of_ble_eq_true rfl) (Nat.le_of_ble_eq_true rfl) (W.iret (v := r105) hx hb hr (fun t ht hW => ⟨⟨r105, σ_71, rfl, ⟨hF.trans hFF, hO⟩, ho_of ht hP⟩, hS.F ht⟩) hS.2.2 dX6_predict_108))
        · have hF := iff_ c74 hF
          refine lv_aload_n hx hb dX6_predict_77 rfl (lv_at hl 1 rfl) ?_
          refine va_get (D := D) (ci := 8) (C := RX6) (T := TX6) (N := 9) hx hb hts inX6 hown hK hP (270) g_270 rfl 1 (by decide) (hts (.fieldLink RX6 16 "TileRunners" "trial" "LTileRunners$World;") (List.mem_of_getElem? (i := 1) rfl)) (fun _ h9 => h9) rfl dX6_predict_78 ?_
          refine lv_aload_n hx hb dX6_predict_81 rfl (lv_at hl 1 rfl) ?_
          refine va_get (D := D) (ci := 8) (C := RX6) (T := TX6) (N := 9) hx hb hts inX6 hown hK hP (270) g_270 rfl 3 (by decide) (hts (.fieldLink RX6 31 "TileRunners" "settings" "[I") (List.mem_of_getElem? (i := 5) rfl)) (fun _ h9 => h9) rfl dX6_predict_82 ?_
          have hP := f_eta 1 hP
          refine va_callv (va_runV (As := [.ref (ad (271))]) (rest := []) ⟨hx, hb, hml, hown, hts⟩ (c5_advance l hA σ_71 (σ_71 1) 1 (by decide) (hO.1 1 (by decide))) (cwV 1 hts gX6_predict_X5_advance rfl rfl rfl hd_X5_advanceV ⟨Nat.le_of_ble_eq_true rfl, Nat.le_of_ble_eq_true rfl⟩) ⟨hp_blind, va_recv hK hP (ci := 7) (q0 := 18*1+0) rfl (c_o (by decide)), hp_pre hK hN hP⟩ rfl rfl hl.1 rfl (lv_room (Nat.le_of_ble_eq_true rfl)) dX6_predict_85 ⟨Nat.le_of_ble_eq_true rfl, Nat.le_of_ble_eq_true rfl⟩) hS (fun _ _ h => h) (fun _ h => h) (fun u9 t H locs ht hvm hw9 hB hz1 hk1 hS => ?_)
          have hP := ho_at ht hB
          obtain ⟨eq85, ok9⟩ := hw9
          obtain ⟨σ85, e_σ85⟩ : ∃ z, z = va_up σ_71 1 u9 := ⟨_, rfl⟩
          rw [← e_σ85] at hP
          have hF := bnd_s eq85 hF
          have hF := bnd_s e_σ85 hF
          have hO := okS_row e_σ85 hO (by decide) ok9
          obtain ⟨v5_88, e_v5_88⟩ : ∃ z : Int32, z = w5_71 + 1 := ⟨_, rfl⟩
          have hF := bnd_s e_v5_88 hF
          refine lv_iinc (v := v5_88) (lv' := [(5, .int v5_88), (0, .ref (ad (270))), (1, .int a), (3, .int c1), (4, .int d)]) hx hb dX6_predict_88 hl (k := 0) rfl (by rw [e_v5_88]; rfl) (by decide) rfl (fun ls hl => ?_)
          refine lv_goto (tgt := 71) hx hb dX6_predict_91 (by decide) ?_
          exact ih71 v5_88 σ85 _ _ ls (ms_s (dec_up (nle_lt c74) e_v5_88) hm71) hO hP hS (lv_sub hl [0, 1, 2, 3, 4] rfl) hF
    exact L71 BIG 0 σ65 _ _ ls (big_up _ _) hO hP hS (lv_sub hl [0, 1, 2, 4, 5] rfl) hF
  have J40 : ∀  (H : Heap) (locs : List Loc) (ls : Array Slot), va_P D vwCl (pool G ad σ2) H → va_S (AA B0) s.heap H locs → lv_has ls 6 [(0, .ref (ad (270))), (1, .int a), (2, .int b), (3, .int c1), (4, .int d)] → f6_predict_b40 a b c1 d σ2  = FF → W p l e (headSpec wsX6_predict { frames := 7, cells := 2, slots := 12, locals := 173 }).room s m ([.ref (ad (270)), .int a, .int b, .int c1, .int d] : List Value).toArray below meth c H locs 1 6 (vx_MQ below (va_Qi (fun (r : Int32) (z : Nat → Nat → Int32) => ((Sum.inl r, z) : RT) = f6_predict σ a b c1 d ∧ okS z) (fun (z : Nat → Nat → Int32) => Ho D G ad z) (AA B0)) (XX D G ad B0 (fun E z => ((Sum.inr E, z) : RT) = f6_predict σ a b c1 d ∧ okS z)) ([.ref (ad (270)), .int a, .int b, .int c1, .int d] : List Value).toArray s 2 12 (AA B0)) (F0 m 40 ls []) := by
    intro  H locs ls hP hS hl hF
    rw [f6_predict_b40] at hF
    refine lv_iconst (v := 0) hx hb dX6_predict_40 (by decide) ?_
    exact J41 0 _ _ ls bl0 hP hS (lv_sub hl [0, 1, 2, 3, 4] rfl) hF
  refine lv_if_eq (tgt := 40) hx hb dX6_predict_12 (by decide) (fun c12 => ?_) (fun c12 => ?_)
  · have hF := ift c12 hF
    exact J40  _ _ ls hP hS (lv_sub hl [0, 1, 2, 3, 4] rfl) hF
  · have hF := iff_ c12 hF
    refine lv_iload_n hx hb dX6_predict_15 rfl (lv_at hl 3 rfl) ?_
    refine lv_iconst (v := 1) hx hb dX6_predict_16 (by decide) ?_
    refine lv_bipush (v := 40) hx hb dX6_predict_17 (by decide) ?_
    refine va_calli (va_runS (As := [.int c1, .int 1, .int 40]) (rest := []) ⟨hx, hb, hml, hown, hts⟩ (c6_isWithin l hA σ2 c1 1 40 ) (va_cwS 3 hts gX6_predict_X6_isWithin rfl rfl rfl hd_X6_isWithinS ⟨Nat.le_of_ble_eq_true rfl, Nat.le_of_ble_eq_true rfl⟩) ⟨hp_blind, hp_pre hK hN hP⟩ rfl rfl hl.1 rfl (lv_room (Nat.le_of_ble_eq_true rfl)) dX6_predict_19 ⟨Nat.le_of_ble_eq_true rfl, Nat.le_of_ble_eq_true rfl⟩) hS (fun _ _ h => h) (fun _ h => h) (fun r19 _ t H locs ht hvm hw9 hB hz1 hk1 hS => ?_)
    have hP := ho_at ht hB
    obtain ⟨eq19, hb_r19⟩ := hw9
    have hF := bnd_s eq19 hF
    refine lv_if_eq (tgt := 40) hx hb dX6_predict_22 (by decide) (fun c22 => ?_) (fun c22 => ?_)
    · have hF := ift c22 hF
      exact J40  _ _ ls hP hS (lv_sub hl [0, 1, 2, 3, 4] rfl) hF
    · have hF := iff_ c22 hF
      refine lv_iload hx hb dX6_predict_25 (lv_at hl 4 rfl) ?_
      refine lv_iconst (v := 0) hx hb dX6_predict_27 (by decide) ?_
      refine lv_bipush (v := 6) hx hb dX6_predict_28 (by decide) ?_
      refine va_calli (va_runS (As := [.int d, .int 0, .int 6]) (rest := []) ⟨hx, hb, hml, hown, hts⟩ (c6_isWithin l hA σ2 d 0 6 ) (va_cwS 3 hts gX6_predict_X6_isWithin rfl rfl rfl hd_X6_isWithinS ⟨Nat.le_of_ble_eq_true rfl, Nat.le_of_ble_eq_true rfl⟩) ⟨hp_blind, hp_pre hK hN hP⟩ rfl rfl hl.1 rfl (lv_room (Nat.le_of_ble_eq_true rfl)) dX6_predict_30 ⟨Nat.le_of_ble_eq_true rfl, Nat.le_of_ble_eq_true rfl⟩) hS (fun _ _ h => h) (fun _ h => h) (fun r30 _ t H locs ht hvm hw9 hB hz1 hk1 hS => ?_)
      have hP := ho_at ht hB
      obtain ⟨eq30, hb_r30⟩ := hw9
      have hF := bnd_s eq30 hF
      refine lv_if_eq (tgt := 40) hx hb dX6_predict_33 (by decide) (fun c33 => ?_) (fun c33 => ?_)
      · have hF := ift c33 hF
        exact J40  _ _ ls hP hS (lv_sub hl [0, 1, 2, 3, 4] rfl) hF
      · have hF := iff_ c33 hF
        refine lv_iconst (v := 1) hx hb dX6_predict_36 (by decide) ?_
        refine lv_goto (tgt := 41) hx hb dX6_predict_37 (by decide) ?_
        exact J41 1 _ _ ls bl1 hP hS (lv_sub hl [0, 1, 2, 3, 4] rfl) hF
theorem hd_X6_predictV : yX6_predict.cls = RX6 ∧ yX6_predict.cls ≠ "java/lang/invoke/MethodHandle" ∧ yX6_predict.cls ≠ "java/lang/invoke/VarHandle" ∧ (parseMethodDescriptor yX6_predict.desc).map (fun d => d.parameters.length) = some 4 := by decide +kernel
set_option maxHeartbeats 4000000 in
set_option maxRecDepth 100000 in
theorem c6_apex (l : Launch) (hl0 : l.stackTraces = false) {D : va_G} {G : CY} {ad : Nat → Nat} {B0 : Nat} (hA : adOK B0 ad) (σ : Nat → Nat → Int32) (a : Int32) (b : Int32) (c1 : Int32) (hO : okS σ) : vx_Met l yX6_apex wsX6_apex { frames := 7, cells := 2, slots := 12, locals := 173 } (va_Pc [.ref (ad (270)), .int a, .int b, .int c1] (Hx XEs D G ad B0 σ)) (va_Qi (fun (r : Int32) (z : Nat → Nat → Int32) => ((Sum.inl r, z) : RT) = f6_apex σ a b c1 ∧ okS z) (fun (z : Nat → Nat → Int32) => Ho D G ad z) (AA B0)) (XX D G ad B0 (fun E z => ((Sum.inr E, z) : RT) = f6_apex σ a b c1 ∧ okS z)) 2 12 (AA B0) := by
  refine vx_ofW (cc := cX6_apex) (maxL := 7) (ret := (some .int)) (by decide) rfl ?_
  intro p e s m args below meth c s₁ B hml htab hv
  obtain ⟨rfl, ⟨hP, hK, hN⟩, hT, hL, adK, adV, hG, hR⟩ := hv
  have hx := B.exec
  have hb := B.bytes
  have hr := B.returns
  have hts := atoms_spec (ws := wsX6_apex) B.pre
  have hown : s.vm.findClass RX6 = some m.cls := findClass_of_methodNamed B.named
  have hlocks := B.notSynchronized
  have inX0 : ∀ w ∈ wsX00, w ∈ wsX6_apex := (fun w h => List.mem_cons_of_mem _ (List.mem_append_left _ (List.mem_append_left _ (List.mem_append_left _ (List.mem_append_left _ (List.mem_append_left _ (List.mem_append_right _ h)))))))
  have inX5 : ∀ w ∈ wsX50, w ∈ wsX6_apex := (fun w h => List.mem_cons_of_mem _ (List.mem_append_left _ (List.mem_append_left _ (List.mem_append_left _ (List.mem_append_left _ (List.mem_append_left _ (List.mem_append_left _ (List.mem_append_right _ h))))))))
  have inX6 : ∀ w ∈ wsX60, w ∈ wsX6_apex := (fun w h => List.mem_cons_of_mem _ (List.mem_append_left _ (List.mem_append_left _ (List.mem_append_left _ (List.mem_append_left _ (List.mem_append_left _ (List.mem_append_left _ (List.mem_append_left _ (List.mem_append_right _ h)))))))))
  have hP : va_P D vwCl (pool G ad σ) s.heap := hP
  have hS : va_S (AA B0) s.heap s.heap [] := va_S.rf
  have hl := lv_entry ([.ref (ad (270)), .int a, .int b, .int c1]) (n := 7) (Nat.le_of_ble_eq_true rfl)
  rw [lg_entry_eq]
  generalize (lg_sl ([.ref (ad (270)), .int a, .int b, .int c1]) ++ List.replicate (7 - (lg_sl ([.ref (ad (270)), .int a, .int b, .int c1])).length) Slot.unset).toArray = ls at hl ⊢
  have hl : lv_has ls 7 [(0, .ref (ad (270))), (1, .int a), (2, .int b), (3, .int c1)] := hl
  obtain ⟨FF, hFF⟩ : ∃ z, z = f6_apex σ a b c1 := ⟨_, rfl⟩
  have hF := hFF.symm
  rw [f6_apex] at hF
  refine lv_aload_n hx hb dX6_apex_0 rfl (lv_at hl 0 rfl) ?_
  refine lv_iload_n hx hb dX6_apex_1 rfl (lv_at hl 1 rfl) ?_
  refine vx_callv (vx_runV (As := [.int a]) (rest := []) ⟨hx, hb, hml, hown, hts⟩ (c6_requireBody l hl0 hA σ a hO) (cwV 1 hts gX6_apex_X6_requireBody rfl rfl rfl hd_X6_requireBodyV ⟨Nat.le_of_ble_eq_true rfl, Nat.le_of_ble_eq_true rfl⟩) ⟨hx_blind, va_recv hK hP (ci := 8) (q0 := 270) rfl g_270, hx_pre hK hN hT hL hG hR hS hP⟩ rfl rfl hl.1 rfl (lv_room (Nat.le_of_ble_eq_true rfl)) dX6_apex_2 ⟨Nat.le_of_ble_eq_true rfl, Nat.le_of_ble_eq_true rfl⟩) hS (fun _ _ h => h) (fun _ h => h) (fun _ _ h => h) (fun E9 ce9 q9 z9 t9 H9 locs9 ht9 hvm9 hw9 hB9 hz9 hk9 hS9 hce9 hcv9 hcl9 => ?_) (fun u9 t H locs ht hvm hw9 hB hz1 hk1 hS => ?_)
  · obtain ⟨eqx, okx⟩ := hw9
    obtain ⟨rfl, hBx⟩ := hB9
    have hF := bndx_x eqx hF
    exact vx_out (fun x hx => (htab x hx).elim) hlocks hce9 hcv9 hcl9 (fun t8 h8 _ => ⟨z9, ⟨hF.trans hFF, okx⟩, ⟨rfl, ho_of h8 (ho_at ht9 hBx)⟩, hS9.F h8⟩) hS9.2.2 (Nat.le_of_ble_eq_true rfl) (Nat.le_of_ble_eq_true rfl)
  have hP := ho_at ht hB
  obtain ⟨eq2, ok9⟩ := hw9
  obtain ⟨σ2, e_σ2⟩ : ∃ z, z = u9 := ⟨_, rfl⟩
  rw [← e_σ2] at hP eq2 ok9
  have hO := ok9
  have hF := bndx_s eq2 hF
  have hi9 : vp_in a 4 := in_body hO eq2
  refine lv_iload_n hx hb dX6_apex_5 rfl (lv_at hl 2 rfl) ?_
  refine lv_iconst (v := 0) hx hb dX6_apex_6 (by decide) ?_
  refine lv_bipush (v := 15) hx hb dX6_apex_7 (by decide) ?_
  refine va_calli (va_runS (As := [.int b, .int 0, .int 15]) (rest := []) ⟨hx, hb, hml, hown, hts⟩ (c6_isWithin l hA σ2 b 0 15 ) (va_cwS 3 hts gX6_apex_X6_isWithin rfl rfl rfl hd_X6_isWithinS ⟨Nat.le_of_ble_eq_true rfl, Nat.le_of_ble_eq_true rfl⟩) ⟨hp_blind, hp_pre hK hN hP⟩ rfl rfl hl.1 rfl (lv_room (Nat.le_of_ble_eq_true rfl)) dX6_apex_9 ⟨Nat.le_of_ble_eq_true rfl, Nat.le_of_ble_eq_true rfl⟩) hS (fun _ _ h => h) (fun _ h => h) (fun r9 _ t H locs ht hvm hw9 hB hz1 hk1 hS => ?_)
  have hP := ho_at ht hB
  obtain ⟨eq9, hb_r9⟩ := hw9
  have hF := bnd_s eq9 hF
  have J30 : ∀ (t0_30 : Int32) (H : Heap) (locs : List Loc) (ls : Array Slot), bl t0_30 → va_P D vwCl (pool G ad σ2) H → va_S (AA B0) s.heap H locs → lv_has ls 7 [(0, .ref (ad (270))), (1, .int a), (2, .int b), (3, .int c1)] → f6_apex_b30 a b c1 σ2 t0_30 = FF → W p l e (headSpec wsX6_apex { frames := 7, cells := 2, slots := 12, locals := 173 }).room s m ([.ref (ad (270)), .int a, .int b, .int c1] : List Value).toArray below meth c H locs 1 6 (vx_MQ below (va_Qi (fun (r : Int32) (z : Nat → Nat → Int32) => ((Sum.inl r, z) : RT) = f6_apex σ a b c1 ∧ okS z) (fun (z : Nat → Nat → Int32) => Ho D G ad z) (AA B0)) (XX D G ad B0 (fun E z => ((Sum.inr E, z) : RT) = f6_apex σ a b c1 ∧ okS z)) ([.ref (ad (270)), .int a, .int b, .int c1] : List Value).toArray s 2 12 (AA B0)) (F0 m 30 ls [.int t0_30]) := by
    intro t0_30 H locs ls hb_t0_30 hP hS hl hF
    rw [f6_apex_b30] at hF
    refine vx_callv (vx_runS (As := [.int t0_30]) (rest := []) ⟨hx, hb, hml, hown, hts⟩ (c6_require l hl0 hA σ2 t0_30 hO hb_t0_30) (va_cwS 1 hts gX6_apex_X6_require rfl rfl rfl hd_X6_requireS ⟨Nat.le_of_ble_eq_true rfl, Nat.le_of_ble_eq_true rfl⟩) ⟨hx_blind, hx_pre hK hN hT hL hG hR hS hP⟩ rfl rfl hl.1 rfl (lv_room (Nat.le_of_ble_eq_true rfl)) dX6_apex_30 ⟨Nat.le_of_ble_eq_true rfl, Nat.le_of_ble_eq_true rfl⟩) hS (fun _ _ h => h) (fun _ h => h) (fun _ _ h => h) (fun E9 ce9 q9 z9 t9 H9 locs9 ht9 hvm9 hw9 hB9 hz9 hk9 hS9 hce9 hcv9 hcl9 => ?_) (fun u9 t H locs ht hvm hw9 hB hz1 hk1 hS => ?_)
    · obtain ⟨eqx, okx⟩ := hw9
      obtain ⟨rfl, hBx⟩ := hB9
      have hF := bndx_x eqx hF
      exact vx_out (fun x hx => (htab x hx).elim) hlocks hce9 hcv9 hcl9 (fun t8 h8 _ => ⟨z9, ⟨hF.trans hFF, okx⟩, ⟨rfl, ho_of h8 (ho_at ht9 hBx)⟩, hS9.F h8⟩) hS9.2.2 (Nat.le_of_ble_eq_true rfl) (Nat.le_of_ble_eq_true rfl)
    have hP := ho_at ht hB
    obtain ⟨eq30, ok9⟩ := hw9
    obtain ⟨σ30, e_σ30⟩ : ∃ z, z = u9 := ⟨_, rfl⟩
    rw [← e_σ30] at hP eq30 ok9
    have hO := ok9
    have hF := bndx_s eq30 hF
    refine lv_aload_n hx hb dX6_apex_33 rfl (lv_at hl 0 rfl) ?_
    refine va_get (D := D) (ci := 8) (C := RX6) (T := TX6) (N := 9) hx hb hts inX6 hown hK hP (270) g_270 rfl 1 (by decide) (hts (.fieldLink RX6 16 "TileRunners" "trial" "LTileRunners$World;") (List.mem_of_getElem? (i := 1) rfl)) (fun _ h9 => h9) rfl dX6_apex_34 ?_
    refine lv_aload_n hx hb dX6_apex_37 rfl (lv_at hl 0 rfl) ?_
    refine va_get (D := D) (ci := 8) (C := RX6) (T := TX6) (N := 9) hx hb hts inX6 hown hK hP (270) g_270 rfl 0 (by decide) (hts (.fieldLink RX6 12 "TileRunners" "world" "LTileRunners$World;") (List.mem_of_getElem? (i := 2) rfl)) (fun _ h9 => h9) rfl dX6_apex_38 ?_
    refine va_callv (va_runV (As := [.ref (ad (18*0+0))]) (rest := []) ⟨hx, hb, hml, hown, hts⟩ (c5_copyFrom l hA σ30 1 (by decide) 0 (by decide) hO) (cwV 1 hts gX6_apex_X5_copyFrom rfl rfl rfl hd_X5_copyFromV ⟨Nat.le_of_ble_eq_true rfl, Nat.le_of_ble_eq_true rfl⟩) ⟨hp_blind, va_recv hK hP (ci := 7) (q0 := 18*1+0) rfl (g_o (by decide)), hp_pre hK hN hP⟩ rfl rfl hl.1 rfl (lv_room (Nat.le_of_ble_eq_true rfl)) dX6_apex_41 ⟨Nat.le_of_ble_eq_true rfl, Nat.le_of_ble_eq_true rfl⟩) hS (fun _ _ h => h) (fun _ h => h) (fun u9 t H locs ht hvm hw9 hB hz1 hk1 hS => ?_)
    have hP := ho_at ht hB
    obtain ⟨eq41, ok9⟩ := hw9
    obtain ⟨σ41, e_σ41⟩ : ∃ z, z = u9 := ⟨_, rfl⟩
    rw [← e_σ41] at hP eq41 ok9
    have hO := ok9
    have hF := bnd_s eq41 hF
    refine lv_aload_n hx hb dX6_apex_44 rfl (lv_at hl 0 rfl) ?_
    refine va_get (D := D) (ci := 8) (C := RX6) (T := TX6) (N := 9) hx hb hts inX6 hown hK hP (270) g_270 rfl 1 (by decide) (hts (.fieldLink RX6 16 "TileRunners" "trial" "LTileRunners$World;") (List.mem_of_getElem? (i := 1) rfl)) (fun _ h9 => h9) rfl dX6_apex_45 ?_
    refine va_get (D := D) (ci := 7) (C := RX5) (T := TX5) (N := 7) hx hb hts inX5 hown hK hP (18*1+0) (g_o (by decide)) rfl 1 (by decide) (hts (.fieldLink RX6 102 "TileRunners$World" "bodies" "[LTileRunners$Body;") (List.mem_of_getElem? (i := 3) rfl)) (fun _ h9 => h9) rfl dX6_apex_48 ?_
    refine lv_iload_n hx hb dX6_apex_51 rfl (lv_at hl 1 rfl) ?_
    have hi_52 : a.toNatClampNeg < 4 := in_lt (i := a) hi9
    refine pqald (t0 := 2) (i := a) hx hb hK hP (c_bs (by decide)) rfl hi9 dX6_apex_52 ?_
    refine lv_astore (lv' := [(4, .ref (ad (18*1+(6+2*a.toNatClampNeg)))), (0, .ref (ad (270))), (1, .int a), (2, .int b), (3, .int c1)]) hx hb dX6_apex_53 hl (by decide) rfl (fun ls hl => ?_)
    refine lv_aload hx hb dX6_apex_55 (lv_at hl 0 rfl) ?_
    refine lv_iload_n hx hb dX6_apex_57 rfl (lv_at hl 3 rfl) ?_
    have hP := f_eta 1 hP
    refine pput hx hb hts inX0 tyX0 tyX0_ok nmX0 hown hK hP hA hS (by decide) (j := 6+2*a.toNatClampNeg) (by omega) (wcel_b hi_52) rfl 11 (by decide) (hts (.fieldLink RX6 132 "TileRunners$Body" "input" "I") (List.mem_of_getElem? (i := 4) rfl)) (fun _ h9 => h9) rfl (tyX0_ok 11 (by decide)) rfl rfl (Nat.le_of_ble_eq_true rfl) (336+24*a.toNatClampNeg+9) (own_b hi_52 (by decide) (by decide)) (setB_11 hi_52) dX6_apex_58 (fun u9 H locs eu9 hP hS => ?_)
    obtain ⟨σ58, e_σ58⟩ : ∃ z, z = va_up σ41 1 (va_up (σ41 1) (336+24*a.toNatClampNeg+9) b) := ⟨_, rfl⟩
    rw [eu9, ← e_σ58] at hP
    have hF := bnd_s e_σ58 hF
    have hO := okS_up e_σ58 hO (by decide) (by omega) (by omega)
    refine lv_aload hx hb dX6_apex_61 (lv_at hl 0 rfl) ?_
    refine va_get (D := D) (ci := 2) (C := RX0) (T := TX0) (N := 16) hx hb hts inX0 hown hK hP (18*1+(6+2*a.toNatClampNeg)) (g_b (by decide) hi_52) rfl 1 (by decide) (hts (.fieldLink RX6 209 "TileRunners$Body" "y" "I") (List.mem_of_getElem? (i := 5) rfl)) (fun _ h9 => h9) rfl dX6_apex_63 ?_
    refine lv_topi (fun v5_66 e_v5_66 => ?_)
    have hF := bnd_s e_v5_66 hF
    refine lv_istore (lv' := [(5, .int v5_66), (4, .ref (ad (18*1+(6+2*a.toNatClampNeg)))), (0, .ref (ad (270))), (1, .int a), (2, .int b), (3, .int c1)]) hx hb dX6_apex_66 hl (by decide) rfl (fun ls hl => ?_)
    refine lv_iconst (v := 0) hx hb dX6_apex_68 (by decide) ?_
    refine lv_istore (lv' := [(6, .int 0), (5, .int v5_66), (4, .ref (ad (18*1+(6+2*a.toNatClampNeg)))), (0, .ref (ad (270))), (1, .int a), (2, .int b), (3, .int c1)]) hx hb dX6_apex_69 hl (by decide) rfl (fun ls hl => ?_)
    have L71 : ∀ (n71 : Nat) (w6_71 : Int32) (w5_71 : Int32) (σ_71 : (Nat → Nat → Int32)) (H : Heap) (locs : List Loc) (ls : Array Slot), (c1.toInt - w6_71.toInt).toNat < n71 → okS σ_71 → va_P D vwCl (pool G ad σ_71) H → va_S (AA B0) s.heap H locs → lv_has ls 7 [(6, .int w6_71), (5, .int w5_71), (4, .ref (ad (18*1+(6+2*a.toNatClampNeg)))), (0, .ref (ad (270))), (3, .int c1)] → f6_apex_L71 a c1 n71 w6_71 w5_71 σ_71 = FF → W p l e (headSpec wsX6_apex { frames := 7, cells := 2, slots := 12, locals := 173 }).room s m ([.ref (ad (270)), .int a, .int b, .int c1] : List Value).toArray below meth c H locs 2 12 (vx_MQ below (va_Qi (fun (r : Int32) (z : Nat → Nat → Int32) => ((Sum.inl r, z) : RT) = f6_apex σ a b c1 ∧ okS z) (fun (z : Nat → Nat → Int32) => Ho D G ad z) (AA B0)) (XX D G ad B0 (fun E z => ((Sum.inr E, z) : RT) = f6_apex σ a b c1 ∧ okS z)) ([.ref (ad (270)), .int a, .int b, .int c1] : List Value).toArray s 2 12 (AA B0)) (F0 m 71 ls []) := by
      intro n71
      induction n71 with
      | zero => intro w6_71 w5_71 σ_71 H locs ls hm; exact absurd hm (Nat.not_lt_zero _)
      | succ n71 ih71 =>
        intro w6_71 w5_71 σ_71 H locs ls hm71 hO hP hS hl hF
        rw [f6_apex_L71] at hF
        refine lv_iload hx hb dX6_apex_71 (lv_at hl 0 rfl) ?_
        refine lv_iload_n hx hb dX6_apex_73 rfl (lv_at hl 4 rfl) ?_
        refine lv_icmp_ge (tgt := 106) hx hb dX6_apex_74 (by decide) (fun c74 => ?_) (fun c74 => ?_)
        · have hF := ift c74 hF
          refine lv_iload hx hb dX6_apex_106 (lv_at hl 1 rfl) ?_
          exact vx_ret (W.widen (Nat.le_of_ble_eq_true rfl) (Nat.le_of_ble_eq_true rfl) (W.iret (v := w5_71) hx hb hr (fun t ht hW => ⟨⟨w5_71, σ_71, rfl, ⟨hF.trans hFF, hO⟩, ho_of ht hP⟩, hS.F ht⟩) hS.2.2 dX6_apex_108))
        · have hF := iff_ c74 hF
          refine lv_aload_n hx hb dX6_apex_77 rfl (lv_at hl 3 rfl) ?_
          refine va_get (D := D) (ci := 8) (C := RX6) (T := TX6) (N := 9) hx hb hts inX6 hown hK hP (270) g_270 rfl 1 (by decide) (hts (.fieldLink RX6 16 "TileRunners" "trial" "LTileRunners$World;") (List.mem_of_getElem? (i := 1) rfl)) (fun _ h9 => h9) rfl dX6_apex_78 ?_
          refine lv_aload_n hx hb dX6_apex_81 rfl (lv_at hl 3 rfl) ?_
          refine va_get (D := D) (ci := 8) (C := RX6) (T := TX6) (N := 9) hx hb hts inX6 hown hK hP (270) g_270 rfl 3 (by decide) (hts (.fieldLink RX6 31 "TileRunners" "settings" "[I") (List.mem_of_getElem? (i := 6) rfl)) (fun _ h9 => h9) rfl dX6_apex_82 ?_
          have hP := f_eta 1 hP
          refine va_callv (va_runV (As := [.ref (ad (271))]) (rest := []) ⟨hx, hb, hml, hown, hts⟩ (c5_advance l hA σ_71 (σ_71 1) 1 (by decide) (hO.1 1 (by decide))) (cwV 1 hts gX6_apex_X5_advance rfl rfl rfl hd_X5_advanceV ⟨Nat.le_of_ble_eq_true rfl, Nat.le_of_ble_eq_true rfl⟩) ⟨hp_blind, va_recv hK hP (ci := 7) (q0 := 18*1+0) rfl (c_o (by decide)), hp_pre hK hN hP⟩ rfl rfl hl.1 rfl (lv_room (Nat.le_of_ble_eq_true rfl)) dX6_apex_85 ⟨Nat.le_of_ble_eq_true rfl, Nat.le_of_ble_eq_true rfl⟩) hS (fun _ _ h => h) (fun _ h => h) (fun u9 t H locs ht hvm hw9 hB hz1 hk1 hS => ?_)
          have hP := ho_at ht hB
          obtain ⟨eq85, ok9⟩ := hw9
          obtain ⟨σ85, e_σ85⟩ : ∃ z, z = va_up σ_71 1 u9 := ⟨_, rfl⟩
          rw [← e_σ85] at hP
          have hF := bnd_s eq85 hF
          have hF := bnd_s e_σ85 hF
          have hO := okS_row e_σ85 hO (by decide) ok9
          refine lv_iload hx hb dX6_apex_88 (lv_at hl 1 rfl) ?_
          refine lv_aload hx hb dX6_apex_90 (lv_at hl 2 rfl) ?_
          refine va_get (D := D) (ci := 2) (C := RX0) (T := TX0) (N := 16) hx hb hts inX0 hown hK hP (18*1+(6+2*a.toNatClampNeg)) (g_b (by decide) hi_52) rfl 1 (by decide) (hts (.fieldLink RX6 209 "TileRunners$Body" "y" "I") (List.mem_of_getElem? (i := 5) rfl)) (fun _ h9 => h9) rfl dX6_apex_92 ?_
          refine va_mmax hx hb (hml.trans hl.1.symm) hown (hts _ (List.mem_of_getElem? (i := 7) rfl)) (hts _ (List.mem_of_getElem? (i := 8) rfl)) (hts _ (List.mem_of_getElem? (i := 9) rfl)) (hts _ (List.mem_of_getElem? (i := 10) rfl)) (Nat.le_of_ble_eq_true rfl) (Nat.le_of_ble_eq_true rfl) (Nat.le_of_ble_eq_true rfl) (Nat.le_of_ble_eq_true rfl) dX6_apex_95 ?_
          refine lv_topi (fun v5_98 e_v5_98 => ?_)
          have hF := bnd_s e_v5_98 hF
          refine lv_istore (lv' := [(5, .int v5_98), (6, .int w6_71), (4, .ref (ad (18*1+(6+2*a.toNatClampNeg)))), (0, .ref (ad (270))), (3, .int c1)]) hx hb dX6_apex_98 hl (by decide) rfl (fun ls hl => ?_)
          obtain ⟨v6_100, e_v6_100⟩ : ∃ z : Int32, z = w6_71 + 1 := ⟨_, rfl⟩
          have hF := bnd_s e_v6_100 hF
          refine lv_iinc (v := v6_100) (lv' := [(6, .int v6_100), (5, .int v5_98), (4, .ref (ad (18*1+(6+2*a.toNatClampNeg)))), (0, .ref (ad (270))), (3, .int c1)]) hx hb dX6_apex_100 hl (k := 1) rfl (by rw [e_v6_100]; rfl) (by decide) rfl (fun ls hl => ?_)
          refine lv_goto (tgt := 71) hx hb dX6_apex_103 (by decide) ?_
          exact ih71 v6_100 v5_98 σ85 _ _ ls (ms_s (dec_up (nle_lt c74) e_v6_100) hm71) hO hP hS (lv_sub hl [0, 1, 2, 3, 4] rfl) hF
    exact L71 BIG 0 v5_66 σ58 _ _ ls (big_up _ _) hO hP hS (lv_sub hl [0, 1, 2, 3, 6] rfl) hF
  have J29 : ∀  (H : Heap) (locs : List Loc) (ls : Array Slot), va_P D vwCl (pool G ad σ2) H → va_S (AA B0) s.heap H locs → lv_has ls 7 [(0, .ref (ad (270))), (1, .int a), (2, .int b), (3, .int c1)] → f6_apex_b29 a b c1 σ2  = FF → W p l e (headSpec wsX6_apex { frames := 7, cells := 2, slots := 12, locals := 173 }).room s m ([.ref (ad (270)), .int a, .int b, .int c1] : List Value).toArray below meth c H locs 1 6 (vx_MQ below (va_Qi (fun (r : Int32) (z : Nat → Nat → Int32) => ((Sum.inl r, z) : RT) = f6_apex σ a b c1 ∧ okS z) (fun (z : Nat → Nat → Int32) => Ho D G ad z) (AA B0)) (XX D G ad B0 (fun E z => ((Sum.inr E, z) : RT) = f6_apex σ a b c1 ∧ okS z)) ([.ref (ad (270)), .int a, .int b, .int c1] : List Value).toArray s 2 12 (AA B0)) (F0 m 29 ls []) := by
    intro  H locs ls hP hS hl hF
    rw [f6_apex_b29] at hF
    refine lv_iconst (v := 0) hx hb dX6_apex_29 (by decide) ?_
    exact J30 0 _ _ ls bl0 hP hS (lv_sub hl [0, 1, 2, 3] rfl) hF
  refine lv_if_eq (tgt := 29) hx hb dX6_apex_12 (by decide) (fun c12 => ?_) (fun c12 => ?_)
  · have hF := ift c12 hF
    exact J29  _ _ ls hP hS (lv_sub hl [0, 1, 2, 3] rfl) hF
  · have hF := iff_ c12 hF
    refine lv_iload_n hx hb dX6_apex_15 rfl (lv_at hl 3 rfl) ?_
    refine lv_iconst (v := 1) hx hb dX6_apex_16 (by decide) ?_
    refine lv_bipush (v := 40) hx hb dX6_apex_17 (by decide) ?_
    refine va_calli (va_runS (As := [.int c1, .int 1, .int 40]) (rest := []) ⟨hx, hb, hml, hown, hts⟩ (c6_isWithin l hA σ2 c1 1 40 ) (va_cwS 3 hts gX6_apex_X6_isWithin rfl rfl rfl hd_X6_isWithinS ⟨Nat.le_of_ble_eq_true rfl, Nat.le_of_ble_eq_true rfl⟩) ⟨hp_blind, hp_pre hK hN hP⟩ rfl rfl hl.1 rfl (lv_room (Nat.le_of_ble_eq_true rfl)) dX6_apex_19 ⟨Nat.le_of_ble_eq_true rfl, Nat.le_of_ble_eq_true rfl⟩) hS (fun _ _ h => h) (fun _ h => h) (fun r19 _ t H locs ht hvm hw9 hB hz1 hk1 hS => ?_)
    have hP := ho_at ht hB
    obtain ⟨eq19, hb_r19⟩ := hw9
    have hF := bnd_s eq19 hF
    refine lv_if_eq (tgt := 29) hx hb dX6_apex_22 (by decide) (fun c22 => ?_) (fun c22 => ?_)
    · have hF := ift c22 hF
      exact J29  _ _ ls hP hS (lv_sub hl [0, 1, 2, 3] rfl) hF
    · have hF := iff_ c22 hF
      refine lv_iconst (v := 1) hx hb dX6_apex_25 (by decide) ?_
      refine lv_goto (tgt := 30) hx hb dX6_apex_26 (by decide) ?_
      exact J30 1 _ _ ls bl1 hP hS (lv_sub hl [0, 1, 2, 3] rfl) hF
theorem hd_X6_apexV : yX6_apex.cls = RX6 ∧ yX6_apex.cls ≠ "java/lang/invoke/MethodHandle" ∧ yX6_apex.cls ≠ "java/lang/invoke/VarHandle" ∧ (parseMethodDescriptor yX6_apex.desc).map (fun d => d.parameters.length) = some 3 := by decide +kernel
set_option maxHeartbeats 4000000 in
set_option maxRecDepth 100000 in
theorem c6_save (l : Launch) {D : va_G} {G : CY} {ad : Nat → Nat} {B0 : Nat} (hA : adOK B0 ad) (σ : Nat → Nat → Int32)  (hO : okS σ) : Met l yX6_save wsX6_save { frames := 3, cells := 0, slots := 0, locals := 103 } (va_Pc [.ref (ad (270))] (Hp D G ad σ)) (va_Qv (fun (z : Nat → Nat → Int32) => z = f6_save σ ∧ okS z) (fun (z : Nat → Nat → Int32) => Ho D G ad z) (AA B0)) 0 0 (AA B0) := by
  refine Met.ofW (cc := cX6_save) (maxL := 1) (ret := none) (by decide) rfl ?_
  intro p e s m args below meth c s₁ B hml hv
  obtain ⟨rfl, hP, hK, hN⟩ := hv
  have hx := B.exec
  have hb := B.bytes
  have hr := B.returns
  have hts := atoms_spec (ws := wsX6_save) B.pre
  have hown : s.vm.findClass RX6 = some m.cls := findClass_of_methodNamed B.named
  have hlocks := B.notSynchronized
  have inX6 : ∀ w ∈ wsX60, w ∈ wsX6_save := (fun w h => List.mem_cons_of_mem _ (List.mem_append_left _ (List.mem_append_left _ (List.mem_append_left _ (List.mem_append_left _ (List.mem_append_right _ h))))))
  have hP : va_P D vwCl (pool G ad σ) s.heap := hP
  have hS : va_S (AA B0) s.heap s.heap [] := va_S.rf
  have hl := lv_entry ([.ref (ad (270))]) (n := 1) (Nat.le_of_ble_eq_true rfl)
  rw [lg_entry_eq]
  generalize (lg_sl ([.ref (ad (270))]) ++ List.replicate (1 - (lg_sl ([.ref (ad (270))])).length) Slot.unset).toArray = ls at hl ⊢
  have hl : lv_has ls 1 [(0, .ref (ad (270)))] := hl
  obtain ⟨FF, hFF⟩ : ∃ z, z = f6_save σ := ⟨_, rfl⟩
  have hF := hFF.symm
  rw [f6_save] at hF
  refine lv_aload_n hx hb dX6_save_0 rfl (lv_at hl 0 rfl) ?_
  refine va_get (D := D) (ci := 8) (C := RX6) (T := TX6) (N := 9) hx hb hts inX6 hown hK hP (270) g_270 rfl 2 (by decide) (hts (.fieldLink RX6 19 "TileRunners" "saved" "LTileRunners$World;") (List.mem_of_getElem? (i := 1) rfl)) (fun _ h9 => h9) rfl dX6_save_1 ?_
  refine lv_aload_n hx hb dX6_save_4 rfl (lv_at hl 0 rfl) ?_
  refine va_get (D := D) (ci := 8) (C := RX6) (T := TX6) (N := 9) hx hb hts inX6 hown hK hP (270) g_270 rfl 0 (by decide) (hts (.fieldLink RX6 12 "TileRunners" "world" "LTileRunners$World;") (List.mem_of_getElem? (i := 2) rfl)) (fun _ h9 => h9) rfl dX6_save_5 ?_
  refine va_callv (va_runV (As := [.ref (ad (18*0+0))]) (rest := []) ⟨hx, hb, hml, hown, hts⟩ (c5_copyFrom l hA σ 2 (by decide) 0 (by decide) hO) (cwV 1 hts gX6_save_X5_copyFrom rfl rfl rfl hd_X5_copyFromV ⟨Nat.le_of_ble_eq_true rfl, Nat.le_of_ble_eq_true rfl⟩) ⟨hp_blind, va_recv hK hP (ci := 7) (q0 := 18*2+0) rfl (g_o (by decide)), hp_pre hK hN hP⟩ rfl rfl hl.1 rfl (lv_room (Nat.le_of_ble_eq_true rfl)) dX6_save_8 ⟨Nat.zero_le _, Nat.zero_le _⟩) hS (fun _ _ h => h) (fun _ h => h) (fun u9 t H locs ht hvm hw9 hB hz1 hk1 hS => ?_)
  have hP := ho_at ht hB
  obtain ⟨eq8, ok9⟩ := hw9
  obtain ⟨σ8, e_σ8⟩ : ∃ z, z = u9 := ⟨_, rfl⟩
  rw [← e_σ8] at hP eq8 ok9
  have hO := ok9
  have hF := bnd_s eq8 hF
  refine lv_aload_n hx hb dX6_save_11 rfl (lv_at hl 0 rfl) ?_
  refine va_get (D := D) (ci := 8) (C := RX6) (T := TX6) (N := 9) hx hb hts inX6 hown hK hP (270) g_270 rfl 3 (by decide) (hts (.fieldLink RX6 31 "TileRunners" "settings" "[I") (List.mem_of_getElem? (i := 3) rfl)) (fun _ h9 => h9) rfl dX6_save_12 ?_
  refine lv_iconst (v := 0) hx hb dX6_save_15 (by decide) ?_
  refine lv_aload_n hx hb dX6_save_16 rfl (lv_at hl 0 rfl) ?_
  refine va_get (D := D) (ci := 8) (C := RX6) (T := TX6) (N := 9) hx hb hts inX6 hown hK hP (270) g_270 rfl 4 (by decide) (hts (.fieldLink RX6 34 "TileRunners" "savedSettings" "[I") (List.mem_of_getElem? (i := 4) rfl)) (fun _ h9 => h9) rfl dX6_save_17 ?_
  refine lv_iconst (v := 0) hx hb dX6_save_20 (by decide) ?_
  refine lv_iconst (v := 4) hx hb dX6_save_21 (by decide) ?_
  refine pcopy15 (n := 4) (o := 14) (o2 := 10) (j := 272) (j2 := 271) hx hb (hml.trans hl.1.symm) hown (hts (.methodLink RX6 288 arraycopyName) (List.mem_of_getElem? (i := 5) rfl)) (hts (.native arraycopyName) (List.mem_of_getElem? (i := 6) rfl)) (hts (.static arraycopyName) (List.mem_of_getElem? (i := 7) rfl)) (hts (.initialized "java/lang/System") (List.mem_of_getElem? (i := 8) rfl)) hK hP hA hS (by decide) (by decide) (by decide) (by decide) (fun _ _ => rfl) (fun _ _ => rfl) (fun k9 hk9 => by unfold own15; repeat first | rw [if_pos (by omega)] | rw [if_neg (by omega)]) rfl (by decide) (Nat.le_of_ble_eq_true rfl) (Nat.le_of_ble_eq_true rfl) dX6_save_22 (fun u9 H locs eu9 hP hS => ?_)
  obtain ⟨σ22, e_σ22⟩ : ∃ z, z = va_up σ8 15 (cpw (σ8 15) 14 10 4 (σ8 15)) := ⟨_, rfl⟩
  rw [eu9, ← e_σ22] at hP
  have hF := bnd_s e_σ22 hF
  have hO := okS_15 e_σ22 hO (okC_cpw hO.2.1 (by decide))
  refine lv_aload_n hx hb dX6_save_25 rfl (lv_at hl 0 rfl) ?_
  refine lv_iconst (v := 1) hx hb dX6_save_26 (by decide) ?_
  have hP := f_eta 15 hP
  refine pput15 hx hb hts inX6 tyX6 tyX6_ok nmX6 hown hK hP hA hS (j := 270) (by decide) (by decide) rfl rfl 7 (by decide) (hts (.fieldLink RX6 51 "TileRunners" "hasSnapshot" "Z") (List.mem_of_getElem? (i := 9) rfl)) (fun _ h9 => h9) rfl (tyX6_ok 7 (by decide)) (bl_nar bl1) (bl_fit bl1) (Nat.le_of_ble_eq_true rfl) (0) (by decide) (setR_7 (bl_nb bl1)) dX6_save_27 (fun u9 H locs eu9 hP hS => ?_)
  obtain ⟨σ27, e_σ27⟩ : ∃ z, z = va_up σ22 15 (va_up (σ22 15) (0) 1) := ⟨_, rfl⟩
  rw [eu9, ← e_σ27] at hP
  have hF := bnd_s e_σ27 hF
  have hO := okS_up15 e_σ27 hO (by omega)
  exact W.vret hx hb hr (fun t ht hW => ⟨⟨σ27, rfl, ⟨hF.trans hFF, hO⟩, ho_of ht hP⟩, hS.F ht⟩) hS.2.2 dX6_save_30
theorem hd_X6_saveV : yX6_save.cls = RX6 ∧ yX6_save.cls ≠ "java/lang/invoke/MethodHandle" ∧ yX6_save.cls ≠ "java/lang/invoke/VarHandle" ∧ (parseMethodDescriptor yX6_save.desc).map (fun d => d.parameters.length) = some 0 := by decide +kernel
set_option maxHeartbeats 4000000 in
set_option maxRecDepth 100000 in
theorem c6_restore (l : Launch) (hl0 : l.stackTraces = false) {D : va_G} {G : CY} {ad : Nat → Nat} {B0 : Nat} (hA : adOK B0 ad) (σ : Nat → Nat → Int32)  (hO : okS σ) : vx_Met l yX6_restore wsX6_restore { frames := 6, cells := 1, slots := 6, locals := 103 } (va_Pc [.ref (ad (270))] (Hx XEs D G ad B0 σ)) (va_Qv (fun (z : Nat → Nat → Int32) => ((Sum.inl 0, z) : RT) = f6_restore σ ∧ okS z) (fun (z : Nat → Nat → Int32) => Ho D G ad z) (AA B0)) (XX D G ad B0 (fun E z => ((Sum.inr E, z) : RT) = f6_restore σ ∧ okS z)) 1 6 (AA B0) := by
  refine vx_ofW (cc := cX6_restore) (maxL := 1) (ret := none) (by decide) rfl ?_
  intro p e s m args below meth c s₁ B hml htab hv
  obtain ⟨rfl, ⟨hP, hK, hN⟩, hT, hL, adK, adV, hG, hR⟩ := hv
  have hx := B.exec
  have hb := B.bytes
  have hr := B.returns
  have hts := atoms_spec (ws := wsX6_restore) B.pre
  have hown : s.vm.findClass RX6 = some m.cls := findClass_of_methodNamed B.named
  have hlocks := B.notSynchronized
  have inX6 : ∀ w ∈ wsX60, w ∈ wsX6_restore := (fun w h => List.mem_cons_of_mem _ (List.mem_append_left _ (List.mem_append_left _ (List.mem_append_left _ (List.mem_append_left _ (List.mem_append_left _ (List.mem_append_left _ (List.mem_append_right _ h))))))))
  have hP : va_P D vwCl (pool G ad σ) s.heap := hP
  have hS : va_S (AA B0) s.heap s.heap [] := va_S.rf
  have hl := lv_entry ([.ref (ad (270))]) (n := 1) (Nat.le_of_ble_eq_true rfl)
  rw [lg_entry_eq]
  generalize (lg_sl ([.ref (ad (270))]) ++ List.replicate (1 - (lg_sl ([.ref (ad (270))])).length) Slot.unset).toArray = ls at hl ⊢
  have hl : lv_has ls 1 [(0, .ref (ad (270)))] := hl
  obtain ⟨FF, hFF⟩ : ∃ z, z = f6_restore σ := ⟨_, rfl⟩
  have hF := hFF.symm
  rw [f6_restore] at hF
  refine lv_aload_n hx hb dX6_restore_0 rfl (lv_at hl 0 rfl) ?_
  refine va_get (D := D) (ci := 8) (C := RX6) (T := TX6) (N := 9) hx hb hts inX6 hown hK hP (270) g_270 rfl 7 (by decide) (hts (.fieldLink RX6 51 "TileRunners" "hasSnapshot" "Z") (List.mem_of_getElem? (i := 3) rfl)) (fun _ h9 => h9) rfl dX6_restore_1 ?_
  refine lv_if_ne (tgt := 18) hx hb dX6_restore_4 (by decide) (fun c4 => ?_) (fun c4 => ?_)
  · have hF := iff_ c4 hF
    refine lv_aload_n hx hb dX6_restore_18 rfl (lv_at hl 0 rfl) ?_
    refine va_get (D := D) (ci := 8) (C := RX6) (T := TX6) (N := 9) hx hb hts inX6 hown hK hP (270) g_270 rfl 0 (by decide) (hts (.fieldLink RX6 12 "TileRunners" "world" "LTileRunners$World;") (List.mem_of_getElem? (i := 4) rfl)) (fun _ h9 => h9) rfl dX6_restore_19 ?_
    refine lv_aload_n hx hb dX6_restore_22 rfl (lv_at hl 0 rfl) ?_
    refine va_get (D := D) (ci := 8) (C := RX6) (T := TX6) (N := 9) hx hb hts inX6 hown hK hP (270) g_270 rfl 2 (by decide) (hts (.fieldLink RX6 19 "TileRunners" "saved" "LTileRunners$World;") (List.mem_of_getElem? (i := 5) rfl)) (fun _ h9 => h9) rfl dX6_restore_23 ?_
    refine va_callv (va_runV (As := [.ref (ad (18*2+0))]) (rest := []) ⟨hx, hb, hml, hown, hts⟩ (c5_copyFrom l hA σ 0 (by decide) 2 (by decide) hO) (cwV 1 hts gX6_restore_X5_copyFrom rfl rfl rfl hd_X5_copyFromV ⟨Nat.le_of_ble_eq_true rfl, Nat.le_of_ble_eq_true rfl⟩) ⟨hp_blind, va_recv hK hP (ci := 7) (q0 := 18*0+0) rfl (g_o (by decide)), hp_pre hK hN hP⟩ rfl rfl hl.1 rfl (lv_room (Nat.le_of_ble_eq_true rfl)) dX6_restore_26 ⟨Nat.le_of_ble_eq_true rfl, Nat.le_of_ble_eq_true rfl⟩) hS (fun _ _ h => h) (fun _ h => h) (fun u9 t H locs ht hvm hw9 hB hz1 hk1 hS => ?_)
    have hP := ho_at ht hB
    obtain ⟨eq26, ok9⟩ := hw9
    obtain ⟨σ26, e_σ26⟩ : ∃ z, z = u9 := ⟨_, rfl⟩
    rw [← e_σ26] at hP eq26 ok9
    have hO := ok9
    have hF := bnd_s eq26 hF
    refine lv_aload_n hx hb dX6_restore_29 rfl (lv_at hl 0 rfl) ?_
    refine va_get (D := D) (ci := 8) (C := RX6) (T := TX6) (N := 9) hx hb hts inX6 hown hK hP (270) g_270 rfl 4 (by decide) (hts (.fieldLink RX6 34 "TileRunners" "savedSettings" "[I") (List.mem_of_getElem? (i := 6) rfl)) (fun _ h9 => h9) rfl dX6_restore_30 ?_
    refine lv_iconst (v := 0) hx hb dX6_restore_33 (by decide) ?_
    refine lv_aload_n hx hb dX6_restore_34 rfl (lv_at hl 0 rfl) ?_
    refine va_get (D := D) (ci := 8) (C := RX6) (T := TX6) (N := 9) hx hb hts inX6 hown hK hP (270) g_270 rfl 3 (by decide) (hts (.fieldLink RX6 31 "TileRunners" "settings" "[I") (List.mem_of_getElem? (i := 7) rfl)) (fun _ h9 => h9) rfl dX6_restore_35 ?_
    refine lv_iconst (v := 0) hx hb dX6_restore_38 (by decide) ?_
    refine lv_iconst (v := 4) hx hb dX6_restore_39 (by decide) ?_
    refine pcopy15 (n := 4) (o := 10) (o2 := 14) (j := 271) (j2 := 272) hx hb (hml.trans hl.1.symm) hown (hts (.methodLink RX6 288 arraycopyName) (List.mem_of_getElem? (i := 8) rfl)) (hts (.native arraycopyName) (List.mem_of_getElem? (i := 9) rfl)) (hts (.static arraycopyName) (List.mem_of_getElem? (i := 10) rfl)) (hts (.initialized "java/lang/System") (List.mem_of_getElem? (i := 11) rfl)) hK hP hA hS (by decide) (by decide) (by decide) (by decide) (fun _ _ => rfl) (fun _ _ => rfl) (fun k9 hk9 => by unfold own15; repeat first | rw [if_pos (by omega)] | rw [if_neg (by omega)]) rfl (by decide) (Nat.le_of_ble_eq_true rfl) (Nat.le_of_ble_eq_true rfl) dX6_restore_40 (fun u9 H locs eu9 hP hS => ?_)
    obtain ⟨σ40, e_σ40⟩ : ∃ z, z = va_up σ26 15 (cpw (σ26 15) 10 14 4 (σ26 15)) := ⟨_, rfl⟩
    rw [eu9, ← e_σ40] at hP
    have hF := bnd_s e_σ40 hF
    have hO := okS_15 e_σ40 hO (okC_cpw hO.2.1 (by decide))
    refine lv_aload_n hx hb dX6_restore_43 rfl (lv_at hl 0 rfl) ?_
    refine va_get (D := D) (ci := 8) (C := RX6) (T := TX6) (N := 9) hx hb hts inX6 hown hK hP (270) g_270 rfl 5 (by decide) (hts (.fieldLink RX6 40 "TileRunners" "history" "LTileRunners$History;") (List.mem_of_getElem? (i := 12) rfl)) (fun _ h9 => h9) rfl dX6_restore_44 ?_
    refine va_callv (va_runV (As := []) (rest := []) ⟨hx, hb, hml, hown, hts⟩ (c1_forget l hA σ40  hO) (cwV 0 hts gX6_restore_X1_forget rfl rfl rfl hd_X1_forgetV ⟨Nat.le_of_ble_eq_true rfl, Nat.le_of_ble_eq_true rfl⟩) ⟨hp_blind, va_recv hK hP (ci := 3) (q0 := 273) rfl g_273, hp_pre hK hN hP⟩ rfl rfl hl.1 rfl (lv_room (Nat.le_of_ble_eq_true rfl)) dX6_restore_47 ⟨Nat.le_of_ble_eq_true rfl, Nat.le_of_ble_eq_true rfl⟩) hS (fun _ _ h => h) (fun _ h => h) (fun u9 t H locs ht hvm hw9 hB hz1 hk1 hS => ?_)
    have hP := ho_at ht hB
    obtain ⟨eq47, ok9⟩ := hw9
    obtain ⟨σ47, e_σ47⟩ : ∃ z, z = u9 := ⟨_, rfl⟩
    rw [← e_σ47] at hP eq47 ok9
    have hO := ok9
    have hF := bnd_s eq47 hF
    exact vx_ret (W.widen (Nat.le_of_ble_eq_true rfl) (Nat.le_of_ble_eq_true rfl) (W.vret hx hb hr (fun t ht hW => ⟨⟨σ47, rfl, ⟨hF.trans hFF, hO⟩, ho_of ht hP⟩, hS.F ht⟩) hS.2.2 dX6_restore_50))
  · have hF := ift c4 hF
    obtain ⟨sa9, hsa9⟩ := hL.1 (294, "there is no snapshot") (by decide)
    exact vx_throwSW (own := RX6) (cls := "java/lang/IllegalStateException") (names := ["java/lang/RuntimeException", "java/lang/Exception"]) (ik := 95) (is := 294) (ic := 99) (text := "there is no snapshot") (sa := sa9) hx hb hl0 hown (by decide) (by decide) (hts (.classLink RX6 95 "java/lang/IllegalStateException") (List.mem_of_getElem? (i := 1) rfl)) (hts (.initialized "java/lang/IllegalStateException") (List.mem_of_getElem? (i := 2) rfl)) hsa9 (hx_hat hL (by decide) (fun w h => hts w ((fun w h => List.mem_cons_of_mem _ (List.mem_append_right _ h)) w h)) xa_101) xg_101 hT.1 hT.2 hS (hl.1.trans hml.symm) dX6_restore_7 dX6_restore_10 dX6_restore_11 dX6_restore_14 dX6_restore_17 (fun x hx => (htab x hx).elim) (Nat.le_of_ble_eq_true rfl) (Nat.le_of_ble_eq_true rfl) (Nat.le_of_ble_eq_true rfl) (Nat.le_of_ble_eq_true rfl) hlocks (fun t9 a9 h1 h2 => ⟨("java/lang/IllegalStateException", σ), ⟨hF.trans hFF, hO⟩, ⟨rfl, (hx_out hP hS h1 h2).1⟩, (hx_out hP hS h1 h2).2⟩) hS.2.2 (Nat.le_of_ble_eq_true rfl) (Nat.le_of_ble_eq_true rfl)
theorem hd_X6_restoreV : yX6_restore.cls = RX6 ∧ yX6_restore.cls ≠ "java/lang/invoke/MethodHandle" ∧ yX6_restore.cls ≠ "java/lang/invoke/VarHandle" ∧ (parseMethodDescriptor yX6_restore.desc).map (fun d => d.parameters.length) = some 0 := by decide +kernel
set_option maxHeartbeats 4000000 in
set_option maxRecDepth 100000 in
theorem c6_clock (l : Launch) {D : va_G} {G : CY} {ad : Nat → Nat} {B0 : Nat} (hA : adOK B0 ad) (σ : Nat → Nat → Int32)  (hO : okS σ) : Met l yX6_clock wsX6_clock { frames := 0, cells := 0, slots := 0, locals := 0 } (va_Pc [.ref (ad (270))] (Hp D G ad σ)) (va_Qi (fun (r : Int32) (_ : Unit) => r = f6_clock σ) (fun (_ : Unit) => Ho D G ad σ) (AA B0)) 0 0 (AA B0) := by
  refine Met.ofW (cc := cX6_clock) (maxL := 1) (ret := (some .int)) (by decide) rfl ?_
  intro p e s m args below meth c s₁ B hml hv
  obtain ⟨rfl, hP, hK, hN⟩ := hv
  have hx := B.exec
  have hb := B.bytes
  have hr := B.returns
  have hts := atoms_spec (ws := wsX6_clock) B.pre
  have hown : s.vm.findClass RX6 = some m.cls := findClass_of_methodNamed B.named
  have hlocks := B.notSynchronized
  have inX5 : ∀ w ∈ wsX50, w ∈ wsX6_clock := (fun w h => List.mem_cons_of_mem _ (List.mem_append_right _ h))
  have inX6 : ∀ w ∈ wsX60, w ∈ wsX6_clock := (fun w h => List.mem_cons_of_mem _ (List.mem_append_left _ (List.mem_append_right _ h)))
  have hP : va_P D vwCl (pool G ad σ) s.heap := hP
  have hS : va_S (AA B0) s.heap s.heap [] := va_S.rf
  have hl := lv_entry ([.ref (ad (270))]) (n := 1) (Nat.le_of_ble_eq_true rfl)
  rw [lg_entry_eq]
  generalize (lg_sl ([.ref (ad (270))]) ++ List.replicate (1 - (lg_sl ([.ref (ad (270))])).length) Slot.unset).toArray = ls at hl ⊢
  have hl : lv_has ls 1 [(0, .ref (ad (270)))] := hl
  obtain ⟨FF, hFF⟩ : ∃ z, z = f6_clock σ := ⟨_, rfl⟩
  have hF := hFF.symm
  rw [f6_clock] at hF
  refine lv_aload_n hx hb dX6_clock_0 rfl (lv_at hl 0 rfl) ?_
  refine va_get (D := D) (ci := 8) (C := RX6) (T := TX6) (N := 9) hx hb hts inX6 hown hK hP (270) g_270 rfl 0 (by decide) (hts (.fieldLink RX6 12 "TileRunners" "world" "LTileRunners$World;") (List.mem_of_getElem? (i := 1) rfl)) (fun _ h9 => h9) rfl dX6_clock_1 ?_
  refine va_get (D := D) (ci := 7) (C := RX5) (T := TX5) (N := 7) hx hb hts inX5 hown hK hP (18*0+0) (g_o (by decide)) rfl 6 (by decide) (hts (.fieldLink RX6 186 "TileRunners$World" "time" "I") (List.mem_of_getElem? (i := 2) rfl)) (fun _ h9 => h9) rfl dX6_clock_4 ?_
  exact W.iret (v := (σ 0 466)) hx hb hr (fun t ht hW => ⟨⟨(σ 0 466), (), rfl, hF.trans hFF, ho_of ht hP⟩, hS.F ht⟩) hS.2.2 dX6_clock_7
theorem hd_X6_clockV : yX6_clock.cls = RX6 ∧ yX6_clock.cls ≠ "java/lang/invoke/MethodHandle" ∧ yX6_clock.cls ≠ "java/lang/invoke/VarHandle" ∧ (parseMethodDescriptor yX6_clock.desc).map (fun d => d.parameters.length) = some 0 := by decide +kernel
set_option maxHeartbeats 4000000 in
set_option maxRecDepth 100000 in
theorem c6_faultPosition (l : Launch) {D : va_G} {G : CY} {ad : Nat → Nat} {B0 : Nat} (hA : adOK B0 ad) (σ : Nat → Nat → Int32)  (hO : okS σ) : Met l yX6_faultPosition wsX6_faultPosition { frames := 0, cells := 0, slots := 0, locals := 0 } (va_Pc [.ref (ad (270))] (Hp D G ad σ)) (va_Qi (fun (r : Int32) (_ : Unit) => r = f6_faultPosition σ) (fun (_ : Unit) => Ho D G ad σ) (AA B0)) 0 0 (AA B0) := by
  refine Met.ofW (cc := cX6_faultPosition) (maxL := 1) (ret := (some .int)) (by decide) rfl ?_
  intro p e s m args below meth c s₁ B hml hv
  obtain ⟨rfl, hP, hK, hN⟩ := hv
  have hx := B.exec
  have hb := B.bytes
  have hr := B.returns
  have hts := atoms_spec (ws := wsX6_faultPosition) B.pre
  have hown : s.vm.findClass RX6 = some m.cls := findClass_of_methodNamed B.named
  have hlocks := B.notSynchronized
  have inX6 : ∀ w ∈ wsX60, w ∈ wsX6_faultPosition := (fun w h => List.mem_cons_of_mem _ (List.mem_append_right _ h))
  have hP : va_P D vwCl (pool G ad σ) s.heap := hP
  have hS : va_S (AA B0) s.heap s.heap [] := va_S.rf
  have hl := lv_entry ([.ref (ad (270))]) (n := 1) (Nat.le_of_ble_eq_true rfl)
  rw [lg_entry_eq]
  generalize (lg_sl ([.ref (ad (270))]) ++ List.replicate (1 - (lg_sl ([.ref (ad (270))])).length) Slot.unset).toArray = ls at hl ⊢
  have hl : lv_has ls 1 [(0, .ref (ad (270)))] := hl
  obtain ⟨FF, hFF⟩ : ∃ z, z = f6_faultPosition σ := ⟨_, rfl⟩
  have hF := hFF.symm
  rw [f6_faultPosition] at hF
  refine lv_aload_n hx hb dX6_faultPosition_0 rfl (lv_at hl 0 rfl) ?_
  refine va_get (D := D) (ci := 8) (C := RX6) (T := TX6) (N := 9) hx hb hts inX6 hown hK hP (270) g_270 rfl 8 (by decide) (hts (.fieldLink RX6 55 "TileRunners" "fault" "I") (List.mem_of_getElem? (i := 1) rfl)) (fun _ h9 => h9) rfl dX6_faultPosition_1 ?_
  exact W.iret (v := (σ 15 1)) hx hb hr (fun t ht hW => ⟨⟨(σ 15 1), (), rfl, hF.trans hFF, ho_of ht hP⟩, hS.F ht⟩) hS.2.2 dX6_faultPosition_4
theorem hd_X6_faultPositionV : yX6_faultPosition.cls = RX6 ∧ yX6_faultPosition.cls ≠ "java/lang/invoke/MethodHandle" ∧ yX6_faultPosition.cls ≠ "java/lang/invoke/VarHandle" ∧ (parseMethodDescriptor yX6_faultPosition.desc).map (fun d => d.parameters.length) = some 0 := by decide +kernel
