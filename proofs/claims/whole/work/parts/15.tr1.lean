set_option maxHeartbeats 4000000 in
set_option maxRecDepth 100000 in
theorem c6_tile (l : Launch) (hl0 : l.stackTraces = false) {D : va_G} {G : CY} {ad : Nat → Nat} {B0 : Nat} (hA : adOK B0 ad) (σ : Nat → Nat → Int32) (a : Int32) (b : Int32) (hO : okS σ) : vx_Met l yX6_tile wsX6_tile { frames := 7, cells := 2, slots := 12, locals := 117 } (va_Pc [.ref (ad (270)), .int a, .int b] (Hx XEs D G ad B0 σ)) (va_Qi (fun (r : Int32) (z : Nat → Nat → Int32) => ((Sum.inl r, z) : RT) = f6_tile σ a b ∧ okS z) (fun (z : Nat → Nat → Int32) => Ho D G ad z) (AA B0)) (XX D G ad B0 (fun E z => ((Sum.inr E, z) : RT) = f6_tile σ a b ∧ okS z)) 2 12 (AA B0) := by
  refine vx_ofW (cc := cX6_tile) (maxL := 3) (ret := (some .int)) (by decide) rfl ?_
  intro p e s m args below meth c s₁ B hml htab hv
  obtain ⟨rfl, ⟨hP, hK, hN⟩, hT, hL, adK, adV, hG, hR⟩ := hv
  have hx := B.exec
  have hb := B.bytes
  have hr := B.returns
  have hts := atoms_spec (ws := wsX6_tile) B.pre
  have hown : s.vm.findClass RX6 = some m.cls := findClass_of_methodNamed B.named
  have hlocks := B.notSynchronized
  have inX5 : ∀ w ∈ wsX50, w ∈ wsX6_tile := (fun w h => List.mem_cons_of_mem _ (List.mem_append_left _ (List.mem_append_left _ (List.mem_append_left _ (List.mem_append_right _ h)))))
  have inX6 : ∀ w ∈ wsX60, w ∈ wsX6_tile := (fun w h => List.mem_cons_of_mem _ (List.mem_append_left _ (List.mem_append_left _ (List.mem_append_left _ (List.mem_append_left _ (List.mem_append_right _ h))))))
  have hP : va_P D vwCl (pool G ad σ) s.heap := hP
  have hS : va_S (AA B0) s.heap s.heap [] := va_S.rf
  have hl := lv_entry ([.ref (ad (270)), .int a, .int b]) (n := 3) (Nat.le_of_ble_eq_true rfl)
  rw [lg_entry_eq]
  generalize (lg_sl ([.ref (ad (270)), .int a, .int b]) ++ List.replicate (3 - (lg_sl ([.ref (ad (270)), .int a, .int b])).length) Slot.unset).toArray = ls at hl ⊢
  have hl : lv_has ls 3 [(0, .ref (ad (270))), (1, .int a), (2, .int b)] := hl
  obtain ⟨FF, hFF⟩ : ∃ z, z = f6_tile σ a b := ⟨_, rfl⟩
  have hF := hFF.symm
  rw [f6_tile] at hF
  refine lv_iload_n hx hb dX6_tile_0 rfl (lv_at hl 1 rfl) ?_
  refine lv_iload_n hx hb dX6_tile_1 rfl (lv_at hl 2 rfl) ?_
  refine vx_callv (vx_runS (As := [.int a, .int b]) (rest := []) ⟨hx, hb, hml, hown, hts⟩ (c6_requireTile l hl0 hA σ a b hO) (va_cwS 2 hts gX6_tile_X6_requireTile rfl rfl rfl hd_X6_requireTileS ⟨Nat.le_of_ble_eq_true rfl, Nat.le_of_ble_eq_true rfl⟩) ⟨hx_blind, hx_pre hK hN hT hL hG hR hS hP⟩ rfl rfl hl.1 rfl (lv_room (Nat.le_of_ble_eq_true rfl)) dX6_tile_2 ⟨Nat.le_of_ble_eq_true rfl, Nat.le_of_ble_eq_true rfl⟩) hS (fun _ _ h => h) (fun _ h => h) (fun _ _ h => h) (fun E9 ce9 q9 z9 t9 H9 locs9 ht9 hvm9 hw9 hB9 hz9 hk9 hS9 hce9 hcv9 hcl9 => ?_) (fun u9 t H locs ht hvm hw9 hB hz1 hk1 hS => ?_)
  · obtain ⟨eqx, okx⟩ := hw9
    obtain ⟨rfl, hBx⟩ := hB9
    have hF := bndx_x eqx hF
    exact vx_out (fun x hx => (htab x hx).elim) hlocks hce9 hcv9 hcl9 (fun t8 h8 _ => ⟨z9, ⟨hF.trans hFF, okx⟩, ⟨rfl, ho_of h8 (ho_at ht9 hBx)⟩, hS9.F h8⟩) hS9.2.2 (Nat.le_of_ble_eq_true rfl) (Nat.le_of_ble_eq_true rfl)
  have hP := ho_at ht hB
  obtain ⟨eq2, ok9⟩ := hw9
  obtain ⟨σ2, e_σ2⟩ : ∃ z, z = u9 := ⟨_, rfl⟩
  rw [← e_σ2] at hP eq2 ok9
  have hO := ok9
  have hF := bndx_s eq2 hF
  refine lv_aload_n hx hb dX6_tile_5 rfl (lv_at hl 0 rfl) ?_
  refine va_get (D := D) (ci := 8) (C := RX6) (T := TX6) (N := 9) hx hb hts inX6 hown hK hP (270) g_270 rfl 0 (by decide) (hts (.fieldLink RX6 12 "TileRunners" "world" "LTileRunners$World;") (List.mem_of_getElem? (i := 1) rfl)) (fun _ h9 => h9) rfl dX6_tile_6 ?_
  refine va_get (D := D) (ci := 7) (C := RX5) (T := TX5) (N := 7) hx hb hts inX5 hown hK hP (18*0+0) (g_o (by decide)) rfl 0 (by decide) (hts (.fieldLink RX6 71 "TileRunners$World" "tiles" "LTileRunners$Tiles;") (List.mem_of_getElem? (i := 2) rfl)) (fun _ h9 => h9) rfl dX6_tile_9 ?_
  refine lv_iload_n hx hb dX6_tile_12 rfl (lv_at hl 1 rfl) ?_
  refine lv_iload_n hx hb dX6_tile_13 rfl (lv_at hl 2 rfl) ?_
  have hP := f_eta 0 hP
  refine va_calli (va_runV (As := [.int a, .int b]) (rest := []) ⟨hx, hb, hml, hown, hts⟩ (c4_kindAt l hA σ2 (σ2 0) 0 (by decide) a b ) (cwV 2 hts gX6_tile_X4_kindAt rfl rfl rfl hd_X4_kindAtV ⟨Nat.le_of_ble_eq_true rfl, Nat.le_of_ble_eq_true rfl⟩) ⟨hp_blind, va_recv hK hP (ci := 6) (q0 := 18*0+1) rfl (c_t (by decide)), hp_pre hK hN hP⟩ rfl rfl hl.1 rfl (lv_room (Nat.le_of_ble_eq_true rfl)) dX6_tile_14 ⟨Nat.le_of_ble_eq_true rfl, Nat.le_of_ble_eq_true rfl⟩) hS (fun _ _ h => h) (fun _ h => h) (fun r14 _ t H locs ht hvm hw9 hB hz1 hk1 hS => ?_)
  have hP := ho_at ht hB
  have eq14 := hw9
  rw [up_eta] at hP
  have hF := bnd_s eq14 hF
  exact vx_ret (W.widen (Nat.le_of_ble_eq_true rfl) (Nat.le_of_ble_eq_true rfl) (W.iret (v := r14) hx hb hr (fun t ht hW => ⟨⟨r14, σ2, rfl, ⟨hF.trans hFF, hO⟩, ho_of ht hP⟩, hS.F ht⟩) hS.2.2 dX6_tile_17))
theorem hd_X6_tileV : yX6_tile.cls = RX6 ∧ yX6_tile.cls ≠ "java/lang/invoke/MethodHandle" ∧ yX6_tile.cls ≠ "java/lang/invoke/VarHandle" ∧ (parseMethodDescriptor yX6_tile.desc).map (fun d => d.parameters.length) = some 2 := by decide +kernel
set_option maxHeartbeats 4000000 in
set_option maxRecDepth 100000 in
theorem c6_body (l : Launch) (hl0 : l.stackTraces = false) {D : va_G} {G : CY} {ad : Nat → Nat} {B0 : Nat} (hA : adOK B0 ad) (σ : Nat → Nat → Int32) (a : Int32) (b : Int32) (hO : okS σ) : vx_Met l yX6_body wsX6_body { frames := 7, cells := 3, slots := 18, locals := 117 } (va_Pc [.ref (ad (270)), .int a, .int b] (Hx XEs D G ad B0 σ)) (va_Qi (fun (r : Int32) (z : Nat → Nat → Int32) => ((Sum.inl r, z) : RT) = f6_body σ a b ∧ okS z) (fun (z : Nat → Nat → Int32) => Ho D G ad z) (AA B0)) (XX D G ad B0 (fun E z => ((Sum.inr E, z) : RT) = f6_body σ a b ∧ okS z)) 3 18 (AA B0) := by
  refine vx_ofW (cc := cX6_body) (maxL := 3) (ret := (some .int)) (by decide) rfl ?_
  intro p e s m args below meth c s₁ B hml htab hv
  obtain ⟨rfl, ⟨hP, hK, hN⟩, hT, hL, adK, adV, hG, hR⟩ := hv
  have hx := B.exec
  have hb := B.bytes
  have hr := B.returns
  have hts := atoms_spec (ws := wsX6_body) B.pre
  have hown : s.vm.findClass RX6 = some m.cls := findClass_of_methodNamed B.named
  have hlocks := B.notSynchronized
  have inX5 : ∀ w ∈ wsX50, w ∈ wsX6_body := (fun w h => List.mem_cons_of_mem _ (List.mem_append_left _ (List.mem_append_left _ (List.mem_append_left _ (List.mem_append_right _ h)))))
  have inX6 : ∀ w ∈ wsX60, w ∈ wsX6_body := (fun w h => List.mem_cons_of_mem _ (List.mem_append_left _ (List.mem_append_left _ (List.mem_append_left _ (List.mem_append_left _ (List.mem_append_right _ h))))))
  have hP : va_P D vwCl (pool G ad σ) s.heap := hP
  have hS : va_S (AA B0) s.heap s.heap [] := va_S.rf
  have hl := lv_entry ([.ref (ad (270)), .int a, .int b]) (n := 3) (Nat.le_of_ble_eq_true rfl)
  rw [lg_entry_eq]
  generalize (lg_sl ([.ref (ad (270)), .int a, .int b]) ++ List.replicate (3 - (lg_sl ([.ref (ad (270)), .int a, .int b])).length) Slot.unset).toArray = ls at hl ⊢
  have hl : lv_has ls 3 [(0, .ref (ad (270))), (1, .int a), (2, .int b)] := hl
  obtain ⟨FF, hFF⟩ : ∃ z, z = f6_body σ a b := ⟨_, rfl⟩
  have hF := hFF.symm
  rw [f6_body] at hF
  refine lv_aload_n hx hb dX6_body_0 rfl (lv_at hl 0 rfl) ?_
  refine lv_iload_n hx hb dX6_body_1 rfl (lv_at hl 1 rfl) ?_
  refine vx_callv (vx_runV (As := [.int a]) (rest := []) ⟨hx, hb, hml, hown, hts⟩ (c6_requireBody l hl0 hA σ a hO) (cwV 1 hts gX6_body_X6_requireBody rfl rfl rfl hd_X6_requireBodyV ⟨Nat.le_of_ble_eq_true rfl, Nat.le_of_ble_eq_true rfl⟩) ⟨hx_blind, va_recv hK hP (ci := 8) (q0 := 270) rfl g_270, hx_pre hK hN hT hL hG hR hS hP⟩ rfl rfl hl.1 rfl (lv_room (Nat.le_of_ble_eq_true rfl)) dX6_body_2 ⟨Nat.le_of_ble_eq_true rfl, Nat.le_of_ble_eq_true rfl⟩) hS (fun _ _ h => h) (fun _ h => h) (fun _ _ h => h) (fun E9 ce9 q9 z9 t9 H9 locs9 ht9 hvm9 hw9 hB9 hz9 hk9 hS9 hce9 hcv9 hcl9 => ?_) (fun u9 t H locs ht hvm hw9 hB hz1 hk1 hS => ?_)
  · obtain ⟨eqx, okx⟩ := hw9
    obtain ⟨rfl, hBx⟩ := hB9
    have hF := bndx_x eqx hF
    exact vx_out (fun x hx => (htab x hx).elim) hlocks hce9 hcv9 hcl9 (fun t8 h8 _ => ⟨z9, ⟨hF.trans hFF, okx⟩, ⟨rfl, ho_of h8 (ho_at ht9 hBx)⟩, hS9.F h8⟩) hS9.2.2 (Nat.le_of_ble_eq_true rfl) (Nat.le_of_ble_eq_true rfl)
  have hP := ho_at ht hB
  obtain ⟨eq2, ok9⟩ := hw9
  obtain ⟨σ2, e_σ2⟩ : ∃ z, z = u9 := ⟨_, rfl⟩
  rw [← e_σ2] at hP eq2 ok9
  have hO := ok9
  have hF := bndx_s eq2 hF
  have hi9 : vp_in a 4 := in_body hO eq2
  refine lv_iload_n hx hb dX6_body_5 rfl (lv_at hl 2 rfl) ?_
  refine lv_iconst (v := 0) hx hb dX6_body_6 (by decide) ?_
  refine lv_bipush (v := 9) hx hb dX6_body_7 (by decide) ?_
  refine va_calli (va_runS (As := [.int b, .int 0, .int 9]) (rest := []) ⟨hx, hb, hml, hown, hts⟩ (c6_isWithin l hA σ2 b 0 9 ) (va_cwS 3 hts gX6_body_X6_isWithin rfl rfl rfl hd_X6_isWithinS ⟨Nat.le_of_ble_eq_true rfl, Nat.le_of_ble_eq_true rfl⟩) ⟨hp_blind, hp_pre hK hN hP⟩ rfl rfl hl.1 rfl (lv_room (Nat.le_of_ble_eq_true rfl)) dX6_body_9 ⟨Nat.le_of_ble_eq_true rfl, Nat.le_of_ble_eq_true rfl⟩) hS (fun _ _ h => h) (fun _ h => h) (fun r9 _ t H locs ht hvm hw9 hB hz1 hk1 hS => ?_)
  have hP := ho_at ht hB
  obtain ⟨eq9, hb_r9⟩ := hw9
  have hF := bnd_s eq9 hF
  refine vx_callv (vx_runS (As := [.int r9]) (rest := []) ⟨hx, hb, hml, hown, hts⟩ (c6_require l hl0 hA σ2 r9 hO hb_r9) (va_cwS 1 hts gX6_body_X6_require rfl rfl rfl hd_X6_requireS ⟨Nat.le_of_ble_eq_true rfl, Nat.le_of_ble_eq_true rfl⟩) ⟨hx_blind, hx_pre hK hN hT hL hG hR hS hP⟩ rfl rfl hl.1 rfl (lv_room (Nat.le_of_ble_eq_true rfl)) dX6_body_12 ⟨Nat.le_of_ble_eq_true rfl, Nat.le_of_ble_eq_true rfl⟩) hS (fun _ _ h => h) (fun _ h => h) (fun _ _ h => h) (fun E9 ce9 q9 z9 t9 H9 locs9 ht9 hvm9 hw9 hB9 hz9 hk9 hS9 hce9 hcv9 hcl9 => ?_) (fun u9 t H locs ht hvm hw9 hB hz1 hk1 hS => ?_)
  · obtain ⟨eqx, okx⟩ := hw9
    obtain ⟨rfl, hBx⟩ := hB9
    have hF := bndx_x eqx hF
    exact vx_out (fun x hx => (htab x hx).elim) hlocks hce9 hcv9 hcl9 (fun t8 h8 _ => ⟨z9, ⟨hF.trans hFF, okx⟩, ⟨rfl, ho_of h8 (ho_at ht9 hBx)⟩, hS9.F h8⟩) hS9.2.2 (Nat.le_of_ble_eq_true rfl) (Nat.le_of_ble_eq_true rfl)
  have hP := ho_at ht hB
  obtain ⟨eq12, ok9⟩ := hw9
  obtain ⟨σ12, e_σ12⟩ : ∃ z, z = u9 := ⟨_, rfl⟩
  rw [← e_σ12] at hP eq12 ok9
  have hO := ok9
  have hF := bndx_s eq12 hF
  refine lv_aload_n hx hb dX6_body_15 rfl (lv_at hl 0 rfl) ?_
  refine va_get (D := D) (ci := 8) (C := RX6) (T := TX6) (N := 9) hx hb hts inX6 hown hK hP (270) g_270 rfl 0 (by decide) (hts (.fieldLink RX6 12 "TileRunners" "world" "LTileRunners$World;") (List.mem_of_getElem? (i := 1) rfl)) (fun _ h9 => h9) rfl dX6_body_16 ?_
  refine va_get (D := D) (ci := 7) (C := RX5) (T := TX5) (N := 7) hx hb hts inX5 hown hK hP (18*0+0) (g_o (by decide)) rfl 1 (by decide) (hts (.fieldLink RX6 102 "TileRunners$World" "bodies" "[LTileRunners$Body;") (List.mem_of_getElem? (i := 2) rfl)) (fun _ h9 => h9) rfl dX6_body_19 ?_
  refine lv_iload_n hx hb dX6_body_22 rfl (lv_at hl 1 rfl) ?_
  have hi_23 : a.toNatClampNeg < 4 := in_lt (i := a) hi9
  refine pqald (t0 := 2) (i := a) hx hb hK hP (c_bs (by decide)) rfl hi9 dX6_body_23 ?_
  refine lv_iload_n hx hb dX6_body_24 rfl (lv_at hl 2 rfl) ?_
  have hP := f_eta 0 hP
  refine va_calli (va_runV (As := [.int b]) (rest := []) ⟨hx, hb, hml, hown, hts⟩ (c0_number l hA σ12 (σ12 0) 0 (by decide) a.toNatClampNeg hi_23 b ) (cwV 1 hts gX6_body_X0_number rfl rfl rfl hd_X0_numberV ⟨Nat.le_of_ble_eq_true rfl, Nat.le_of_ble_eq_true rfl⟩) ⟨hp_blind, va_recv hK hP (ci := 2) (q0 := 18*0+(6+2*a.toNatClampNeg)) rfl (c_b (by decide) hi_23), hp_pre hK hN hP⟩ rfl rfl hl.1 rfl (lv_room (Nat.le_of_ble_eq_true rfl)) dX6_body_25 ⟨Nat.le_of_ble_eq_true rfl, Nat.le_of_ble_eq_true rfl⟩) hS (fun _ _ h => h) (fun _ h => h) (fun r25 _ t H locs ht hvm hw9 hB hz1 hk1 hS => ?_)
  have hP := ho_at ht hB
  have eq25 := hw9
  rw [up_eta] at hP
  have hF := bnd_s eq25 hF
  exact vx_ret (W.widen (Nat.le_of_ble_eq_true rfl) (Nat.le_of_ble_eq_true rfl) (W.iret (v := r25) hx hb hr (fun t ht hW => ⟨⟨r25, σ12, rfl, ⟨hF.trans hFF, hO⟩, ho_of ht hP⟩, hS.F ht⟩) hS.2.2 dX6_body_28))
theorem hd_X6_bodyV : yX6_body.cls = RX6 ∧ yX6_body.cls ≠ "java/lang/invoke/MethodHandle" ∧ yX6_body.cls ≠ "java/lang/invoke/VarHandle" ∧ (parseMethodDescriptor yX6_body.desc).map (fun d => d.parameters.length) = some 2 := by decide +kernel
set_option maxHeartbeats 4000000 in
set_option maxRecDepth 100000 in
theorem c6_platform (l : Launch) (hl0 : l.stackTraces = false) {D : va_G} {G : CY} {ad : Nat → Nat} {B0 : Nat} (hA : adOK B0 ad) (σ : Nat → Nat → Int32) (a : Int32) (b : Int32) (hO : okS σ) : vx_Met l yX6_platform wsX6_platform { frames := 7, cells := 3, slots := 18, locals := 117 } (va_Pc [.ref (ad (270)), .int a, .int b] (Hx XEs D G ad B0 σ)) (va_Qi (fun (r : Int32) (z : Nat → Nat → Int32) => ((Sum.inl r, z) : RT) = f6_platform σ a b ∧ okS z) (fun (z : Nat → Nat → Int32) => Ho D G ad z) (AA B0)) (XX D G ad B0 (fun E z => ((Sum.inr E, z) : RT) = f6_platform σ a b ∧ okS z)) 3 18 (AA B0) := by
  refine vx_ofW (cc := cX6_platform) (maxL := 3) (ret := (some .int)) (by decide) rfl ?_
  intro p e s m args below meth c s₁ B hml htab hv
  obtain ⟨rfl, ⟨hP, hK, hN⟩, hT, hL, adK, adV, hG, hR⟩ := hv
  have hx := B.exec
  have hb := B.bytes
  have hr := B.returns
  have hts := atoms_spec (ws := wsX6_platform) B.pre
  have hown : s.vm.findClass RX6 = some m.cls := findClass_of_methodNamed B.named
  have hlocks := B.notSynchronized
  have inX5 : ∀ w ∈ wsX50, w ∈ wsX6_platform := (fun w h => List.mem_cons_of_mem _ (List.mem_append_left _ (List.mem_append_left _ (List.mem_append_left _ (List.mem_append_right _ h)))))
  have inX6 : ∀ w ∈ wsX60, w ∈ wsX6_platform := (fun w h => List.mem_cons_of_mem _ (List.mem_append_left _ (List.mem_append_left _ (List.mem_append_left _ (List.mem_append_left _ (List.mem_append_right _ h))))))
  have hP : va_P D vwCl (pool G ad σ) s.heap := hP
  have hS : va_S (AA B0) s.heap s.heap [] := va_S.rf
  have hl := lv_entry ([.ref (ad (270)), .int a, .int b]) (n := 3) (Nat.le_of_ble_eq_true rfl)
  rw [lg_entry_eq]
  generalize (lg_sl ([.ref (ad (270)), .int a, .int b]) ++ List.replicate (3 - (lg_sl ([.ref (ad (270)), .int a, .int b])).length) Slot.unset).toArray = ls at hl ⊢
  have hl : lv_has ls 3 [(0, .ref (ad (270))), (1, .int a), (2, .int b)] := hl
  obtain ⟨FF, hFF⟩ : ∃ z, z = f6_platform σ a b := ⟨_, rfl⟩
  have hF := hFF.symm
  rw [f6_platform] at hF
  refine lv_aload_n hx hb dX6_platform_0 rfl (lv_at hl 0 rfl) ?_
  refine lv_iload_n hx hb dX6_platform_1 rfl (lv_at hl 1 rfl) ?_
  refine vx_callv (vx_runV (As := [.int a]) (rest := []) ⟨hx, hb, hml, hown, hts⟩ (c6_requirePlatform l hl0 hA σ a hO) (cwV 1 hts gX6_platform_X6_requirePlatform rfl rfl rfl hd_X6_requirePlatformV ⟨Nat.le_of_ble_eq_true rfl, Nat.le_of_ble_eq_true rfl⟩) ⟨hx_blind, va_recv hK hP (ci := 8) (q0 := 270) rfl g_270, hx_pre hK hN hT hL hG hR hS hP⟩ rfl rfl hl.1 rfl (lv_room (Nat.le_of_ble_eq_true rfl)) dX6_platform_2 ⟨Nat.le_of_ble_eq_true rfl, Nat.le_of_ble_eq_true rfl⟩) hS (fun _ _ h => h) (fun _ h => h) (fun _ _ h => h) (fun E9 ce9 q9 z9 t9 H9 locs9 ht9 hvm9 hw9 hB9 hz9 hk9 hS9 hce9 hcv9 hcl9 => ?_) (fun u9 t H locs ht hvm hw9 hB hz1 hk1 hS => ?_)
  · obtain ⟨eqx, okx⟩ := hw9
    obtain ⟨rfl, hBx⟩ := hB9
    have hF := bndx_x eqx hF
    exact vx_out (fun x hx => (htab x hx).elim) hlocks hce9 hcv9 hcl9 (fun t8 h8 _ => ⟨z9, ⟨hF.trans hFF, okx⟩, ⟨rfl, ho_of h8 (ho_at ht9 hBx)⟩, hS9.F h8⟩) hS9.2.2 (Nat.le_of_ble_eq_true rfl) (Nat.le_of_ble_eq_true rfl)
  have hP := ho_at ht hB
  obtain ⟨eq2, ok9⟩ := hw9
  obtain ⟨σ2, e_σ2⟩ : ∃ z, z = u9 := ⟨_, rfl⟩
  rw [← e_σ2] at hP eq2 ok9
  have hO := ok9
  have hF := bndx_s eq2 hF
  have hi9 : vp_in a 4 := in_plat hO eq2
  refine lv_iload_n hx hb dX6_platform_5 rfl (lv_at hl 2 rfl) ?_
  refine lv_iconst (v := 0) hx hb dX6_platform_6 (by decide) ?_
  refine lv_iconst (v := 5) hx hb dX6_platform_7 (by decide) ?_
  refine va_calli (va_runS (As := [.int b, .int 0, .int 5]) (rest := []) ⟨hx, hb, hml, hown, hts⟩ (c6_isWithin l hA σ2 b 0 5 ) (va_cwS 3 hts gX6_platform_X6_isWithin rfl rfl rfl hd_X6_isWithinS ⟨Nat.le_of_ble_eq_true rfl, Nat.le_of_ble_eq_true rfl⟩) ⟨hp_blind, hp_pre hK hN hP⟩ rfl rfl hl.1 rfl (lv_room (Nat.le_of_ble_eq_true rfl)) dX6_platform_8 ⟨Nat.le_of_ble_eq_true rfl, Nat.le_of_ble_eq_true rfl⟩) hS (fun _ _ h => h) (fun _ h => h) (fun r8 _ t H locs ht hvm hw9 hB hz1 hk1 hS => ?_)
  have hP := ho_at ht hB
  obtain ⟨eq8, hb_r8⟩ := hw9
  have hF := bnd_s eq8 hF
  refine vx_callv (vx_runS (As := [.int r8]) (rest := []) ⟨hx, hb, hml, hown, hts⟩ (c6_require l hl0 hA σ2 r8 hO hb_r8) (va_cwS 1 hts gX6_platform_X6_require rfl rfl rfl hd_X6_requireS ⟨Nat.le_of_ble_eq_true rfl, Nat.le_of_ble_eq_true rfl⟩) ⟨hx_blind, hx_pre hK hN hT hL hG hR hS hP⟩ rfl rfl hl.1 rfl (lv_room (Nat.le_of_ble_eq_true rfl)) dX6_platform_11 ⟨Nat.le_of_ble_eq_true rfl, Nat.le_of_ble_eq_true rfl⟩) hS (fun _ _ h => h) (fun _ h => h) (fun _ _ h => h) (fun E9 ce9 q9 z9 t9 H9 locs9 ht9 hvm9 hw9 hB9 hz9 hk9 hS9 hce9 hcv9 hcl9 => ?_) (fun u9 t H locs ht hvm hw9 hB hz1 hk1 hS => ?_)
  · obtain ⟨eqx, okx⟩ := hw9
    obtain ⟨rfl, hBx⟩ := hB9
    have hF := bndx_x eqx hF
    exact vx_out (fun x hx => (htab x hx).elim) hlocks hce9 hcv9 hcl9 (fun t8 h8 _ => ⟨z9, ⟨hF.trans hFF, okx⟩, ⟨rfl, ho_of h8 (ho_at ht9 hBx)⟩, hS9.F h8⟩) hS9.2.2 (Nat.le_of_ble_eq_true rfl) (Nat.le_of_ble_eq_true rfl)
  have hP := ho_at ht hB
  obtain ⟨eq11, ok9⟩ := hw9
  obtain ⟨σ11, e_σ11⟩ : ∃ z, z = u9 := ⟨_, rfl⟩
  rw [← e_σ11] at hP eq11 ok9
  have hO := ok9
  have hF := bndx_s eq11 hF
  refine lv_aload_n hx hb dX6_platform_14 rfl (lv_at hl 0 rfl) ?_
  refine va_get (D := D) (ci := 8) (C := RX6) (T := TX6) (N := 9) hx hb hts inX6 hown hK hP (270) g_270 rfl 0 (by decide) (hts (.fieldLink RX6 12 "TileRunners" "world" "LTileRunners$World;") (List.mem_of_getElem? (i := 1) rfl)) (fun _ h9 => h9) rfl dX6_platform_15 ?_
  refine va_get (D := D) (ci := 7) (C := RX5) (T := TX5) (N := 7) hx hb hts inX5 hown hK hP (18*0+0) (g_o (by decide)) rfl 2 (by decide) (hts (.fieldLink RX6 149 "TileRunners$World" "platforms" "[LTileRunners$Platform;") (List.mem_of_getElem? (i := 2) rfl)) (fun _ h9 => h9) rfl dX6_platform_18 ?_
  refine lv_iload_n hx hb dX6_platform_21 rfl (lv_at hl 1 rfl) ?_
  have hi_22 : a.toNatClampNeg < 4 := in_lt (i := a) hi9
  refine pqald (t0 := 3) (i := a) hx hb hK hP (c_ps (by decide)) rfl hi9 dX6_platform_22 ?_
  refine lv_iload_n hx hb dX6_platform_23 rfl (lv_at hl 2 rfl) ?_
  have hP := f_eta 0 hP
  refine va_calli (va_runV (As := [.int b]) (rest := []) ⟨hx, hb, hml, hown, hts⟩ (c2_number l hA σ11 (σ11 0) 0 (by decide) a.toNatClampNeg hi_22 b ) (cwV 1 hts gX6_platform_X2_number rfl rfl rfl hd_X2_numberV ⟨Nat.le_of_ble_eq_true rfl, Nat.le_of_ble_eq_true rfl⟩) ⟨hp_blind, va_recv hK hP (ci := 4) (q0 := 18*0+(14+a.toNatClampNeg)) rfl (c_p (by decide) hi_22), hp_pre hK hN hP⟩ rfl rfl hl.1 rfl (lv_room (Nat.le_of_ble_eq_true rfl)) dX6_platform_24 ⟨Nat.le_of_ble_eq_true rfl, Nat.le_of_ble_eq_true rfl⟩) hS (fun _ _ h => h) (fun _ h => h) (fun r24 _ t H locs ht hvm hw9 hB hz1 hk1 hS => ?_)
  have hP := ho_at ht hB
  have eq24 := hw9
  rw [up_eta] at hP
  have hF := bnd_s eq24 hF
  exact vx_ret (W.widen (Nat.le_of_ble_eq_true rfl) (Nat.le_of_ble_eq_true rfl) (W.iret (v := r24) hx hb hr (fun t ht hW => ⟨⟨r24, σ11, rfl, ⟨hF.trans hFF, hO⟩, ho_of ht hP⟩, hS.F ht⟩) hS.2.2 dX6_platform_27))
theorem hd_X6_platformV : yX6_platform.cls = RX6 ∧ yX6_platform.cls ≠ "java/lang/invoke/MethodHandle" ∧ yX6_platform.cls ≠ "java/lang/invoke/VarHandle" ∧ (parseMethodDescriptor yX6_platform.desc).map (fun d => d.parameters.length) = some 2 := by decide +kernel
set_option maxHeartbeats 4000000 in
set_option maxRecDepth 100000 in
theorem c6_count (l : Launch) (hl0 : l.stackTraces = false) {D : va_G} {G : CY} {ad : Nat → Nat} {B0 : Nat} (hA : adOK B0 ad) (σ : Nat → Nat → Int32) (a : Int32) (hO : okS σ) : vx_Met l yX6_count wsX6_count { frames := 7, cells := 2, slots := 12, locals := 116 } (va_Pc [.ref (ad (270)), .int a] (Hx XEs D G ad B0 σ)) (va_Qi (fun (r : Int32) (z : Nat → Nat → Int32) => ((Sum.inl r, z) : RT) = f6_count σ a ∧ okS z) (fun (z : Nat → Nat → Int32) => Ho D G ad z) (AA B0)) (XX D G ad B0 (fun E z => ((Sum.inr E, z) : RT) = f6_count σ a ∧ okS z)) 2 12 (AA B0) := by
  refine vx_ofW (cc := cX6_count) (maxL := 2) (ret := (some .int)) (by decide) rfl ?_
  intro p e s m args below meth c s₁ B hml htab hv
  obtain ⟨rfl, ⟨hP, hK, hN⟩, hT, hL, adK, adV, hG, hR⟩ := hv
  have hx := B.exec
  have hb := B.bytes
  have hr := B.returns
  have hts := atoms_spec (ws := wsX6_count) B.pre
  have hown : s.vm.findClass RX6 = some m.cls := findClass_of_methodNamed B.named
  have hlocks := B.notSynchronized
  have inX5 : ∀ w ∈ wsX50, w ∈ wsX6_count := (fun w h => List.mem_cons_of_mem _ (List.mem_append_left _ (List.mem_append_left _ (List.mem_append_left _ (List.mem_append_right _ h)))))
  have inX6 : ∀ w ∈ wsX60, w ∈ wsX6_count := (fun w h => List.mem_cons_of_mem _ (List.mem_append_left _ (List.mem_append_left _ (List.mem_append_left _ (List.mem_append_left _ (List.mem_append_right _ h))))))
  have hP : va_P D vwCl (pool G ad σ) s.heap := hP
  have hS : va_S (AA B0) s.heap s.heap [] := va_S.rf
  have hl := lv_entry ([.ref (ad (270)), .int a]) (n := 2) (Nat.le_of_ble_eq_true rfl)
  rw [lg_entry_eq]
  generalize (lg_sl ([.ref (ad (270)), .int a]) ++ List.replicate (2 - (lg_sl ([.ref (ad (270)), .int a])).length) Slot.unset).toArray = ls at hl ⊢
  have hl : lv_has ls 2 [(0, .ref (ad (270))), (1, .int a)] := hl
  obtain ⟨FF, hFF⟩ : ∃ z, z = f6_count σ a := ⟨_, rfl⟩
  have hF := hFF.symm
  rw [f6_count] at hF
  refine lv_iload_n hx hb dX6_count_0 rfl (lv_at hl 1 rfl) ?_
  refine lv_iconst (v := 0) hx hb dX6_count_1 (by decide) ?_
  refine lv_iconst (v := 3) hx hb dX6_count_2 (by decide) ?_
  refine va_calli (va_runS (As := [.int a, .int 0, .int 3]) (rest := []) ⟨hx, hb, hml, hown, hts⟩ (c6_isWithin l hA σ a 0 3 ) (va_cwS 3 hts gX6_count_X6_isWithin rfl rfl rfl hd_X6_isWithinS ⟨Nat.le_of_ble_eq_true rfl, Nat.le_of_ble_eq_true rfl⟩) ⟨hp_blind, hp_pre hK hN hP⟩ rfl rfl hl.1 rfl (lv_room (Nat.le_of_ble_eq_true rfl)) dX6_count_3 ⟨Nat.le_of_ble_eq_true rfl, Nat.le_of_ble_eq_true rfl⟩) hS (fun _ _ h => h) (fun _ h => h) (fun r3 _ t H locs ht hvm hw9 hB hz1 hk1 hS => ?_)
  have hP := ho_at ht hB
  obtain ⟨eq3, hb_r3⟩ := hw9
  have hF := bnd_s eq3 hF
  refine vx_callv (vx_runS (As := [.int r3]) (rest := []) ⟨hx, hb, hml, hown, hts⟩ (c6_require l hl0 hA σ r3 hO hb_r3) (va_cwS 1 hts gX6_count_X6_require rfl rfl rfl hd_X6_requireS ⟨Nat.le_of_ble_eq_true rfl, Nat.le_of_ble_eq_true rfl⟩) ⟨hx_blind, hx_pre hK hN hT hL hG hR hS hP⟩ rfl rfl hl.1 rfl (lv_room (Nat.le_of_ble_eq_true rfl)) dX6_count_6 ⟨Nat.le_of_ble_eq_true rfl, Nat.le_of_ble_eq_true rfl⟩) hS (fun _ _ h => h) (fun _ h => h) (fun _ _ h => h) (fun E9 ce9 q9 z9 t9 H9 locs9 ht9 hvm9 hw9 hB9 hz9 hk9 hS9 hce9 hcv9 hcl9 => ?_) (fun u9 t H locs ht hvm hw9 hB hz1 hk1 hS => ?_)
  · obtain ⟨eqx, okx⟩ := hw9
    obtain ⟨rfl, hBx⟩ := hB9
    have hF := bndx_x eqx hF
    exact vx_out (fun x hx => (htab x hx).elim) hlocks hce9 hcv9 hcl9 (fun t8 h8 _ => ⟨z9, ⟨hF.trans hFF, okx⟩, ⟨rfl, ho_of h8 (ho_at ht9 hBx)⟩, hS9.F h8⟩) hS9.2.2 (Nat.le_of_ble_eq_true rfl) (Nat.le_of_ble_eq_true rfl)
  have hP := ho_at ht hB
  obtain ⟨eq6, ok9⟩ := hw9
  obtain ⟨σ6, e_σ6⟩ : ∃ z, z = u9 := ⟨_, rfl⟩
  rw [← e_σ6] at hP eq6 ok9
  have hO := ok9
  have hF := bndx_s eq6 hF
  refine lv_iload_n hx hb dX6_count_9 rfl (lv_at hl 1 rfl) ?_
  by_cases k10_0 : a = 0
  · have hF := ift k10_0 hF
    refine lv_tableIn (tgt := 36) hx hb dX6_count_10 (by rw [k10_0]; decide) (by rw [k10_0]; decide) (by rw [k10_0]; rfl) (by decide) ?_
    refine lv_aload_n hx hb dX6_count_36 rfl (lv_at hl 0 rfl) ?_
    refine va_get (D := D) (ci := 8) (C := RX6) (T := TX6) (N := 9) hx hb hts inX6 hown hK hP (270) g_270 rfl 0 (by decide) (hts (.fieldLink RX6 12 "TileRunners" "world" "LTileRunners$World;") (List.mem_of_getElem? (i := 1) rfl)) (fun _ h9 => h9) rfl dX6_count_37 ?_
    refine va_get (D := D) (ci := 7) (C := RX5) (T := TX5) (N := 7) hx hb hts inX5 hown hK hP (18*0+0) (g_o (by decide)) rfl 4 (by decide) (hts (.fieldLink RX6 92 "TileRunners$World" "bodyCount" "I") (List.mem_of_getElem? (i := 2) rfl)) (fun _ h9 => h9) rfl dX6_count_40 ?_
    exact vx_ret (W.widen (Nat.le_of_ble_eq_true rfl) (Nat.le_of_ble_eq_true rfl) (W.iret (v := (σ6 0 464)) hx hb hr (fun t ht hW => ⟨⟨(σ6 0 464), σ6, rfl, ⟨hF.trans hFF, hO⟩, ho_of ht hP⟩, hS.F ht⟩) hS.2.2 dX6_count_43))
  have hF := iff_ k10_0 hF
  by_cases k10_1 : a = 1
  · have hF := ift k10_1 hF
    refine lv_tableIn (tgt := 44) hx hb dX6_count_10 (by rw [k10_1]; decide) (by rw [k10_1]; decide) (by rw [k10_1]; rfl) (by decide) ?_
    refine lv_aload_n hx hb dX6_count_44 rfl (lv_at hl 0 rfl) ?_
    refine va_get (D := D) (ci := 8) (C := RX6) (T := TX6) (N := 9) hx hb hts inX6 hown hK hP (270) g_270 rfl 0 (by decide) (hts (.fieldLink RX6 12 "TileRunners" "world" "LTileRunners$World;") (List.mem_of_getElem? (i := 1) rfl)) (fun _ h9 => h9) rfl dX6_count_45 ?_
    refine va_get (D := D) (ci := 7) (C := RX5) (T := TX5) (N := 7) hx hb hts inX5 hown hK hP (18*0+0) (g_o (by decide)) rfl 5 (by decide) (hts (.fieldLink RX6 144 "TileRunners$World" "platformCount" "I") (List.mem_of_getElem? (i := 3) rfl)) (fun _ h9 => h9) rfl dX6_count_48 ?_
    exact vx_ret (W.widen (Nat.le_of_ble_eq_true rfl) (Nat.le_of_ble_eq_true rfl) (W.iret (v := (σ6 0 465)) hx hb hr (fun t ht hW => ⟨⟨(σ6 0 465), σ6, rfl, ⟨hF.trans hFF, hO⟩, ho_of ht hP⟩, hS.F ht⟩) hS.2.2 dX6_count_51))
  have hF := iff_ k10_1 hF
  by_cases k10_2 : a = 2
  · have hF := ift k10_2 hF
    refine lv_tableIn (tgt := 52) hx hb dX6_count_10 (by rw [k10_2]; decide) (by rw [k10_2]; decide) (by rw [k10_2]; rfl) (by decide) ?_
    refine lv_sipush (v := 336) hx hb dX6_count_52 (by decide) ?_
    refine lv_aload_n hx hb dX6_count_55 rfl (lv_at hl 0 rfl) ?_
    refine va_get (D := D) (ci := 8) (C := RX6) (T := TX6) (N := 9) hx hb hts inX6 hown hK hP (270) g_270 rfl 0 (by decide) (hts (.fieldLink RX6 12 "TileRunners" "world" "LTileRunners$World;") (List.mem_of_getElem? (i := 1) rfl)) (fun _ h9 => h9) rfl dX6_count_56 ?_
    refine va_get (D := D) (ci := 7) (C := RX5) (T := TX5) (N := 7) hx hb hts inX5 hown hK hP (18*0+0) (g_o (by decide)) rfl 0 (by decide) (hts (.fieldLink RX6 71 "TileRunners$World" "tiles" "LTileRunners$Tiles;") (List.mem_of_getElem? (i := 4) rfl)) (fun _ h9 => h9) rfl dX6_count_59 ?_
    refine lv_iconst (v := 0) hx hb dX6_count_62 (by decide) ?_
    have hP := f_eta 0 hP
    refine va_calli (va_runV (As := [.int 0]) (rest := [.int 336]) ⟨hx, hb, hml, hown, hts⟩ (c4_countOf l hA σ6 (σ6 0) 0 (by decide) 0 ) (cwV 1 hts gX6_count_X4_countOf rfl rfl rfl hd_X4_countOfV ⟨Nat.le_of_ble_eq_true rfl, Nat.le_of_ble_eq_true rfl⟩) ⟨hp_blind, va_recv hK hP (ci := 6) (q0 := 18*0+1) rfl (c_t (by decide)), hp_pre hK hN hP⟩ rfl rfl hl.1 rfl (lv_room (Nat.le_of_ble_eq_true rfl)) dX6_count_63 ⟨Nat.le_of_ble_eq_true rfl, Nat.le_of_ble_eq_true rfl⟩) hS (fun _ _ h => h) (fun _ h => h) (fun r63 _ t H locs ht hvm hw9 hB hz1 hk1 hS => ?_)
    have hP := ho_at ht hB
    have eq63 := hw9
    rw [up_eta] at hP
    have hF := bnd_s eq63 hF
    refine lv_isub hx hb dX6_count_66 ?_
    exact vx_ret (W.widen (Nat.le_of_ble_eq_true rfl) (Nat.le_of_ble_eq_true rfl) (W.iret (v := (336 - r63)) hx hb hr (fun t ht hW => ⟨⟨(336 - r63), σ6, rfl, ⟨hF.trans hFF, hO⟩, ho_of ht hP⟩, hS.F ht⟩) hS.2.2 dX6_count_67))
  have hF := iff_ k10_2 hF
  have hto10 : ∀ k : Int, 0 ≤ k → k ≤ 2 → ¬ a.toInt = k := by
    intro k h1 h2 h3
    have h4 : k = 0 ∨ k = 1 ∨ k = 2 := by omega
    rcases h4 with rfl | rfl | rfl
    · exact k10_0 ((Int32.toInt_inj (y := 0)).mp h3)
    · exact k10_1 ((Int32.toInt_inj (y := 1)).mp h3)
    · exact k10_2 ((Int32.toInt_inj (y := 2)).mp h3)
  refine lv_tableOut (tgt := 68) hx hb dX6_count_10 (tab_out 0 2 hto10) (by decide) ?_
  refine lv_aload_n hx hb dX6_count_68 rfl (lv_at hl 0 rfl) ?_
  refine va_get (D := D) (ci := 8) (C := RX6) (T := TX6) (N := 9) hx hb hts inX6 hown hK hP (270) g_270 rfl 0 (by decide) (hts (.fieldLink RX6 12 "TileRunners" "world" "LTileRunners$World;") (List.mem_of_getElem? (i := 1) rfl)) (fun _ h9 => h9) rfl dX6_count_69 ?_
  refine va_get (D := D) (ci := 7) (C := RX5) (T := TX5) (N := 7) hx hb hts inX5 hown hK hP (18*0+0) (g_o (by decide)) rfl 0 (by decide) (hts (.fieldLink RX6 71 "TileRunners$World" "tiles" "LTileRunners$Tiles;") (List.mem_of_getElem? (i := 4) rfl)) (fun _ h9 => h9) rfl dX6_count_72 ?_
  refine lv_bipush (v := 10) hx hb dX6_count_75 (by decide) ?_
  have hP := f_eta 0 hP
  refine va_calli (va_runV (As := [.int 10]) (rest := []) ⟨hx, hb, hml, hown, hts⟩ (c4_countOf l hA σ6 (σ6 0) 0 (by decide) 10 ) (cwV 1 hts gX6_count_X4_countOf rfl rfl rfl hd_X4_countOfV ⟨Nat.le_of_ble_eq_true rfl, Nat.le_of_ble_eq_true rfl⟩) ⟨hp_blind, va_recv hK hP (ci := 6) (q0 := 18*0+1) rfl (c_t (by decide)), hp_pre hK hN hP⟩ rfl rfl hl.1 rfl (lv_room (Nat.le_of_ble_eq_true rfl)) dX6_count_77 ⟨Nat.le_of_ble_eq_true rfl, Nat.le_of_ble_eq_true rfl⟩) hS (fun _ _ h => h) (fun _ h => h) (fun r77 _ t H locs ht hvm hw9 hB hz1 hk1 hS => ?_)
  have hP := ho_at ht hB
  have eq77 := hw9
  rw [up_eta] at hP
  have hF := bnd_s eq77 hF
  exact vx_ret (W.widen (Nat.le_of_ble_eq_true rfl) (Nat.le_of_ble_eq_true rfl) (W.iret (v := r77) hx hb hr (fun t ht hW => ⟨⟨r77, σ6, rfl, ⟨hF.trans hFF, hO⟩, ho_of ht hP⟩, hS.F ht⟩) hS.2.2 dX6_count_80))
theorem hd_X6_countV : yX6_count.cls = RX6 ∧ yX6_count.cls ≠ "java/lang/invoke/MethodHandle" ∧ yX6_count.cls ≠ "java/lang/invoke/VarHandle" ∧ (parseMethodDescriptor yX6_count.desc).map (fun d => d.parameters.length) = some 1 := by decide +kernel
set_option maxHeartbeats 4000000 in
set_option maxRecDepth 100000 in
theorem c6_statistic (l : Launch) (hl0 : l.stackTraces = false) {D : va_G} {G : CY} {ad : Nat → Nat} {B0 : Nat} (hA : adOK B0 ad) (σ : Nat → Nat → Int32) (a : Int32) (b : Int32) (hO : okS σ) : vx_Met l yX6_statistic wsX6_statistic { frames := 7, cells := 3, slots := 18, locals := 117 } (va_Pc [.ref (ad (270)), .int a, .int b] (Hx XEs D G ad B0 σ)) (va_Qi (fun (r : Int32) (z : Nat → Nat → Int32) => ((Sum.inl r, z) : RT) = f6_statistic σ a b ∧ okS z) (fun (z : Nat → Nat → Int32) => Ho D G ad z) (AA B0)) (XX D G ad B0 (fun E z => ((Sum.inr E, z) : RT) = f6_statistic σ a b ∧ okS z)) 3 18 (AA B0) := by
  refine vx_ofW (cc := cX6_statistic) (maxL := 3) (ret := (some .int)) (by decide) rfl ?_
  intro p e s m args below meth c s₁ B hml htab hv
  obtain ⟨rfl, ⟨hP, hK, hN⟩, hT, hL, adK, adV, hG, hR⟩ := hv
  have hx := B.exec
  have hb := B.bytes
  have hr := B.returns
  have hts := atoms_spec (ws := wsX6_statistic) B.pre
  have hown : s.vm.findClass RX6 = some m.cls := findClass_of_methodNamed B.named
  have hlocks := B.notSynchronized
  have inX0 : ∀ w ∈ wsX00, w ∈ wsX6_statistic := (fun w h => List.mem_cons_of_mem _ (List.mem_append_left _ (List.mem_append_left _ (List.mem_append_left _ (List.mem_append_right _ h)))))
  have inX5 : ∀ w ∈ wsX50, w ∈ wsX6_statistic := (fun w h => List.mem_cons_of_mem _ (List.mem_append_left _ (List.mem_append_left _ (List.mem_append_left _ (List.mem_append_left _ (List.mem_append_right _ h))))))
  have inX6 : ∀ w ∈ wsX60, w ∈ wsX6_statistic := (fun w h => List.mem_cons_of_mem _ (List.mem_append_left _ (List.mem_append_left _ (List.mem_append_left _ (List.mem_append_left _ (List.mem_append_left _ (List.mem_append_right _ h)))))))
  have hP : va_P D vwCl (pool G ad σ) s.heap := hP
  have hS : va_S (AA B0) s.heap s.heap [] := va_S.rf
  have hl := lv_entry ([.ref (ad (270)), .int a, .int b]) (n := 3) (Nat.le_of_ble_eq_true rfl)
  rw [lg_entry_eq]
  generalize (lg_sl ([.ref (ad (270)), .int a, .int b]) ++ List.replicate (3 - (lg_sl ([.ref (ad (270)), .int a, .int b])).length) Slot.unset).toArray = ls at hl ⊢
  have hl : lv_has ls 3 [(0, .ref (ad (270))), (1, .int a), (2, .int b)] := hl
  obtain ⟨FF, hFF⟩ : ∃ z, z = f6_statistic σ a b := ⟨_, rfl⟩
  have hF := hFF.symm
  rw [f6_statistic] at hF
  refine lv_aload_n hx hb dX6_statistic_0 rfl (lv_at hl 0 rfl) ?_
  refine lv_iload_n hx hb dX6_statistic_1 rfl (lv_at hl 1 rfl) ?_
  refine vx_callv (vx_runV (As := [.int a]) (rest := []) ⟨hx, hb, hml, hown, hts⟩ (c6_requireBody l hl0 hA σ a hO) (cwV 1 hts gX6_statistic_X6_requireBody rfl rfl rfl hd_X6_requireBodyV ⟨Nat.le_of_ble_eq_true rfl, Nat.le_of_ble_eq_true rfl⟩) ⟨hx_blind, va_recv hK hP (ci := 8) (q0 := 270) rfl g_270, hx_pre hK hN hT hL hG hR hS hP⟩ rfl rfl hl.1 rfl (lv_room (Nat.le_of_ble_eq_true rfl)) dX6_statistic_2 ⟨Nat.le_of_ble_eq_true rfl, Nat.le_of_ble_eq_true rfl⟩) hS (fun _ _ h => h) (fun _ h => h) (fun _ _ h => h) (fun E9 ce9 q9 z9 t9 H9 locs9 ht9 hvm9 hw9 hB9 hz9 hk9 hS9 hce9 hcv9 hcl9 => ?_) (fun u9 t H locs ht hvm hw9 hB hz1 hk1 hS => ?_)
  · obtain ⟨eqx, okx⟩ := hw9
    obtain ⟨rfl, hBx⟩ := hB9
    have hF := bndx_x eqx hF
    exact vx_out (fun x hx => (htab x hx).elim) hlocks hce9 hcv9 hcl9 (fun t8 h8 _ => ⟨z9, ⟨hF.trans hFF, okx⟩, ⟨rfl, ho_of h8 (ho_at ht9 hBx)⟩, hS9.F h8⟩) hS9.2.2 (Nat.le_of_ble_eq_true rfl) (Nat.le_of_ble_eq_true rfl)
  have hP := ho_at ht hB
  obtain ⟨eq2, ok9⟩ := hw9
  obtain ⟨σ2, e_σ2⟩ : ∃ z, z = u9 := ⟨_, rfl⟩
  rw [← e_σ2] at hP eq2 ok9
  have hO := ok9
  have hF := bndx_s eq2 hF
  have hi9 : vp_in a 4 := in_body hO eq2
  refine lv_iload_n hx hb dX6_statistic_5 rfl (lv_at hl 2 rfl) ?_
  refine lv_iconst (v := 0) hx hb dX6_statistic_6 (by decide) ?_
  refine lv_bipush (v := 6) hx hb dX6_statistic_7 (by decide) ?_
  refine va_calli (va_runS (As := [.int b, .int 0, .int 6]) (rest := []) ⟨hx, hb, hml, hown, hts⟩ (c6_isWithin l hA σ2 b 0 6 ) (va_cwS 3 hts gX6_statistic_X6_isWithin rfl rfl rfl hd_X6_isWithinS ⟨Nat.le_of_ble_eq_true rfl, Nat.le_of_ble_eq_true rfl⟩) ⟨hp_blind, hp_pre hK hN hP⟩ rfl rfl hl.1 rfl (lv_room (Nat.le_of_ble_eq_true rfl)) dX6_statistic_9 ⟨Nat.le_of_ble_eq_true rfl, Nat.le_of_ble_eq_true rfl⟩) hS (fun _ _ h => h) (fun _ h => h) (fun r9 _ t H locs ht hvm hw9 hB hz1 hk1 hS => ?_)
  have hP := ho_at ht hB
  obtain ⟨eq9, hb_r9⟩ := hw9
  have hF := bnd_s eq9 hF
  refine vx_callv (vx_runS (As := [.int r9]) (rest := []) ⟨hx, hb, hml, hown, hts⟩ (c6_require l hl0 hA σ2 r9 hO hb_r9) (va_cwS 1 hts gX6_statistic_X6_require rfl rfl rfl hd_X6_requireS ⟨Nat.le_of_ble_eq_true rfl, Nat.le_of_ble_eq_true rfl⟩) ⟨hx_blind, hx_pre hK hN hT hL hG hR hS hP⟩ rfl rfl hl.1 rfl (lv_room (Nat.le_of_ble_eq_true rfl)) dX6_statistic_12 ⟨Nat.le_of_ble_eq_true rfl, Nat.le_of_ble_eq_true rfl⟩) hS (fun _ _ h => h) (fun _ h => h) (fun _ _ h => h) (fun E9 ce9 q9 z9 t9 H9 locs9 ht9 hvm9 hw9 hB9 hz9 hk9 hS9 hce9 hcv9 hcl9 => ?_) (fun u9 t H locs ht hvm hw9 hB hz1 hk1 hS => ?_)
  · obtain ⟨eqx, okx⟩ := hw9
    obtain ⟨rfl, hBx⟩ := hB9
    have hF := bndx_x eqx hF
    exact vx_out (fun x hx => (htab x hx).elim) hlocks hce9 hcv9 hcl9 (fun t8 h8 _ => ⟨z9, ⟨hF.trans hFF, okx⟩, ⟨rfl, ho_of h8 (ho_at ht9 hBx)⟩, hS9.F h8⟩) hS9.2.2 (Nat.le_of_ble_eq_true rfl) (Nat.le_of_ble_eq_true rfl)
  have hP := ho_at ht hB
  obtain ⟨eq12, ok9⟩ := hw9
  obtain ⟨σ12, e_σ12⟩ : ∃ z, z = u9 := ⟨_, rfl⟩
  rw [← e_σ12] at hP eq12 ok9
  have hO := ok9
  have hF := bndx_s eq12 hF
  refine lv_aload_n hx hb dX6_statistic_15 rfl (lv_at hl 0 rfl) ?_
  refine va_get (D := D) (ci := 8) (C := RX6) (T := TX6) (N := 9) hx hb hts inX6 hown hK hP (270) g_270 rfl 0 (by decide) (hts (.fieldLink RX6 12 "TileRunners" "world" "LTileRunners$World;") (List.mem_of_getElem? (i := 1) rfl)) (fun _ h9 => h9) rfl dX6_statistic_16 ?_
  refine va_get (D := D) (ci := 7) (C := RX5) (T := TX5) (N := 7) hx hb hts inX5 hown hK hP (18*0+0) (g_o (by decide)) rfl 1 (by decide) (hts (.fieldLink RX6 102 "TileRunners$World" "bodies" "[LTileRunners$Body;") (List.mem_of_getElem? (i := 2) rfl)) (fun _ h9 => h9) rfl dX6_statistic_19 ?_
  refine lv_iload_n hx hb dX6_statistic_22 rfl (lv_at hl 1 rfl) ?_
  have hi_23 : a.toNatClampNeg < 4 := in_lt (i := a) hi9
  refine pqald (t0 := 2) (i := a) hx hb hK hP (c_bs (by decide)) rfl hi9 dX6_statistic_23 ?_
  refine va_get (D := D) (ci := 2) (C := RX0) (T := TX0) (N := 16) hx hb hts inX0 hown hK hP (18*0+(6+2*a.toNatClampNeg)) (g_b (by decide) hi_23) rfl 15 (by decide) (hts (.fieldLink RX6 239 "TileRunners$Body" "statistics" "[I") (List.mem_of_getElem? (i := 3) rfl)) (fun _ h9 => h9) rfl dX6_statistic_24 ?_
  refine lv_iload_n hx hb dX6_statistic_27 rfl (lv_at hl 2 rfl) ?_
  refine pald (n := 7) (o := 336+24*a.toNatClampNeg+14) (t := 336+24*a.toNatClampNeg+14+b.toNatClampNeg) (i := b) hx hb hK hP (g_s (by decide) hi_23) (in_w7 eq9 eq12) rfl dX6_statistic_28 ?_
  exact vx_ret (W.widen (Nat.le_of_ble_eq_true rfl) (Nat.le_of_ble_eq_true rfl) (W.iret (v := (σ12 0 (336+24*a.toNatClampNeg+14+b.toNatClampNeg))) hx hb hr (fun t ht hW => ⟨⟨(σ12 0 (336+24*a.toNatClampNeg+14+b.toNatClampNeg)), σ12, rfl, ⟨hF.trans hFF, hO⟩, ho_of ht hP⟩, hS.F ht⟩) hS.2.2 dX6_statistic_29))
theorem hd_X6_statisticV : yX6_statistic.cls = RX6 ∧ yX6_statistic.cls ≠ "java/lang/invoke/MethodHandle" ∧ yX6_statistic.cls ≠ "java/lang/invoke/VarHandle" ∧ (parseMethodDescriptor yX6_statistic.desc).map (fun d => d.parameters.length) = some 2 := by decide +kernel
set_option maxHeartbeats 4000000 in
set_option maxRecDepth 100000 in
theorem c6_support (l : Launch) (hl0 : l.stackTraces = false) {D : va_G} {G : CY} {ad : Nat → Nat} {B0 : Nat} (hA : adOK B0 ad) (σ : Nat → Nat → Int32) (a : Int32) (hO : okS σ) : vx_Met l yX6_support wsX6_support { frames := 7, cells := 2, slots := 12, locals := 117 } (va_Pc [.ref (ad (270)), .int a] (Hx XEs D G ad B0 σ)) (va_Qi (fun (r : Int32) (z : Nat → Nat → Int32) => ((Sum.inl r, z) : RT) = f6_support σ a ∧ okS z) (fun (z : Nat → Nat → Int32) => Ho D G ad z) (AA B0)) (XX D G ad B0 (fun E z => ((Sum.inr E, z) : RT) = f6_support σ a ∧ okS z)) 2 12 (AA B0) := by
  refine vx_ofW (cc := cX6_support) (maxL := 3) (ret := (some .int)) (by decide) rfl ?_
  intro p e s m args below meth c s₁ B hml htab hv
  obtain ⟨rfl, ⟨hP, hK, hN⟩, hT, hL, adK, adV, hG, hR⟩ := hv
  have hx := B.exec
  have hb := B.bytes
  have hr := B.returns
  have hts := atoms_spec (ws := wsX6_support) B.pre
  have hown : s.vm.findClass RX6 = some m.cls := findClass_of_methodNamed B.named
  have hlocks := B.notSynchronized
  have inX0 : ∀ w ∈ wsX00, w ∈ wsX6_support := (fun w h => List.mem_cons_of_mem _ (List.mem_append_left _ (List.mem_append_left _ (List.mem_append_left _ (List.mem_append_left _ (List.mem_append_right _ h))))))
  have inX5 : ∀ w ∈ wsX50, w ∈ wsX6_support := (fun w h => List.mem_cons_of_mem _ (List.mem_append_left _ (List.mem_append_left _ (List.mem_append_left _ (List.mem_append_left _ (List.mem_append_left _ (List.mem_append_right _ h)))))))
  have inX6 : ∀ w ∈ wsX60, w ∈ wsX6_support := (fun w h => List.mem_cons_of_mem _ (List.mem_append_left _ (List.mem_append_left _ (List.mem_append_left _ (List.mem_append_left _ (List.mem_append_left _ (List.mem_append_left _ (List.mem_append_right _ h))))))))
  have hP : va_P D vwCl (pool G ad σ) s.heap := hP
  have hS : va_S (AA B0) s.heap s.heap [] := va_S.rf
  have hl := lv_entry ([.ref (ad (270)), .int a]) (n := 3) (Nat.le_of_ble_eq_true rfl)
  rw [lg_entry_eq]
  generalize (lg_sl ([.ref (ad (270)), .int a]) ++ List.replicate (3 - (lg_sl ([.ref (ad (270)), .int a])).length) Slot.unset).toArray = ls at hl ⊢
  have hl : lv_has ls 3 [(0, .ref (ad (270))), (1, .int a)] := hl
  obtain ⟨FF, hFF⟩ : ∃ z, z = f6_support σ a := ⟨_, rfl⟩
  have hF := hFF.symm
  rw [f6_support] at hF
  refine lv_aload_n hx hb dX6_support_0 rfl (lv_at hl 0 rfl) ?_
  refine lv_iload_n hx hb dX6_support_1 rfl (lv_at hl 1 rfl) ?_
  refine vx_callv (vx_runV (As := [.int a]) (rest := []) ⟨hx, hb, hml, hown, hts⟩ (c6_requireBody l hl0 hA σ a hO) (cwV 1 hts gX6_support_X6_requireBody rfl rfl rfl hd_X6_requireBodyV ⟨Nat.le_of_ble_eq_true rfl, Nat.le_of_ble_eq_true rfl⟩) ⟨hx_blind, va_recv hK hP (ci := 8) (q0 := 270) rfl g_270, hx_pre hK hN hT hL hG hR hS hP⟩ rfl rfl hl.1 rfl (lv_room (Nat.le_of_ble_eq_true rfl)) dX6_support_2 ⟨Nat.le_of_ble_eq_true rfl, Nat.le_of_ble_eq_true rfl⟩) hS (fun _ _ h => h) (fun _ h => h) (fun _ _ h => h) (fun E9 ce9 q9 z9 t9 H9 locs9 ht9 hvm9 hw9 hB9 hz9 hk9 hS9 hce9 hcv9 hcl9 => ?_) (fun u9 t H locs ht hvm hw9 hB hz1 hk1 hS => ?_)
  · obtain ⟨eqx, okx⟩ := hw9
    obtain ⟨rfl, hBx⟩ := hB9
    have hF := bndx_x eqx hF
    exact vx_out (fun x hx => (htab x hx).elim) hlocks hce9 hcv9 hcl9 (fun t8 h8 _ => ⟨z9, ⟨hF.trans hFF, okx⟩, ⟨rfl, ho_of h8 (ho_at ht9 hBx)⟩, hS9.F h8⟩) hS9.2.2 (Nat.le_of_ble_eq_true rfl) (Nat.le_of_ble_eq_true rfl)
  have hP := ho_at ht hB
  obtain ⟨eq2, ok9⟩ := hw9
  obtain ⟨σ2, e_σ2⟩ : ∃ z, z = u9 := ⟨_, rfl⟩
  rw [← e_σ2] at hP eq2 ok9
  have hO := ok9
  have hF := bndx_s eq2 hF
  have hi9 : vp_in a 4 := in_body hO eq2
  refine lv_aload_n hx hb dX6_support_5 rfl (lv_at hl 0 rfl) ?_
  refine va_get (D := D) (ci := 8) (C := RX6) (T := TX6) (N := 9) hx hb hts inX6 hown hK hP (270) g_270 rfl 0 (by decide) (hts (.fieldLink RX6 12 "TileRunners" "world" "LTileRunners$World;") (List.mem_of_getElem? (i := 1) rfl)) (fun _ h9 => h9) rfl dX6_support_6 ?_
  refine va_get (D := D) (ci := 7) (C := RX5) (T := TX5) (N := 7) hx hb hts inX5 hown hK hP (18*0+0) (g_o (by decide)) rfl 1 (by decide) (hts (.fieldLink RX6 102 "TileRunners$World" "bodies" "[LTileRunners$Body;") (List.mem_of_getElem? (i := 2) rfl)) (fun _ h9 => h9) rfl dX6_support_9 ?_
  refine lv_iload_n hx hb dX6_support_12 rfl (lv_at hl 1 rfl) ?_
  have hi_13 : a.toNatClampNeg < 4 := in_lt (i := a) hi9
  refine pqald (t0 := 2) (i := a) hx hb hK hP (c_bs (by decide)) rfl hi9 dX6_support_13 ?_
  refine lv_astore_n (lv' := [(2, .ref (ad (18*0+(6+2*a.toNatClampNeg)))), (0, .ref (ad (270))), (1, .int a)]) hx hb dX6_support_14 rfl hl (by decide) rfl (fun ls hl => ?_)
  refine lv_aload_n hx hb dX6_support_15 rfl (lv_at hl 1 rfl) ?_
  refine va_get (D := D) (ci := 8) (C := RX6) (T := TX6) (N := 9) hx hb hts inX6 hown hK hP (270) g_270 rfl 0 (by decide) (hts (.fieldLink RX6 12 "TileRunners" "world" "LTileRunners$World;") (List.mem_of_getElem? (i := 1) rfl)) (fun _ h9 => h9) rfl dX6_support_16 ?_
  refine lv_aload_n hx hb dX6_support_19 rfl (lv_at hl 0 rfl) ?_
  refine lv_aload_n hx hb dX6_support_20 rfl (lv_at hl 0 rfl) ?_
  refine va_get (D := D) (ci := 2) (C := RX0) (T := TX0) (N := 16) hx hb hts inX0 hown hK hP (18*0+(6+2*a.toNatClampNeg)) (g_b (by decide) hi_13) rfl 0 (by decide) (hts (.fieldLink RX6 206 "TileRunners$Body" "x" "I") (List.mem_of_getElem? (i := 3) rfl)) (fun _ h9 => h9) rfl dX6_support_21 ?_
  refine lv_aload_n hx hb dX6_support_24 rfl (lv_at hl 0 rfl) ?_
  refine va_get (D := D) (ci := 2) (C := RX0) (T := TX0) (N := 16) hx hb hts inX0 hown hK hP (18*0+(6+2*a.toNatClampNeg)) (g_b (by decide) hi_13) rfl 1 (by decide) (hts (.fieldLink RX6 209 "TileRunners$Body" "y" "I") (List.mem_of_getElem? (i := 4) rfl)) (fun _ h9 => h9) rfl dX6_support_25 ?_
  refine lv_iconst (v := (-1)) hx hb dX6_support_28 (by decide) ?_
  have hP := f_eta 0 hP
  refine va_calli (va_runV (As := [.ref (ad (18*0+(6+2*a.toNatClampNeg))), .int (σ2 0 (336+24*a.toNatClampNeg+0)), .int (σ2 0 (336+24*a.toNatClampNeg+1)), .int (-1)]) (rest := []) ⟨hx, hb, hml, hown, hts⟩ (c5_supportAt l hA σ2 (σ2 0) 0 (by decide) a.toNatClampNeg hi_13 (σ2 0 (336+24*a.toNatClampNeg+0)) (σ2 0 (336+24*a.toNatClampNeg+1)) (-1) (hO.1 0 (by decide))) (cwV 4 hts gX6_support_X5_supportAt rfl rfl rfl hd_X5_supportAtV ⟨Nat.le_of_ble_eq_true rfl, Nat.le_of_ble_eq_true rfl⟩) ⟨hp_blind, va_recv hK hP (ci := 7) (q0 := 18*0+0) rfl (c_o (by decide)), hp_pre hK hN hP⟩ rfl rfl hl.1 rfl (lv_room (Nat.le_of_ble_eq_true rfl)) dX6_support_29 ⟨Nat.le_of_ble_eq_true rfl, Nat.le_of_ble_eq_true rfl⟩) hS (fun _ _ h => h) (fun _ h => h) (fun r29 _ t H locs ht hvm hw9 hB hz1 hk1 hS => ?_)
  have hP := ho_at ht hB
  have eq29 := hw9
  rw [up_eta] at hP
  have hF := bnd_s eq29 hF
  exact vx_ret (W.widen (Nat.le_of_ble_eq_true rfl) (Nat.le_of_ble_eq_true rfl) (W.iret (v := r29) hx hb hr (fun t ht hW => ⟨⟨r29, σ2, rfl, ⟨hF.trans hFF, hO⟩, ho_of ht hP⟩, hS.F ht⟩) hS.2.2 dX6_support_32))
theorem hd_X6_supportV : yX6_support.cls = RX6 ∧ yX6_support.cls ≠ "java/lang/invoke/MethodHandle" ∧ yX6_support.cls ≠ "java/lang/invoke/VarHandle" ∧ (parseMethodDescriptor yX6_support.desc).map (fun d => d.parameters.length) = some 1 := by decide +kernel
set_option maxHeartbeats 4000000 in
set_option maxRecDepth 100000 in
theorem c6_stands (l : Launch) (hl0 : l.stackTraces = false) {D : va_G} {G : CY} {ad : Nat → Nat} {B0 : Nat} (hA : adOK B0 ad) (σ : Nat → Nat → Int32) (a : Int32) (hO : okS σ) : vx_Met l yX6_stands wsX6_stands { frames := 7, cells := 2, slots := 12, locals := 117 } (va_Pc [.ref (ad (270)), .int a] (Hx XEs D G ad B0 σ)) (va_Qi (fun (r : Int32) (z : Nat → Nat → Int32) => ((Sum.inl r, z) : RT) = f6_stands σ a ∧ okS z ∧ bl r) (fun (z : Nat → Nat → Int32) => Ho D G ad z) (AA B0)) (XX D G ad B0 (fun E z => ((Sum.inr E, z) : RT) = f6_stands σ a ∧ okS z)) 2 12 (AA B0) := by
  refine vx_ofW (cc := cX6_stands) (maxL := 2) (ret := (some .boolean)) (by decide) rfl ?_
  intro p e s m args below meth c s₁ B hml htab hv
  obtain ⟨rfl, ⟨hP, hK, hN⟩, hT, hL, adK, adV, hG, hR⟩ := hv
  have hx := B.exec
  have hb := B.bytes
  have hr := B.returns
  have hts := atoms_spec (ws := wsX6_stands) B.pre
  have hown : s.vm.findClass RX6 = some m.cls := findClass_of_methodNamed B.named
  have hlocks := B.notSynchronized
  have inX5 : ∀ w ∈ wsX50, w ∈ wsX6_stands := (fun w h => List.mem_cons_of_mem _ (List.mem_append_left _ (List.mem_append_left _ (List.mem_append_left _ (List.mem_append_left _ (List.mem_append_left _ (List.mem_append_right _ h)))))))
  have inX6 : ∀ w ∈ wsX60, w ∈ wsX6_stands := (fun w h => List.mem_cons_of_mem _ (List.mem_append_left _ (List.mem_append_left _ (List.mem_append_left _ (List.mem_append_left _ (List.mem_append_left _ (List.mem_append_left _ (List.mem_append_right _ h))))))))
  have hP : va_P D vwCl (pool G ad σ) s.heap := hP
  have hS : va_S (AA B0) s.heap s.heap [] := va_S.rf
  have hl := lv_entry ([.ref (ad (270)), .int a]) (n := 2) (Nat.le_of_ble_eq_true rfl)
  rw [lg_entry_eq]
  generalize (lg_sl ([.ref (ad (270)), .int a]) ++ List.replicate (2 - (lg_sl ([.ref (ad (270)), .int a])).length) Slot.unset).toArray = ls at hl ⊢
  have hl : lv_has ls 2 [(0, .ref (ad (270))), (1, .int a)] := hl
  obtain ⟨FF, hFF⟩ : ∃ z, z = f6_stands σ a := ⟨_, rfl⟩
  have hF := hFF.symm
  rw [f6_stands] at hF
  refine lv_aload_n hx hb dX6_stands_0 rfl (lv_at hl 0 rfl) ?_
  refine lv_iload_n hx hb dX6_stands_1 rfl (lv_at hl 1 rfl) ?_
  refine vx_callv (vx_runV (As := [.int a]) (rest := []) ⟨hx, hb, hml, hown, hts⟩ (c6_requireBody l hl0 hA σ a hO) (cwV 1 hts gX6_stands_X6_requireBody rfl rfl rfl hd_X6_requireBodyV ⟨Nat.le_of_ble_eq_true rfl, Nat.le_of_ble_eq_true rfl⟩) ⟨hx_blind, va_recv hK hP (ci := 8) (q0 := 270) rfl g_270, hx_pre hK hN hT hL hG hR hS hP⟩ rfl rfl hl.1 rfl (lv_room (Nat.le_of_ble_eq_true rfl)) dX6_stands_2 ⟨Nat.le_of_ble_eq_true rfl, Nat.le_of_ble_eq_true rfl⟩) hS (fun _ _ h => h) (fun _ h => h) (fun _ _ h => h) (fun E9 ce9 q9 z9 t9 H9 locs9 ht9 hvm9 hw9 hB9 hz9 hk9 hS9 hce9 hcv9 hcl9 => ?_) (fun u9 t H locs ht hvm hw9 hB hz1 hk1 hS => ?_)
  · obtain ⟨eqx, okx⟩ := hw9
    obtain ⟨rfl, hBx⟩ := hB9
    have hF := bndx_x eqx hF
    exact vx_out (fun x hx => (htab x hx).elim) hlocks hce9 hcv9 hcl9 (fun t8 h8 _ => ⟨z9, ⟨hF.trans hFF, okx⟩, ⟨rfl, ho_of h8 (ho_at ht9 hBx)⟩, hS9.F h8⟩) hS9.2.2 (Nat.le_of_ble_eq_true rfl) (Nat.le_of_ble_eq_true rfl)
  have hP := ho_at ht hB
  obtain ⟨eq2, ok9⟩ := hw9
  obtain ⟨σ2, e_σ2⟩ : ∃ z, z = u9 := ⟨_, rfl⟩
  rw [← e_σ2] at hP eq2 ok9
  have hO := ok9
  have hF := bndx_s eq2 hF
  have hi9 : vp_in a 4 := in_body hO eq2
  refine lv_aload_n hx hb dX6_stands_5 rfl (lv_at hl 0 rfl) ?_
  refine va_get (D := D) (ci := 8) (C := RX6) (T := TX6) (N := 9) hx hb hts inX6 hown hK hP (270) g_270 rfl 0 (by decide) (hts (.fieldLink RX6 12 "TileRunners" "world" "LTileRunners$World;") (List.mem_of_getElem? (i := 1) rfl)) (fun _ h9 => h9) rfl dX6_stands_6 ?_
  refine lv_aload_n hx hb dX6_stands_9 rfl (lv_at hl 0 rfl) ?_
  refine va_get (D := D) (ci := 8) (C := RX6) (T := TX6) (N := 9) hx hb hts inX6 hown hK hP (270) g_270 rfl 0 (by decide) (hts (.fieldLink RX6 12 "TileRunners" "world" "LTileRunners$World;") (List.mem_of_getElem? (i := 1) rfl)) (fun _ h9 => h9) rfl dX6_stands_10 ?_
  refine va_get (D := D) (ci := 7) (C := RX5) (T := TX5) (N := 7) hx hb hts inX5 hown hK hP (18*0+0) (g_o (by decide)) rfl 1 (by decide) (hts (.fieldLink RX6 102 "TileRunners$World" "bodies" "[LTileRunners$Body;") (List.mem_of_getElem? (i := 2) rfl)) (fun _ h9 => h9) rfl dX6_stands_13 ?_
  refine lv_iload_n hx hb dX6_stands_16 rfl (lv_at hl 1 rfl) ?_
  have hi_17 : a.toNatClampNeg < 4 := in_lt (i := a) hi9
  refine pqald (t0 := 2) (i := a) hx hb hK hP (c_bs (by decide)) rfl hi9 dX6_stands_17 ?_
  have hP := f_eta 0 hP
  refine va_calli (va_runV (As := [.ref (ad (18*0+(6+2*a.toNatClampNeg)))]) (rest := []) ⟨hx, hb, hml, hown, hts⟩ (c5_isStanding l hA σ2 (σ2 0) 0 (by decide) a.toNatClampNeg hi_17 (hO.1 0 (by decide))) (cwV 1 hts gX6_stands_X5_isStanding rfl rfl rfl hd_X5_isStandingV ⟨Nat.le_of_ble_eq_true rfl, Nat.le_of_ble_eq_true rfl⟩) ⟨hp_blind, va_recv hK hP (ci := 7) (q0 := 18*0+0) rfl (c_o (by decide)), hp_pre hK hN hP⟩ rfl rfl hl.1 rfl (lv_room (Nat.le_of_ble_eq_true rfl)) dX6_stands_18 ⟨Nat.le_of_ble_eq_true rfl, Nat.le_of_ble_eq_true rfl⟩) hS (fun _ _ h => h) (fun _ h => h) (fun r18 _ t H locs ht hvm hw9 hB hz1 hk1 hS => ?_)
  have hP := ho_at ht hB
  obtain ⟨eq18, hb_r18⟩ := hw9
  rw [up_eta] at hP
  have hF := bnd_s eq18 hF
  exact vx_ret (W.widen (Nat.le_of_ble_eq_true rfl) (Nat.le_of_ble_eq_true rfl) (W.zret (v := r18) hx hb hr (bl_nar hb_r18) (fun t ht hW => ⟨⟨r18, σ2, rfl, ⟨hF.trans hFF, hO, hb_r18⟩, ho_of ht hP⟩, hS.F ht⟩) hS.2.2 dX6_stands_21))
theorem hd_X6_standsV : yX6_stands.cls = RX6 ∧ yX6_stands.cls ≠ "java/lang/invoke/MethodHandle" ∧ yX6_stands.cls ≠ "java/lang/invoke/VarHandle" ∧ (parseMethodDescriptor yX6_stands.desc).map (fun d => d.parameters.length) = some 1 := by decide +kernel
set_option maxHeartbeats 4000000 in
set_option maxRecDepth 100000 in
theorem c6_below (l : Launch) (hl0 : l.stackTraces = false) {D : va_G} {G : CY} {ad : Nat → Nat} {B0 : Nat} (hA : adOK B0 ad) (σ : Nat → Nat → Int32) (a : Int32) (hO : okS σ) : vx_Met l yX6_below wsX6_below { frames := 7, cells := 2, slots := 12, locals := 117 } (va_Pc [.ref (ad (270)), .int a] (Hx XEs D G ad B0 σ)) (va_Qi (fun (r : Int32) (z : Nat → Nat → Int32) => ((Sum.inl r, z) : RT) = f6_below σ a ∧ okS z) (fun (z : Nat → Nat → Int32) => Ho D G ad z) (AA B0)) (XX D G ad B0 (fun E z => ((Sum.inr E, z) : RT) = f6_below σ a ∧ okS z)) 2 12 (AA B0) := by
  refine vx_ofW (cc := cX6_below) (maxL := 3) (ret := (some .int)) (by decide) rfl ?_
  intro p e s m args below meth c s₁ B hml htab hv
  obtain ⟨rfl, ⟨hP, hK, hN⟩, hT, hL, adK, adV, hG, hR⟩ := hv
  have hx := B.exec
  have hb := B.bytes
  have hr := B.returns
  have hts := atoms_spec (ws := wsX6_below) B.pre
  have hown : s.vm.findClass RX6 = some m.cls := findClass_of_methodNamed B.named
  have hlocks := B.notSynchronized
  have inX0 : ∀ w ∈ wsX00, w ∈ wsX6_below := (fun w h => List.mem_cons_of_mem _ (List.mem_append_left _ (List.mem_append_left _ (List.mem_append_left _ (List.mem_append_right _ h)))))
  have inX5 : ∀ w ∈ wsX50, w ∈ wsX6_below := (fun w h => List.mem_cons_of_mem _ (List.mem_append_left _ (List.mem_append_left _ (List.mem_append_left _ (List.mem_append_left _ (List.mem_append_right _ h))))))
  have inX6 : ∀ w ∈ wsX60, w ∈ wsX6_below := (fun w h => List.mem_cons_of_mem _ (List.mem_append_left _ (List.mem_append_left _ (List.mem_append_left _ (List.mem_append_left _ (List.mem_append_left _ (List.mem_append_right _ h)))))))
  have hP : va_P D vwCl (pool G ad σ) s.heap := hP
  have hS : va_S (AA B0) s.heap s.heap [] := va_S.rf
  have hl := lv_entry ([.ref (ad (270)), .int a]) (n := 3) (Nat.le_of_ble_eq_true rfl)
  rw [lg_entry_eq]
  generalize (lg_sl ([.ref (ad (270)), .int a]) ++ List.replicate (3 - (lg_sl ([.ref (ad (270)), .int a])).length) Slot.unset).toArray = ls at hl ⊢
  have hl : lv_has ls 3 [(0, .ref (ad (270))), (1, .int a)] := hl
  obtain ⟨FF, hFF⟩ : ∃ z, z = f6_below σ a := ⟨_, rfl⟩
  have hF := hFF.symm
  rw [f6_below] at hF
  refine lv_aload_n hx hb dX6_below_0 rfl (lv_at hl 0 rfl) ?_
  refine lv_iload_n hx hb dX6_below_1 rfl (lv_at hl 1 rfl) ?_
  refine vx_callv (vx_runV (As := [.int a]) (rest := []) ⟨hx, hb, hml, hown, hts⟩ (c6_requireBody l hl0 hA σ a hO) (cwV 1 hts gX6_below_X6_requireBody rfl rfl rfl hd_X6_requireBodyV ⟨Nat.le_of_ble_eq_true rfl, Nat.le_of_ble_eq_true rfl⟩) ⟨hx_blind, va_recv hK hP (ci := 8) (q0 := 270) rfl g_270, hx_pre hK hN hT hL hG hR hS hP⟩ rfl rfl hl.1 rfl (lv_room (Nat.le_of_ble_eq_true rfl)) dX6_below_2 ⟨Nat.le_of_ble_eq_true rfl, Nat.le_of_ble_eq_true rfl⟩) hS (fun _ _ h => h) (fun _ h => h) (fun _ _ h => h) (fun E9 ce9 q9 z9 t9 H9 locs9 ht9 hvm9 hw9 hB9 hz9 hk9 hS9 hce9 hcv9 hcl9 => ?_) (fun u9 t H locs ht hvm hw9 hB hz1 hk1 hS => ?_)
  · obtain ⟨eqx, okx⟩ := hw9
    obtain ⟨rfl, hBx⟩ := hB9
    have hF := bndx_x eqx hF
    exact vx_out (fun x hx => (htab x hx).elim) hlocks hce9 hcv9 hcl9 (fun t8 h8 _ => ⟨z9, ⟨hF.trans hFF, okx⟩, ⟨rfl, ho_of h8 (ho_at ht9 hBx)⟩, hS9.F h8⟩) hS9.2.2 (Nat.le_of_ble_eq_true rfl) (Nat.le_of_ble_eq_true rfl)
  have hP := ho_at ht hB
  obtain ⟨eq2, ok9⟩ := hw9
  obtain ⟨σ2, e_σ2⟩ : ∃ z, z = u9 := ⟨_, rfl⟩
  rw [← e_σ2] at hP eq2 ok9
  have hO := ok9
  have hF := bndx_s eq2 hF
  have hi9 : vp_in a 4 := in_body hO eq2
  refine lv_aload_n hx hb dX6_below_5 rfl (lv_at hl 0 rfl) ?_
  refine va_get (D := D) (ci := 8) (C := RX6) (T := TX6) (N := 9) hx hb hts inX6 hown hK hP (270) g_270 rfl 0 (by decide) (hts (.fieldLink RX6 12 "TileRunners" "world" "LTileRunners$World;") (List.mem_of_getElem? (i := 1) rfl)) (fun _ h9 => h9) rfl dX6_below_6 ?_
  refine va_get (D := D) (ci := 7) (C := RX5) (T := TX5) (N := 7) hx hb hts inX5 hown hK hP (18*0+0) (g_o (by decide)) rfl 1 (by decide) (hts (.fieldLink RX6 102 "TileRunners$World" "bodies" "[LTileRunners$Body;") (List.mem_of_getElem? (i := 2) rfl)) (fun _ h9 => h9) rfl dX6_below_9 ?_
  refine lv_iload_n hx hb dX6_below_12 rfl (lv_at hl 1 rfl) ?_
  have hi_13 : a.toNatClampNeg < 4 := in_lt (i := a) hi9
  refine pqald (t0 := 2) (i := a) hx hb hK hP (c_bs (by decide)) rfl hi9 dX6_below_13 ?_
  refine lv_astore_n (lv' := [(2, .ref (ad (18*0+(6+2*a.toNatClampNeg)))), (0, .ref (ad (270))), (1, .int a)]) hx hb dX6_below_14 rfl hl (by decide) rfl (fun ls hl => ?_)
  refine lv_aload_n hx hb dX6_below_15 rfl (lv_at hl 1 rfl) ?_
  refine va_get (D := D) (ci := 8) (C := RX6) (T := TX6) (N := 9) hx hb hts inX6 hown hK hP (270) g_270 rfl 0 (by decide) (hts (.fieldLink RX6 12 "TileRunners" "world" "LTileRunners$World;") (List.mem_of_getElem? (i := 1) rfl)) (fun _ h9 => h9) rfl dX6_below_16 ?_
  refine va_get (D := D) (ci := 7) (C := RX5) (T := TX5) (N := 7) hx hb hts inX5 hown hK hP (18*0+0) (g_o (by decide)) rfl 0 (by decide) (hts (.fieldLink RX6 71 "TileRunners$World" "tiles" "LTileRunners$Tiles;") (List.mem_of_getElem? (i := 3) rfl)) (fun _ h9 => h9) rfl dX6_below_19 ?_
  refine lv_aload_n hx hb dX6_below_22 rfl (lv_at hl 0 rfl) ?_
  refine lv_aload_n hx hb dX6_below_23 rfl (lv_at hl 0 rfl) ?_
  refine va_get (D := D) (ci := 2) (C := RX0) (T := TX0) (N := 16) hx hb hts inX0 hown hK hP (18*0+(6+2*a.toNatClampNeg)) (g_b (by decide) hi_13) rfl 0 (by decide) (hts (.fieldLink RX6 206 "TileRunners$Body" "x" "I") (List.mem_of_getElem? (i := 4) rfl)) (fun _ h9 => h9) rfl dX6_below_24 ?_
  refine lv_aload_n hx hb dX6_below_27 rfl (lv_at hl 0 rfl) ?_
  refine va_get (D := D) (ci := 2) (C := RX0) (T := TX0) (N := 16) hx hb hts inX0 hown hK hP (18*0+(6+2*a.toNatClampNeg)) (g_b (by decide) hi_13) rfl 1 (by decide) (hts (.fieldLink RX6 209 "TileRunners$Body" "y" "I") (List.mem_of_getElem? (i := 5) rfl)) (fun _ h9 => h9) rfl dX6_below_28 ?_
  have hP := f_eta 0 hP
  refine va_calli (va_runV (As := [.ref (ad (18*0+(6+2*a.toNatClampNeg))), .int (σ2 0 (336+24*a.toNatClampNeg+0)), .int (σ2 0 (336+24*a.toNatClampNeg+1))]) (rest := []) ⟨hx, hb, hml, hown, hts⟩ (c4_firmKindsBelow l hA σ2 (σ2 0) 0 (by decide) a.toNatClampNeg hi_13 (σ2 0 (336+24*a.toNatClampNeg+0)) (σ2 0 (336+24*a.toNatClampNeg+1)) ) (cwV 3 hts gX6_below_X4_firmKindsBelow rfl rfl rfl hd_X4_firmKindsBelowV ⟨Nat.le_of_ble_eq_true rfl, Nat.le_of_ble_eq_true rfl⟩) ⟨hp_blind, va_recv hK hP (ci := 6) (q0 := 18*0+1) rfl (c_t (by decide)), hp_pre hK hN hP⟩ rfl rfl hl.1 rfl (lv_room (Nat.le_of_ble_eq_true rfl)) dX6_below_31 ⟨Nat.le_of_ble_eq_true rfl, Nat.le_of_ble_eq_true rfl⟩) hS (fun _ _ h => h) (fun _ h => h) (fun r31 _ t H locs ht hvm hw9 hB hz1 hk1 hS => ?_)
  have hP := ho_at ht hB
  have eq31 := hw9
  rw [up_eta] at hP
  have hF := bnd_s eq31 hF
  exact vx_ret (W.widen (Nat.le_of_ble_eq_true rfl) (Nat.le_of_ble_eq_true rfl) (W.iret (v := r31) hx hb hr (fun t ht hW => ⟨⟨r31, σ2, rfl, ⟨hF.trans hFF, hO⟩, ho_of ht hP⟩, hS.F ht⟩) hS.2.2 dX6_below_34))
theorem hd_X6_belowV : yX6_below.cls = RX6 ∧ yX6_below.cls ≠ "java/lang/invoke/MethodHandle" ∧ yX6_below.cls ≠ "java/lang/invoke/VarHandle" ∧ (parseMethodDescriptor yX6_below.desc).map (fun d => d.parameters.length) = some 1 := by decide +kernel
set_option maxHeartbeats 4000000 in
set_option maxRecDepth 100000 in
theorem c6_isBlocked (l : Launch) (hl0 : l.stackTraces = false) {D : va_G} {G : CY} {ad : Nat → Nat} {B0 : Nat} (hA : adOK B0 ad) (σ : Nat → Nat → Int32) (a : Int32) (b : Int32) (c1 : Int32) (hO : okS σ) : vx_Met l yX6_isBlocked wsX6_isBlocked { frames := 7, cells := 3, slots := 18, locals := 117 } (va_Pc [.ref (ad (270)), .int a, .int b, .int c1] (Hx XEs D G ad B0 σ)) (va_Qi (fun (r : Int32) (z : Nat → Nat → Int32) => ((Sum.inl r, z) : RT) = f6_isBlocked σ a b c1 ∧ okS z ∧ bl r) (fun (z : Nat → Nat → Int32) => Ho D G ad z) (AA B0)) (XX D G ad B0 (fun E z => ((Sum.inr E, z) : RT) = f6_isBlocked σ a b c1 ∧ okS z)) 3 18 (AA B0) := by
  refine vx_ofW (cc := cX6_isBlocked) (maxL := 5) (ret := (some .boolean)) (by decide) rfl ?_
  intro p e s m args below meth c s₁ B hml htab hv
  obtain ⟨rfl, ⟨hP, hK, hN⟩, hT, hL, adK, adV, hG, hR⟩ := hv
  have hx := B.exec
  have hb := B.bytes
  have hr := B.returns
  have hts := atoms_spec (ws := wsX6_isBlocked) B.pre
  have hown : s.vm.findClass RX6 = some m.cls := findClass_of_methodNamed B.named
  have hlocks := B.notSynchronized
  have inX0 : ∀ w ∈ wsX00, w ∈ wsX6_isBlocked := (fun w h => List.mem_cons_of_mem _ (List.mem_append_left _ (List.mem_append_left _ (List.mem_append_left _ (List.mem_append_left _ (List.mem_append_right _ h))))))
  have inX5 : ∀ w ∈ wsX50, w ∈ wsX6_isBlocked := (fun w h => List.mem_cons_of_mem _ (List.mem_append_left _ (List.mem_append_left _ (List.mem_append_left _ (List.mem_append_left _ (List.mem_append_left _ (List.mem_append_right _ h)))))))
  have inX6 : ∀ w ∈ wsX60, w ∈ wsX6_isBlocked := (fun w h => List.mem_cons_of_mem _ (List.mem_append_left _ (List.mem_append_left _ (List.mem_append_left _ (List.mem_append_left _ (List.mem_append_left _ (List.mem_append_left _ (List.mem_append_right _ h))))))))
  have hP : va_P D vwCl (pool G ad σ) s.heap := hP
  have hS : va_S (AA B0) s.heap s.heap [] := va_S.rf
  have hl := lv_entry ([.ref (ad (270)), .int a, .int b, .int c1]) (n := 5) (Nat.le_of_ble_eq_true rfl)
  rw [lg_entry_eq]
  generalize (lg_sl ([.ref (ad (270)), .int a, .int b, .int c1]) ++ List.replicate (5 - (lg_sl ([.ref (ad (270)), .int a, .int b, .int c1])).length) Slot.unset).toArray = ls at hl ⊢
  have hl : lv_has ls 5 [(0, .ref (ad (270))), (1, .int a), (2, .int b), (3, .int c1)] := hl
  obtain ⟨FF, hFF⟩ : ∃ z, z = f6_isBlocked σ a b c1 := ⟨_, rfl⟩
  have hF := hFF.symm
  rw [f6_isBlocked] at hF
  refine lv_aload_n hx hb dX6_isBlocked_0 rfl (lv_at hl 0 rfl) ?_
  refine lv_iload_n hx hb dX6_isBlocked_1 rfl (lv_at hl 1 rfl) ?_
  refine vx_callv (vx_runV (As := [.int a]) (rest := []) ⟨hx, hb, hml, hown, hts⟩ (c6_requireBody l hl0 hA σ a hO) (cwV 1 hts gX6_isBlocked_X6_requireBody rfl rfl rfl hd_X6_requireBodyV ⟨Nat.le_of_ble_eq_true rfl, Nat.le_of_ble_eq_true rfl⟩) ⟨hx_blind, va_recv hK hP (ci := 8) (q0 := 270) rfl g_270, hx_pre hK hN hT hL hG hR hS hP⟩ rfl rfl hl.1 rfl (lv_room (Nat.le_of_ble_eq_true rfl)) dX6_isBlocked_2 ⟨Nat.le_of_ble_eq_true rfl, Nat.le_of_ble_eq_true rfl⟩) hS (fun _ _ h => h) (fun _ h => h) (fun _ _ h => h) (fun E9 ce9 q9 z9 t9 H9 locs9 ht9 hvm9 hw9 hB9 hz9 hk9 hS9 hce9 hcv9 hcl9 => ?_) (fun u9 t H locs ht hvm hw9 hB hz1 hk1 hS => ?_)
  · obtain ⟨eqx, okx⟩ := hw9
    obtain ⟨rfl, hBx⟩ := hB9
    have hF := bndx_x eqx hF
    exact vx_out (fun x hx => (htab x hx).elim) hlocks hce9 hcv9 hcl9 (fun t8 h8 _ => ⟨z9, ⟨hF.trans hFF, okx⟩, ⟨rfl, ho_of h8 (ho_at ht9 hBx)⟩, hS9.F h8⟩) hS9.2.2 (Nat.le_of_ble_eq_true rfl) (Nat.le_of_ble_eq_true rfl)
  have hP := ho_at ht hB
  obtain ⟨eq2, ok9⟩ := hw9
  obtain ⟨σ2, e_σ2⟩ : ∃ z, z = u9 := ⟨_, rfl⟩
  rw [← e_σ2] at hP eq2 ok9
  have hO := ok9
  have hF := bndx_s eq2 hF
  have hi9 : vp_in a 4 := in_body hO eq2
  refine lv_iload_n hx hb dX6_isBlocked_5 rfl (lv_at hl 2 rfl) ?_
  refine lv_sipush (v := (-400)) hx hb dX6_isBlocked_6 (by decide) ?_
  refine lv_sipush (v := 400) hx hb dX6_isBlocked_9 (by decide) ?_
  refine va_calli (va_runS (As := [.int b, .int (-400), .int 400]) (rest := []) ⟨hx, hb, hml, hown, hts⟩ (c6_isWithin l hA σ2 b (-400) 400 ) (va_cwS 3 hts gX6_isBlocked_X6_isWithin rfl rfl rfl hd_X6_isWithinS ⟨Nat.le_of_ble_eq_true rfl, Nat.le_of_ble_eq_true rfl⟩) ⟨hp_blind, hp_pre hK hN hP⟩ rfl rfl hl.1 rfl (lv_room (Nat.le_of_ble_eq_true rfl)) dX6_isBlocked_12 ⟨Nat.le_of_ble_eq_true rfl, Nat.le_of_ble_eq_true rfl⟩) hS (fun _ _ h => h) (fun _ h => h) (fun r12 _ t H locs ht hvm hw9 hB hz1 hk1 hS => ?_)
  have hP := ho_at ht hB
  obtain ⟨eq12, hb_r12⟩ := hw9
  have hF := bnd_s eq12 hF
  have J36 : ∀ (t0_36 : Int32) (H : Heap) (locs : List Loc) (ls : Array Slot), bl t0_36 → va_P D vwCl (pool G ad σ2) H → va_S (AA B0) s.heap H locs → lv_has ls 5 [(0, .ref (ad (270))), (1, .int a), (2, .int b), (3, .int c1)] → f6_isBlocked_b36 a b c1 σ2 t0_36 = FF → W p l e (headSpec wsX6_isBlocked { frames := 7, cells := 3, slots := 18, locals := 117 }).room s m ([.ref (ad (270)), .int a, .int b, .int c1] : List Value).toArray below meth c H locs 1 6 (vx_MQ below (va_Qi (fun (r : Int32) (z : Nat → Nat → Int32) => ((Sum.inl r, z) : RT) = f6_isBlocked σ a b c1 ∧ okS z ∧ bl r) (fun (z : Nat → Nat → Int32) => Ho D G ad z) (AA B0)) (XX D G ad B0 (fun E z => ((Sum.inr E, z) : RT) = f6_isBlocked σ a b c1 ∧ okS z)) ([.ref (ad (270)), .int a, .int b, .int c1] : List Value).toArray s 3 18 (AA B0)) (F0 m 36 ls [.int t0_36]) := by
    intro t0_36 H locs ls hb_t0_36 hP hS hl hF
    rw [f6_isBlocked_b36] at hF
    refine vx_callv (vx_runS (As := [.int t0_36]) (rest := []) ⟨hx, hb, hml, hown, hts⟩ (c6_require l hl0 hA σ2 t0_36 hO hb_t0_36) (va_cwS 1 hts gX6_isBlocked_X6_require rfl rfl rfl hd_X6_requireS ⟨Nat.le_of_ble_eq_true rfl, Nat.le_of_ble_eq_true rfl⟩) ⟨hx_blind, hx_pre hK hN hT hL hG hR hS hP⟩ rfl rfl hl.1 rfl (lv_room (Nat.le_of_ble_eq_true rfl)) dX6_isBlocked_36 ⟨Nat.le_of_ble_eq_true rfl, Nat.le_of_ble_eq_true rfl⟩) hS (fun _ _ h => h) (fun _ h => h) (fun _ _ h => h) (fun E9 ce9 q9 z9 t9 H9 locs9 ht9 hvm9 hw9 hB9 hz9 hk9 hS9 hce9 hcv9 hcl9 => ?_) (fun u9 t H locs ht hvm hw9 hB hz1 hk1 hS => ?_)
    · obtain ⟨eqx, okx⟩ := hw9
      obtain ⟨rfl, hBx⟩ := hB9
      have hF := bndx_x eqx hF
      exact vx_out (fun x hx => (htab x hx).elim) hlocks hce9 hcv9 hcl9 (fun t8 h8 _ => ⟨z9, ⟨hF.trans hFF, okx⟩, ⟨rfl, ho_of h8 (ho_at ht9 hBx)⟩, hS9.F h8⟩) hS9.2.2 (Nat.le_of_ble_eq_true rfl) (Nat.le_of_ble_eq_true rfl)
    have hP := ho_at ht hB
    obtain ⟨eq36, ok9⟩ := hw9
    obtain ⟨σ36, e_σ36⟩ : ∃ z, z = u9 := ⟨_, rfl⟩
    rw [← e_σ36] at hP eq36 ok9
    have hO := ok9
    have hF := bndx_s eq36 hF
    refine lv_aload_n hx hb dX6_isBlocked_39 rfl (lv_at hl 0 rfl) ?_
    refine va_get (D := D) (ci := 8) (C := RX6) (T := TX6) (N := 9) hx hb hts inX6 hown hK hP (270) g_270 rfl 0 (by decide) (hts (.fieldLink RX6 12 "TileRunners" "world" "LTileRunners$World;") (List.mem_of_getElem? (i := 1) rfl)) (fun _ h9 => h9) rfl dX6_isBlocked_40 ?_
    refine va_get (D := D) (ci := 7) (C := RX5) (T := TX5) (N := 7) hx hb hts inX5 hown hK hP (18*0+0) (g_o (by decide)) rfl 1 (by decide) (hts (.fieldLink RX6 102 "TileRunners$World" "bodies" "[LTileRunners$Body;") (List.mem_of_getElem? (i := 2) rfl)) (fun _ h9 => h9) rfl dX6_isBlocked_43 ?_
    refine lv_iload_n hx hb dX6_isBlocked_46 rfl (lv_at hl 1 rfl) ?_
    have hi_47 : a.toNatClampNeg < 4 := in_lt (i := a) hi9
    refine pqald (t0 := 2) (i := a) hx hb hK hP (c_bs (by decide)) rfl hi9 dX6_isBlocked_47 ?_
    refine lv_astore (lv' := [(4, .ref (ad (18*0+(6+2*a.toNatClampNeg)))), (0, .ref (ad (270))), (1, .int a), (2, .int b), (3, .int c1)]) hx hb dX6_isBlocked_48 hl (by decide) rfl (fun ls hl => ?_)
    refine lv_aload_n hx hb dX6_isBlocked_50 rfl (lv_at hl 1 rfl) ?_
    refine va_get (D := D) (ci := 8) (C := RX6) (T := TX6) (N := 9) hx hb hts inX6 hown hK hP (270) g_270 rfl 0 (by decide) (hts (.fieldLink RX6 12 "TileRunners" "world" "LTileRunners$World;") (List.mem_of_getElem? (i := 1) rfl)) (fun _ h9 => h9) rfl dX6_isBlocked_51 ?_
    refine va_get (D := D) (ci := 7) (C := RX5) (T := TX5) (N := 7) hx hb hts inX5 hown hK hP (18*0+0) (g_o (by decide)) rfl 0 (by decide) (hts (.fieldLink RX6 71 "TileRunners$World" "tiles" "LTileRunners$Tiles;") (List.mem_of_getElem? (i := 3) rfl)) (fun _ h9 => h9) rfl dX6_isBlocked_54 ?_
    refine lv_aload hx hb dX6_isBlocked_57 (lv_at hl 0 rfl) ?_
    refine lv_aload hx hb dX6_isBlocked_59 (lv_at hl 0 rfl) ?_
    refine va_get (D := D) (ci := 2) (C := RX0) (T := TX0) (N := 16) hx hb hts inX0 hown hK hP (18*0+(6+2*a.toNatClampNeg)) (g_b (by decide) hi_47) rfl 0 (by decide) (hts (.fieldLink RX6 206 "TileRunners$Body" "x" "I") (List.mem_of_getElem? (i := 4) rfl)) (fun _ h9 => h9) rfl dX6_isBlocked_61 ?_
    refine lv_iload_n hx hb dX6_isBlocked_64 rfl (lv_at hl 3 rfl) ?_
    refine lv_iadd hx hb dX6_isBlocked_65 ?_
    refine lv_aload hx hb dX6_isBlocked_66 (lv_at hl 0 rfl) ?_
    refine va_get (D := D) (ci := 2) (C := RX0) (T := TX0) (N := 16) hx hb hts inX0 hown hK hP (18*0+(6+2*a.toNatClampNeg)) (g_b (by decide) hi_47) rfl 1 (by decide) (hts (.fieldLink RX6 209 "TileRunners$Body" "y" "I") (List.mem_of_getElem? (i := 5) rfl)) (fun _ h9 => h9) rfl dX6_isBlocked_68 ?_
    refine lv_iload_n hx hb dX6_isBlocked_71 rfl (lv_at hl 4 rfl) ?_
    refine lv_iadd hx hb dX6_isBlocked_72 ?_
    have hP := f_eta 0 hP
    refine va_calli (va_runV (As := [.ref (ad (18*0+(6+2*a.toNatClampNeg))), .int ((σ36 0 (336+24*a.toNatClampNeg+0)) + b), .int ((σ36 0 (336+24*a.toNatClampNeg+1)) + c1)]) (rest := []) ⟨hx, hb, hml, hown, hts⟩ (c4_block l hA σ36 (σ36 0) 0 (by decide) a.toNatClampNeg hi_47 ((σ36 0 (336+24*a.toNatClampNeg+0)) + b) ((σ36 0 (336+24*a.toNatClampNeg+1)) + c1) ) (cwV 3 hts gX6_isBlocked_X4_block rfl rfl rfl hd_X4_blockV ⟨Nat.le_of_ble_eq_true rfl, Nat.le_of_ble_eq_true rfl⟩) ⟨hp_blind, va_recv hK hP (ci := 6) (q0 := 18*0+1) rfl (c_t (by decide)), hp_pre hK hN hP⟩ rfl rfl hl.1 rfl (lv_room (Nat.le_of_ble_eq_true rfl)) dX6_isBlocked_73 ⟨Nat.le_of_ble_eq_true rfl, Nat.le_of_ble_eq_true rfl⟩) hS (fun _ _ h => h) (fun _ h => h) (fun r73 _ t H locs ht hvm hw9 hB hz1 hk1 hS => ?_)
    have hP := ho_at ht hB
    obtain ⟨eq73, hb_r73⟩ := hw9
    rw [up_eta] at hP
    have hF := bnd_s eq73 hF
    exact vx_ret (W.widen (Nat.le_of_ble_eq_true rfl) (Nat.le_of_ble_eq_true rfl) (W.zret (v := r73) hx hb hr (bl_nar hb_r73) (fun t ht hW => ⟨⟨r73, σ36, rfl, ⟨hF.trans hFF, hO, hb_r73⟩, ho_of ht hP⟩, hS.F ht⟩) hS.2.2 dX6_isBlocked_76))
  have J35 : ∀  (H : Heap) (locs : List Loc) (ls : Array Slot), va_P D vwCl (pool G ad σ2) H → va_S (AA B0) s.heap H locs → lv_has ls 5 [(0, .ref (ad (270))), (1, .int a), (2, .int b), (3, .int c1)] → f6_isBlocked_b35 a b c1 σ2  = FF → W p l e (headSpec wsX6_isBlocked { frames := 7, cells := 3, slots := 18, locals := 117 }).room s m ([.ref (ad (270)), .int a, .int b, .int c1] : List Value).toArray below meth c H locs 1 6 (vx_MQ below (va_Qi (fun (r : Int32) (z : Nat → Nat → Int32) => ((Sum.inl r, z) : RT) = f6_isBlocked σ a b c1 ∧ okS z ∧ bl r) (fun (z : Nat → Nat → Int32) => Ho D G ad z) (AA B0)) (XX D G ad B0 (fun E z => ((Sum.inr E, z) : RT) = f6_isBlocked σ a b c1 ∧ okS z)) ([.ref (ad (270)), .int a, .int b, .int c1] : List Value).toArray s 3 18 (AA B0)) (F0 m 35 ls []) := by
    intro  H locs ls hP hS hl hF
    rw [f6_isBlocked_b35] at hF
    refine lv_iconst (v := 0) hx hb dX6_isBlocked_35 (by decide) ?_
    exact J36 0 _ _ ls bl0 hP hS (lv_sub hl [0, 1, 2, 3] rfl) hF
  refine lv_if_eq (tgt := 35) hx hb dX6_isBlocked_15 (by decide) (fun c15 => ?_) (fun c15 => ?_)
  · have hF := ift c15 hF
    exact J35  _ _ ls hP hS (lv_sub hl [0, 1, 2, 3] rfl) hF
  · have hF := iff_ c15 hF
    refine lv_iload_n hx hb dX6_isBlocked_18 rfl (lv_at hl 3 rfl) ?_
    refine lv_sipush (v := (-400)) hx hb dX6_isBlocked_19 (by decide) ?_
    refine lv_sipush (v := 400) hx hb dX6_isBlocked_22 (by decide) ?_
    refine va_calli (va_runS (As := [.int c1, .int (-400), .int 400]) (rest := []) ⟨hx, hb, hml, hown, hts⟩ (c6_isWithin l hA σ2 c1 (-400) 400 ) (va_cwS 3 hts gX6_isBlocked_X6_isWithin rfl rfl rfl hd_X6_isWithinS ⟨Nat.le_of_ble_eq_true rfl, Nat.le_of_ble_eq_true rfl⟩) ⟨hp_blind, hp_pre hK hN hP⟩ rfl rfl hl.1 rfl (lv_room (Nat.le_of_ble_eq_true rfl)) dX6_isBlocked_25 ⟨Nat.le_of_ble_eq_true rfl, Nat.le_of_ble_eq_true rfl⟩) hS (fun _ _ h => h) (fun _ h => h) (fun r25 _ t H locs ht hvm hw9 hB hz1 hk1 hS => ?_)
    have hP := ho_at ht hB
    obtain ⟨eq25, hb_r25⟩ := hw9
    have hF := bnd_s eq25 hF
    refine lv_if_eq (tgt := 35) hx hb dX6_isBlocked_28 (by decide) (fun c28 => ?_) (fun c28 => ?_)
    · have hF := ift c28 hF
      exact J35  _ _ ls hP hS (lv_sub hl [0, 1, 2, 3] rfl) hF
    · have hF := iff_ c28 hF
      refine lv_iconst (v := 1) hx hb dX6_isBlocked_31 (by decide) ?_
      refine lv_goto (tgt := 36) hx hb dX6_isBlocked_32 (by decide) ?_
      exact J36 1 _ _ ls bl1 hP hS (lv_sub hl [0, 1, 2, 3] rfl) hF
theorem hd_X6_isBlockedV : yX6_isBlocked.cls = RX6 ∧ yX6_isBlocked.cls ≠ "java/lang/invoke/MethodHandle" ∧ yX6_isBlocked.cls ≠ "java/lang/invoke/VarHandle" ∧ (parseMethodDescriptor yX6_isBlocked.desc).map (fun d => d.parameters.length) = some 3 := by decide +kernel
set_option maxHeartbeats 4000000 in
set_option maxRecDepth 100000 in
theorem c6_drop (l : Launch) (hl0 : l.stackTraces = false) {D : va_G} {G : CY} {ad : Nat → Nat} {B0 : Nat} (hA : adOK B0 ad) (σ : Nat → Nat → Int32) (a : Int32) (hO : okS σ) : vx_Met l yX6_drop wsX6_drop { frames := 7, cells := 2, slots := 12, locals := 117 } (va_Pc [.ref (ad (270)), .int a] (Hx XEs D G ad B0 σ)) (va_Qi (fun (r : Int32) (z : Nat → Nat → Int32) => ((Sum.inl r, z) : RT) = f6_drop σ a ∧ okS z) (fun (z : Nat → Nat → Int32) => Ho D G ad z) (AA B0)) (XX D G ad B0 (fun E z => ((Sum.inr E, z) : RT) = f6_drop σ a ∧ okS z)) 2 12 (AA B0) := by
  refine vx_ofW (cc := cX6_drop) (maxL := 4) (ret := (some .int)) (by decide) rfl ?_
  intro p e s m args below meth c s₁ B hml htab hv
  obtain ⟨rfl, ⟨hP, hK, hN⟩, hT, hL, adK, adV, hG, hR⟩ := hv
  have hx := B.exec
  have hb := B.bytes
  have hr := B.returns
  have hts := atoms_spec (ws := wsX6_drop) B.pre
  have hown : s.vm.findClass RX6 = some m.cls := findClass_of_methodNamed B.named
  have hlocks := B.notSynchronized
  have inX0 : ∀ w ∈ wsX00, w ∈ wsX6_drop := (fun w h => List.mem_cons_of_mem _ (List.mem_append_left _ (List.mem_append_left _ (List.mem_append_left _ (List.mem_append_left _ (List.mem_append_right _ h))))))
  have inX5 : ∀ w ∈ wsX50, w ∈ wsX6_drop := (fun w h => List.mem_cons_of_mem _ (List.mem_append_left _ (List.mem_append_left _ (List.mem_append_left _ (List.mem_append_left _ (List.mem_append_left _ (List.mem_append_right _ h)))))))
  have inX6 : ∀ w ∈ wsX60, w ∈ wsX6_drop := (fun w h => List.mem_cons_of_mem _ (List.mem_append_left _ (List.mem_append_left _ (List.mem_append_left _ (List.mem_append_left _ (List.mem_append_left _ (List.mem_append_left _ (List.mem_append_right _ h))))))))
  have hP : va_P D vwCl (pool G ad σ) s.heap := hP
  have hS : va_S (AA B0) s.heap s.heap [] := va_S.rf
  have hl := lv_entry ([.ref (ad (270)), .int a]) (n := 4) (Nat.le_of_ble_eq_true rfl)
  rw [lg_entry_eq]
  generalize (lg_sl ([.ref (ad (270)), .int a]) ++ List.replicate (4 - (lg_sl ([.ref (ad (270)), .int a])).length) Slot.unset).toArray = ls at hl ⊢
  have hl : lv_has ls 4 [(0, .ref (ad (270))), (1, .int a)] := hl
  obtain ⟨FF, hFF⟩ : ∃ z, z = f6_drop σ a := ⟨_, rfl⟩
  have hF := hFF.symm
  rw [f6_drop] at hF
  refine lv_aload_n hx hb dX6_drop_0 rfl (lv_at hl 0 rfl) ?_
  refine lv_iload_n hx hb dX6_drop_1 rfl (lv_at hl 1 rfl) ?_
  refine vx_callv (vx_runV (As := [.int a]) (rest := []) ⟨hx, hb, hml, hown, hts⟩ (c6_requireBody l hl0 hA σ a hO) (cwV 1 hts gX6_drop_X6_requireBody rfl rfl rfl hd_X6_requireBodyV ⟨Nat.le_of_ble_eq_true rfl, Nat.le_of_ble_eq_true rfl⟩) ⟨hx_blind, va_recv hK hP (ci := 8) (q0 := 270) rfl g_270, hx_pre hK hN hT hL hG hR hS hP⟩ rfl rfl hl.1 rfl (lv_room (Nat.le_of_ble_eq_true rfl)) dX6_drop_2 ⟨Nat.le_of_ble_eq_true rfl, Nat.le_of_ble_eq_true rfl⟩) hS (fun _ _ h => h) (fun _ h => h) (fun _ _ h => h) (fun E9 ce9 q9 z9 t9 H9 locs9 ht9 hvm9 hw9 hB9 hz9 hk9 hS9 hce9 hcv9 hcl9 => ?_) (fun u9 t H locs ht hvm hw9 hB hz1 hk1 hS => ?_)
  · obtain ⟨eqx, okx⟩ := hw9
    obtain ⟨rfl, hBx⟩ := hB9
    have hF := bndx_x eqx hF
    exact vx_out (fun x hx => (htab x hx).elim) hlocks hce9 hcv9 hcl9 (fun t8 h8 _ => ⟨z9, ⟨hF.trans hFF, okx⟩, ⟨rfl, ho_of h8 (ho_at ht9 hBx)⟩, hS9.F h8⟩) hS9.2.2 (Nat.le_of_ble_eq_true rfl) (Nat.le_of_ble_eq_true rfl)
  have hP := ho_at ht hB
  obtain ⟨eq2, ok9⟩ := hw9
  obtain ⟨σ2, e_σ2⟩ : ∃ z, z = u9 := ⟨_, rfl⟩
  rw [← e_σ2] at hP eq2 ok9
  have hO := ok9
  have hF := bndx_s eq2 hF
  have hi9 : vp_in a 4 := in_body hO eq2
  refine lv_aload_n hx hb dX6_drop_5 rfl (lv_at hl 0 rfl) ?_
  refine va_get (D := D) (ci := 8) (C := RX6) (T := TX6) (N := 9) hx hb hts inX6 hown hK hP (270) g_270 rfl 0 (by decide) (hts (.fieldLink RX6 12 "TileRunners" "world" "LTileRunners$World;") (List.mem_of_getElem? (i := 1) rfl)) (fun _ h9 => h9) rfl dX6_drop_6 ?_
  refine va_get (D := D) (ci := 7) (C := RX5) (T := TX5) (N := 7) hx hb hts inX5 hown hK hP (18*0+0) (g_o (by decide)) rfl 1 (by decide) (hts (.fieldLink RX6 102 "TileRunners$World" "bodies" "[LTileRunners$Body;") (List.mem_of_getElem? (i := 2) rfl)) (fun _ h9 => h9) rfl dX6_drop_9 ?_
  refine lv_iload_n hx hb dX6_drop_12 rfl (lv_at hl 1 rfl) ?_
  have hi_13 : a.toNatClampNeg < 4 := in_lt (i := a) hi9
  refine pqald (t0 := 2) (i := a) hx hb hK hP (c_bs (by decide)) rfl hi9 dX6_drop_13 ?_
  refine lv_astore_n (lv' := [(2, .ref (ad (18*0+(6+2*a.toNatClampNeg)))), (0, .ref (ad (270))), (1, .int a)]) hx hb dX6_drop_14 rfl hl (by decide) rfl (fun ls hl => ?_)
  refine lv_aload_n hx hb dX6_drop_15 rfl (lv_at hl 0 rfl) ?_
  refine va_get (D := D) (ci := 2) (C := RX0) (T := TX0) (N := 16) hx hb hts inX0 hown hK hP (18*0+(6+2*a.toNatClampNeg)) (g_b (by decide) hi_13) rfl 1 (by decide) (hts (.fieldLink RX6 209 "TileRunners$Body" "y" "I") (List.mem_of_getElem? (i := 3) rfl)) (fun _ h9 => h9) rfl dX6_drop_16 ?_
  refine lv_topi (fun v3_19 e_v3_19 => ?_)
  have hF := bnd_s e_v3_19 hF
  refine lv_istore_n (lv' := [(3, .int v3_19), (2, .ref (ad (18*0+(6+2*a.toNatClampNeg)))), (0, .ref (ad (270))), (1, .int a)]) hx hb dX6_drop_19 rfl hl (by decide) rfl (fun ls hl => ?_)
  have L20 : ∀ (n20 : Nat) (w3_20 : Int32) (H : Heap) (locs : List Loc) (ls : Array Slot), (w3_20.toInt + 41).toNat < n20 → va_P D vwCl (pool G ad σ2) H → va_S (AA B0) s.heap H locs → lv_has ls 4 [(3, .int w3_20), (2, .ref (ad (18*0+(6+2*a.toNatClampNeg)))), (0, .ref (ad (270)))] → f6_drop_L20 a σ2 n20 w3_20 = FF → W p l e (headSpec wsX6_drop { frames := 7, cells := 2, slots := 12, locals := 117 }).room s m ([.ref (ad (270)), .int a] : List Value).toArray below meth c H locs 1 6 (vx_MQ below (va_Qi (fun (r : Int32) (z : Nat → Nat → Int32) => ((Sum.inl r, z) : RT) = f6_drop σ a ∧ okS z) (fun (z : Nat → Nat → Int32) => Ho D G ad z) (AA B0)) (XX D G ad B0 (fun E z => ((Sum.inr E, z) : RT) = f6_drop σ a ∧ okS z)) ([.ref (ad (270)), .int a] : List Value).toArray s 2 12 (AA B0)) (F0 m 20 ls []) := by
    intro n20
    induction n20 with
    | zero => intro w3_20 H locs ls hm; exact absurd hm (Nat.not_lt_zero _)
    | succ n20 ih20 =>
      intro w3_20 H locs ls hm20 hP hS hl hF
      rw [f6_drop_L20] at hF
      refine lv_iload_n hx hb dX6_drop_20 rfl (lv_at hl 0 rfl) ?_
      refine lv_bipush (v := (-40)) hx hb dX6_drop_21 (by decide) ?_
      refine lv_icmp_lt (tgt := 56) hx hb dX6_drop_23 (by decide) (fun c23 => ?_) (fun c23 => ?_)
      · have hF := ift c23 hF
        refine lv_iconst (v := (-1)) hx hb dX6_drop_56 (by decide) ?_
        exact vx_ret (W.widen (Nat.le_of_ble_eq_true rfl) (Nat.le_of_ble_eq_true rfl) (W.iret (v := (-1)) hx hb hr (fun t ht hW => ⟨⟨(-1), σ2, rfl, ⟨hF.trans hFF, hO⟩, ho_of ht hP⟩, hS.F ht⟩) hS.2.2 dX6_drop_57))
      · have hF := iff_ c23 hF
        refine lv_aload_n hx hb dX6_drop_26 rfl (lv_at hl 2 rfl) ?_
        refine va_get (D := D) (ci := 8) (C := RX6) (T := TX6) (N := 9) hx hb hts inX6 hown hK hP (270) g_270 rfl 0 (by decide) (hts (.fieldLink RX6 12 "TileRunners" "world" "LTileRunners$World;") (List.mem_of_getElem? (i := 1) rfl)) (fun _ h9 => h9) rfl dX6_drop_27 ?_
        refine lv_aload_n hx hb dX6_drop_30 rfl (lv_at hl 1 rfl) ?_
        refine lv_aload_n hx hb dX6_drop_31 rfl (lv_at hl 1 rfl) ?_
        refine va_get (D := D) (ci := 2) (C := RX0) (T := TX0) (N := 16) hx hb hts inX0 hown hK hP (18*0+(6+2*a.toNatClampNeg)) (g_b (by decide) hi_13) rfl 0 (by decide) (hts (.fieldLink RX6 206 "TileRunners$Body" "x" "I") (List.mem_of_getElem? (i := 4) rfl)) (fun _ h9 => h9) rfl dX6_drop_32 ?_
        refine lv_iload_n hx hb dX6_drop_35 rfl (lv_at hl 0 rfl) ?_
        refine lv_iconst (v := (-1)) hx hb dX6_drop_36 (by decide) ?_
        have hP := f_eta 0 hP
        refine va_calli (va_runV (As := [.ref (ad (18*0+(6+2*a.toNatClampNeg))), .int (σ2 0 (336+24*a.toNatClampNeg+0)), .int w3_20, .int (-1)]) (rest := []) ⟨hx, hb, hml, hown, hts⟩ (c5_supportAt l hA σ2 (σ2 0) 0 (by decide) a.toNatClampNeg hi_13 (σ2 0 (336+24*a.toNatClampNeg+0)) w3_20 (-1) (hO.1 0 (by decide))) (cwV 4 hts gX6_drop_X5_supportAt rfl rfl rfl hd_X5_supportAtV ⟨Nat.le_of_ble_eq_true rfl, Nat.le_of_ble_eq_true rfl⟩) ⟨hp_blind, va_recv hK hP (ci := 7) (q0 := 18*0+0) rfl (c_o (by decide)), hp_pre hK hN hP⟩ rfl rfl hl.1 rfl (lv_room (Nat.le_of_ble_eq_true rfl)) dX6_drop_37 ⟨Nat.le_of_ble_eq_true rfl, Nat.le_of_ble_eq_true rfl⟩) hS (fun _ _ h => h) (fun _ h => h) (fun r37 _ t H locs ht hvm hw9 hB hz1 hk1 hS => ?_)
        have hP := ho_at ht hB
        have eq37 := hw9
        rw [up_eta] at hP
        have hF := bnd_s eq37 hF
        refine lv_if_eq (tgt := 50) hx hb dX6_drop_40 (by decide) (fun c40 => ?_) (fun c40 => ?_)
        · have hF := ift c40 hF
          obtain ⟨v3_50, e_v3_50⟩ : ∃ z : Int32, z = w3_20 + (-1) := ⟨_, rfl⟩
          have hF := bnd_s e_v3_50 hF
          refine lv_iinc (v := v3_50) (lv' := [(3, .int v3_50), (2, .ref (ad (18*0+(6+2*a.toNatClampNeg)))), (0, .ref (ad (270)))]) hx hb dX6_drop_50 hl (k := 0) rfl (by rw [e_v3_50]; rfl) (by decide) rfl (fun ls hl => ?_)
          refine lv_goto (tgt := 20) hx hb dX6_drop_53 (by decide) ?_
          exact ih20 v3_50 _ _ ls (ms_s (dec_d40 c23 e_v3_50) hm20) hP hS (lv_sub hl [0, 1, 2] rfl) hF
        · have hF := iff_ c40 hF
          refine lv_aload_n hx hb dX6_drop_43 rfl (lv_at hl 1 rfl) ?_
          refine va_get (D := D) (ci := 2) (C := RX0) (T := TX0) (N := 16) hx hb hts inX0 hown hK hP (18*0+(6+2*a.toNatClampNeg)) (g_b (by decide) hi_13) rfl 1 (by decide) (hts (.fieldLink RX6 209 "TileRunners$Body" "y" "I") (List.mem_of_getElem? (i := 3) rfl)) (fun _ h9 => h9) rfl dX6_drop_44 ?_
          refine lv_iload_n hx hb dX6_drop_47 rfl (lv_at hl 0 rfl) ?_
          refine lv_isub hx hb dX6_drop_48 ?_
          exact vx_ret (W.widen (Nat.le_of_ble_eq_true rfl) (Nat.le_of_ble_eq_true rfl) (W.iret (v := ((σ2 0 (336+24*a.toNatClampNeg+1)) - w3_20)) hx hb hr (fun t ht hW => ⟨⟨((σ2 0 (336+24*a.toNatClampNeg+1)) - w3_20), σ2, rfl, ⟨hF.trans hFF, hO⟩, ho_of ht hP⟩, hS.F ht⟩) hS.2.2 dX6_drop_49))
  exact L20 BIG v3_19 _ _ ls (big_d40 _) hP hS (lv_sub hl [0, 1, 2] rfl) hF
theorem hd_X6_dropV : yX6_drop.cls = RX6 ∧ yX6_drop.cls ≠ "java/lang/invoke/MethodHandle" ∧ yX6_drop.cls ≠ "java/lang/invoke/VarHandle" ∧ (parseMethodDescriptor yX6_drop.desc).map (fun d => d.parameters.length) = some 1 := by decide +kernel
set_option maxHeartbeats 4000000 in
set_option maxRecDepth 100000 in
theorem c6_look (l : Launch) (hl0 : l.stackTraces = false) {D : va_G} {G : CY} {ad : Nat → Nat} {B0 : Nat} (hA : adOK B0 ad) (σ : Nat → Nat → Int32) (a : Int32) (b : Int32) (hO : okS σ) : vx_Met l yX6_look wsX6_look { frames := 7, cells := 2, slots := 12, locals := 116 } (va_Pc [.ref (ad (270)), .int a, .int b] (Hx XEs D G ad B0 σ)) (va_Qi (fun (r : Int32) (z : Nat → Nat → Int32) => ((Sum.inl r, z) : RT) = f6_look σ a b ∧ okS z) (fun (z : Nat → Nat → Int32) => Ho D G ad z) (AA B0)) (XX D G ad B0 (fun E z => ((Sum.inr E, z) : RT) = f6_look σ a b ∧ okS z)) 2 12 (AA B0) := by
  refine vx_ofW (cc := cX6_look) (maxL := 4) (ret := (some .int)) (by decide) rfl ?_
  intro p e s m args below meth c s₁ B hml htab hv
  obtain ⟨rfl, ⟨hP, hK, hN⟩, hT, hL, adK, adV, hG, hR⟩ := hv
  have hx := B.exec
  have hb := B.bytes
  have hr := B.returns
  have hts := atoms_spec (ws := wsX6_look) B.pre
  have hown : s.vm.findClass RX6 = some m.cls := findClass_of_methodNamed B.named
  have hlocks := B.notSynchronized
  have inX5 : ∀ w ∈ wsX50, w ∈ wsX6_look := (fun w h => List.mem_cons_of_mem _ (List.mem_append_left _ (List.mem_append_left _ (List.mem_append_left _ (List.mem_append_left _ (List.mem_append_left _ (List.mem_append_right _ h)))))))
  have inX6 : ∀ w ∈ wsX60, w ∈ wsX6_look := (fun w h => List.mem_cons_of_mem _ (List.mem_append_left _ (List.mem_append_left _ (List.mem_append_left _ (List.mem_append_left _ (List.mem_append_left _ (List.mem_append_left _ (List.mem_append_right _ h))))))))
  have hP : va_P D vwCl (pool G ad σ) s.heap := hP
  have hS : va_S (AA B0) s.heap s.heap [] := va_S.rf
  have hl := lv_entry ([.ref (ad (270)), .int a, .int b]) (n := 4) (Nat.le_of_ble_eq_true rfl)
  rw [lg_entry_eq]
  generalize (lg_sl ([.ref (ad (270)), .int a, .int b]) ++ List.replicate (4 - (lg_sl ([.ref (ad (270)), .int a, .int b])).length) Slot.unset).toArray = ls at hl ⊢
  have hl : lv_has ls 4 [(0, .ref (ad (270))), (1, .int a), (2, .int b)] := hl
  obtain ⟨FF, hFF⟩ : ∃ z, z = f6_look σ a b := ⟨_, rfl⟩
  have hF := hFF.symm
  rw [f6_look] at hF
  refine lv_iload_n hx hb dX6_look_0 rfl (lv_at hl 1 rfl) ?_
  refine lv_iconst (v := 0) hx hb dX6_look_1 (by decide) ?_
  refine lv_sipush (v := 383) hx hb dX6_look_2 (by decide) ?_
  refine va_calli (va_runS (As := [.int a, .int 0, .int 383]) (rest := []) ⟨hx, hb, hml, hown, hts⟩ (c6_isWithin l hA σ a 0 383 ) (va_cwS 3 hts gX6_look_X6_isWithin rfl rfl rfl hd_X6_isWithinS ⟨Nat.le_of_ble_eq_true rfl, Nat.le_of_ble_eq_true rfl⟩) ⟨hp_blind, hp_pre hK hN hP⟩ rfl rfl hl.1 rfl (lv_room (Nat.le_of_ble_eq_true rfl)) dX6_look_5 ⟨Nat.le_of_ble_eq_true rfl, Nat.le_of_ble_eq_true rfl⟩) hS (fun _ _ h => h) (fun _ h => h) (fun r5 _ t H locs ht hvm hw9 hB hz1 hk1 hS => ?_)
  have hP := ho_at ht hB
  obtain ⟨eq5, hb_r5⟩ := hw9
  have hF := bnd_s eq5 hF
  have J27 : ∀ (t0_27 : Int32) (H : Heap) (locs : List Loc) (ls : Array Slot), bl t0_27 → va_P D vwCl (pool G ad σ) H → va_S (AA B0) s.heap H locs → lv_has ls 4 [(0, .ref (ad (270))), (1, .int a), (2, .int b)] → f6_look_b27 σ a b t0_27 = FF → W p l e (headSpec wsX6_look { frames := 7, cells := 2, slots := 12, locals := 116 }).room s m ([.ref (ad (270)), .int a, .int b] : List Value).toArray below meth c H locs 0 0 (vx_MQ below (va_Qi (fun (r : Int32) (z : Nat → Nat → Int32) => ((Sum.inl r, z) : RT) = f6_look σ a b ∧ okS z) (fun (z : Nat → Nat → Int32) => Ho D G ad z) (AA B0)) (XX D G ad B0 (fun E z => ((Sum.inr E, z) : RT) = f6_look σ a b ∧ okS z)) ([.ref (ad (270)), .int a, .int b] : List Value).toArray s 2 12 (AA B0)) (F0 m 27 ls [.int t0_27]) := by
    intro t0_27 H locs ls hb_t0_27 hP hS hl hF
    rw [f6_look_b27] at hF
    refine vx_callv (vx_runS (As := [.int t0_27]) (rest := []) ⟨hx, hb, hml, hown, hts⟩ (c6_require l hl0 hA σ t0_27 hO hb_t0_27) (va_cwS 1 hts gX6_look_X6_require rfl rfl rfl hd_X6_requireS ⟨Nat.le_of_ble_eq_true rfl, Nat.le_of_ble_eq_true rfl⟩) ⟨hx_blind, hx_pre hK hN hT hL hG hR hS hP⟩ rfl rfl hl.1 rfl (lv_room (Nat.le_of_ble_eq_true rfl)) dX6_look_27 ⟨Nat.le_of_ble_eq_true rfl, Nat.le_of_ble_eq_true rfl⟩) hS (fun _ _ h => h) (fun _ h => h) (fun _ _ h => h) (fun E9 ce9 q9 z9 t9 H9 locs9 ht9 hvm9 hw9 hB9 hz9 hk9 hS9 hce9 hcv9 hcl9 => ?_) (fun u9 t H locs ht hvm hw9 hB hz1 hk1 hS => ?_)
    · obtain ⟨eqx, okx⟩ := hw9
      obtain ⟨rfl, hBx⟩ := hB9
      have hF := bndx_x eqx hF
      exact vx_out (fun x hx => (htab x hx).elim) hlocks hce9 hcv9 hcl9 (fun t8 h8 _ => ⟨z9, ⟨hF.trans hFF, okx⟩, ⟨rfl, ho_of h8 (ho_at ht9 hBx)⟩, hS9.F h8⟩) hS9.2.2 (Nat.le_of_ble_eq_true rfl) (Nat.le_of_ble_eq_true rfl)
    have hP := ho_at ht hB
    obtain ⟨eq27, ok9⟩ := hw9
    obtain ⟨σ27, e_σ27⟩ : ∃ z, z = u9 := ⟨_, rfl⟩
    rw [← e_σ27] at hP eq27 ok9
    have hO := ok9
    have hF := bndx_s eq27 hF
    refine lv_iconst (v := 0) hx hb dX6_look_30 (by decide) ?_
    refine lv_istore_n (lv' := [(3, .int 0), (0, .ref (ad (270))), (1, .int a), (2, .int b)]) hx hb dX6_look_31 rfl hl (by decide) rfl (fun ls hl => ?_)
    have L32 : ∀ (n32 : Nat) (w3_32 : Int32) (H : Heap) (locs : List Loc) (ls : Array Slot), (4 - w3_32.toInt).toNat < n32 → 0 ≤ w3_32 → va_P D vwCl (pool G ad σ27) H → va_S (AA B0) s.heap H locs → lv_has ls 4 [(3, .int w3_32), (0, .ref (ad (270))), (1, .int a), (2, .int b)] → f6_look_L32 a b σ27 n32 w3_32 = FF → W p l e (headSpec wsX6_look { frames := 7, cells := 2, slots := 12, locals := 116 }).room s m ([.ref (ad (270)), .int a, .int b] : List Value).toArray below meth c H locs 1 6 (vx_MQ below (va_Qi (fun (r : Int32) (z : Nat → Nat → Int32) => ((Sum.inl r, z) : RT) = f6_look σ a b ∧ okS z) (fun (z : Nat → Nat → Int32) => Ho D G ad z) (AA B0)) (XX D G ad B0 (fun E z => ((Sum.inr E, z) : RT) = f6_look σ a b ∧ okS z)) ([.ref (ad (270)), .int a, .int b] : List Value).toArray s 2 12 (AA B0)) (F0 m 32 ls []) := by
      intro n32
      induction n32 with
      | zero => intro w3_32 H locs ls hm; exact absurd hm (Nat.not_lt_zero _)
      | succ n32 ih32 =>
        intro w3_32 H locs ls hm32 h3 hP hS hl hF
        rw [f6_look_L32] at hF
        refine lv_iload_n hx hb dX6_look_32 rfl (lv_at hl 0 rfl) ?_
        refine lv_aload_n hx hb dX6_look_33 rfl (lv_at hl 1 rfl) ?_
        refine va_get (D := D) (ci := 8) (C := RX6) (T := TX6) (N := 9) hx hb hts inX6 hown hK hP (270) g_270 rfl 0 (by decide) (hts (.fieldLink RX6 12 "TileRunners" "world" "LTileRunners$World;") (List.mem_of_getElem? (i := 1) rfl)) (fun _ h9 => h9) rfl dX6_look_34 ?_
        refine va_get (D := D) (ci := 7) (C := RX5) (T := TX5) (N := 7) hx hb hts inX5 hown hK hP (18*0+0) (g_o (by decide)) rfl 4 (by decide) (hts (.fieldLink RX6 92 "TileRunners$World" "bodyCount" "I") (List.mem_of_getElem? (i := 2) rfl)) (fun _ h9 => h9) rfl dX6_look_37 ?_
        refine lv_icmp_ge (tgt := 71) hx hb dX6_look_40 (by decide) (fun c40 => ?_) (fun c40 => ?_)
        · have hF := ift c40 hF
          refine lv_iconst (v := 0) hx hb dX6_look_71 (by decide) ?_
          refine lv_istore_n (lv' := [(3, .int 0), (0, .ref (ad (270))), (1, .int a), (2, .int b)]) hx hb dX6_look_72 rfl hl (by decide) rfl (fun ls hl => ?_)
          have L73 : ∀ (n73 : Nat) (w3_73 : Int32) (H : Heap) (locs : List Loc) (ls : Array Slot), (4 - w3_73.toInt).toNat < n73 → 0 ≤ w3_73 → va_P D vwCl (pool G ad σ27) H → va_S (AA B0) s.heap H locs → lv_has ls 4 [(3, .int w3_73), (0, .ref (ad (270))), (1, .int a), (2, .int b)] → f6_look_L73 a b σ27 n73 w3_73 = FF → W p l e (headSpec wsX6_look { frames := 7, cells := 2, slots := 12, locals := 116 }).room s m ([.ref (ad (270)), .int a, .int b] : List Value).toArray below meth c H locs 1 6 (vx_MQ below (va_Qi (fun (r : Int32) (z : Nat → Nat → Int32) => ((Sum.inl r, z) : RT) = f6_look σ a b ∧ okS z) (fun (z : Nat → Nat → Int32) => Ho D G ad z) (AA B0)) (XX D G ad B0 (fun E z => ((Sum.inr E, z) : RT) = f6_look σ a b ∧ okS z)) ([.ref (ad (270)), .int a, .int b] : List Value).toArray s 2 12 (AA B0)) (F0 m 73 ls []) := by
            intro n73
            induction n73 with
            | zero => intro w3_73 H locs ls hm; exact absurd hm (Nat.not_lt_zero _)
            | succ n73 ih73 =>
              intro w3_73 H locs ls hm73 h3b hP hS hl hF
              rw [f6_look_L73] at hF
              refine lv_iload_n hx hb dX6_look_73 rfl (lv_at hl 0 rfl) ?_
              refine lv_aload_n hx hb dX6_look_74 rfl (lv_at hl 1 rfl) ?_
              refine va_get (D := D) (ci := 8) (C := RX6) (T := TX6) (N := 9) hx hb hts inX6 hown hK hP (270) g_270 rfl 0 (by decide) (hts (.fieldLink RX6 12 "TileRunners" "world" "LTileRunners$World;") (List.mem_of_getElem? (i := 1) rfl)) (fun _ h9 => h9) rfl dX6_look_75 ?_
              refine va_get (D := D) (ci := 7) (C := RX5) (T := TX5) (N := 7) hx hb hts inX5 hown hK hP (18*0+0) (g_o (by decide)) rfl 5 (by decide) (hts (.fieldLink RX6 144 "TileRunners$World" "platformCount" "I") (List.mem_of_getElem? (i := 4) rfl)) (fun _ h9 => h9) rfl dX6_look_78 ?_
              refine lv_icmp_ge (tgt := 113) hx hb dX6_look_81 (by decide) (fun c81 => ?_) (fun c81 => ?_)
              · have hF := ift c81 hF
                refine lv_aload_n hx hb dX6_look_113 rfl (lv_at hl 1 rfl) ?_
                refine va_get (D := D) (ci := 8) (C := RX6) (T := TX6) (N := 9) hx hb hts inX6 hown hK hP (270) g_270 rfl 0 (by decide) (hts (.fieldLink RX6 12 "TileRunners" "world" "LTileRunners$World;") (List.mem_of_getElem? (i := 1) rfl)) (fun _ h9 => h9) rfl dX6_look_114 ?_
                refine va_get (D := D) (ci := 7) (C := RX5) (T := TX5) (N := 7) hx hb hts inX5 hown hK hP (18*0+0) (g_o (by decide)) rfl 0 (by decide) (hts (.fieldLink RX6 71 "TileRunners$World" "tiles" "LTileRunners$Tiles;") (List.mem_of_getElem? (i := 6) rfl)) (fun _ h9 => h9) rfl dX6_look_117 ?_
                refine lv_iload_n hx hb dX6_look_120 rfl (lv_at hl 2 rfl) ?_
                refine lv_iconst (v := 4) hx hb dX6_look_121 (by decide) ?_
                refine lv_ishr hx hb dX6_look_122 ?_
                refine lv_iload_n hx hb dX6_look_123 rfl (lv_at hl 3 rfl) ?_
                refine lv_iconst (v := 4) hx hb dX6_look_124 (by decide) ?_
                refine lv_ishr hx hb dX6_look_125 ?_
                have hP := f_eta 0 hP
                refine va_calli (va_runV (As := [.int (a >>> (4 &&& 31)), .int (b >>> (4 &&& 31))]) (rest := []) ⟨hx, hb, hml, hown, hts⟩ (c4_kindAt l hA σ27 (σ27 0) 0 (by decide) (a >>> (4 &&& 31)) (b >>> (4 &&& 31)) ) (cwV 2 hts gX6_look_X4_kindAt rfl rfl rfl hd_X4_kindAtV ⟨Nat.le_of_ble_eq_true rfl, Nat.le_of_ble_eq_true rfl⟩) ⟨hp_blind, va_recv hK hP (ci := 6) (q0 := 18*0+1) rfl (c_t (by decide)), hp_pre hK hN hP⟩ rfl rfl hl.1 rfl (lv_room (Nat.le_of_ble_eq_true rfl)) dX6_look_126 ⟨Nat.le_of_ble_eq_true rfl, Nat.le_of_ble_eq_true rfl⟩) hS (fun _ _ h => h) (fun _ h => h) (fun r126 _ t H locs ht hvm hw9 hB hz1 hk1 hS => ?_)
                have hP := ho_at ht hB
                have eq126 := hw9
                rw [up_eta] at hP
                have hF := bnd_s eq126 hF
                exact vx_ret (W.widen (Nat.le_of_ble_eq_true rfl) (Nat.le_of_ble_eq_true rfl) (W.iret (v := r126) hx hb hr (fun t ht hW => ⟨⟨r126, σ27, rfl, ⟨hF.trans hFF, hO⟩, ho_of ht hP⟩, hS.F ht⟩) hS.2.2 dX6_look_129))
              · have hF := iff_ c81 hF
                have hj3 : vp_in w3_73 4 := in_n h3b (nle_lt c81) (hO.1 0 (by decide)).2.2.2
                refine lv_aload_n hx hb dX6_look_84 rfl (lv_at hl 1 rfl) ?_
                refine va_get (D := D) (ci := 8) (C := RX6) (T := TX6) (N := 9) hx hb hts inX6 hown hK hP (270) g_270 rfl 0 (by decide) (hts (.fieldLink RX6 12 "TileRunners" "world" "LTileRunners$World;") (List.mem_of_getElem? (i := 1) rfl)) (fun _ h9 => h9) rfl dX6_look_85 ?_
                refine va_get (D := D) (ci := 7) (C := RX5) (T := TX5) (N := 7) hx hb hts inX5 hown hK hP (18*0+0) (g_o (by decide)) rfl 2 (by decide) (hts (.fieldLink RX6 149 "TileRunners$World" "platforms" "[LTileRunners$Platform;") (List.mem_of_getElem? (i := 5) rfl)) (fun _ h9 => h9) rfl dX6_look_88 ?_
                refine lv_iload_n hx hb dX6_look_91 rfl (lv_at hl 0 rfl) ?_
                have hi_92 : w3_73.toNatClampNeg < 4 := in_lt (i := w3_73) hj3
                refine pqald (t0 := 3) (i := w3_73) hx hb hK hP (c_ps (by decide)) rfl hj3 dX6_look_92 ?_
                refine lv_iload_n hx hb dX6_look_93 rfl (lv_at hl 2 rfl) ?_
                refine lv_iload_n hx hb dX6_look_94 rfl (lv_at hl 3 rfl) ?_
                have hP := f_eta 0 hP
                refine va_calli (va_runV (As := [.int a, .int b]) (rest := []) ⟨hx, hb, hml, hown, hts⟩ (c2_isTopOf l hA σ27 (σ27 0) 0 (by decide) w3_73.toNatClampNeg hi_92 a b ) (cwV 2 hts gX6_look_X2_isTopOf rfl rfl rfl hd_X2_isTopOfV ⟨Nat.le_of_ble_eq_true rfl, Nat.le_of_ble_eq_true rfl⟩) ⟨hp_blind, va_recv hK hP (ci := 4) (q0 := 18*0+(14+w3_73.toNatClampNeg)) rfl (c_p (by decide) hi_92), hp_pre hK hN hP⟩ rfl rfl hl.1 rfl (lv_room (Nat.le_of_ble_eq_true rfl)) dX6_look_95 ⟨Nat.le_of_ble_eq_true rfl, Nat.le_of_ble_eq_true rfl⟩) hS (fun _ _ h => h) (fun _ h => h) (fun r95 _ t H locs ht hvm hw9 hB hz1 hk1 hS => ?_)
                have hP := ho_at ht hB
                obtain ⟨eq95, hb_r95⟩ := hw9
                rw [up_eta] at hP
                have hF := bnd_s eq95 hF
                refine lv_if_eq (tgt := 107) hx hb dX6_look_98 (by decide) (fun c98 => ?_) (fun c98 => ?_)
                · have hF := ift c98 hF
                  obtain ⟨v3_107, e_v3_107⟩ : ∃ z : Int32, z = w3_73 + 1 := ⟨_, rfl⟩
                  have hF := bnd_s e_v3_107 hF
                  refine lv_iinc (v := v3_107) (lv' := [(3, .int v3_107), (0, .ref (ad (270))), (1, .int a), (2, .int b)]) hx hb dX6_look_107 hl (k := 0) rfl (by rw [e_v3_107]; rfl) (by decide) rfl (fun ls hl => ?_)
                  refine lv_goto (tgt := 73) hx hb dX6_look_110 (by decide) ?_
                  exact ih73 v3_107 _ _ ls (ms_s (dec_i4 hj3 e_v3_107) hm73) (ge0_i4 hj3 e_v3_107) hP hS (lv_sub hl [0, 1, 2, 3] rfl) hF
                · have hF := iff_ c98 hF
                  refine lv_sipush (v := 200) hx hb dX6_look_101 (by decide) ?_
                  refine lv_iload_n hx hb dX6_look_104 rfl (lv_at hl 0 rfl) ?_
                  refine lv_iadd hx hb dX6_look_105 ?_
                  exact vx_ret (W.widen (Nat.le_of_ble_eq_true rfl) (Nat.le_of_ble_eq_true rfl) (W.iret (v := (200 + w3_73)) hx hb hr (fun t ht hW => ⟨⟨(200 + w3_73), σ27, rfl, ⟨hF.trans hFF, hO⟩, ho_of ht hP⟩, hS.F ht⟩) hS.2.2 dX6_look_106))
          exact L73 BIG 0 _ _ ls (big_i4 _) le0 hP hS (lv_sub hl [0, 1, 2, 3] rfl) hF
        · have hF := iff_ c40 hF
          have hi3 : vp_in w3_32 4 := in_n h3 (nle_lt c40) (hO.1 0 (by decide)).2.1
          refine lv_aload_n hx hb dX6_look_43 rfl (lv_at hl 1 rfl) ?_
          refine va_get (D := D) (ci := 8) (C := RX6) (T := TX6) (N := 9) hx hb hts inX6 hown hK hP (270) g_270 rfl 0 (by decide) (hts (.fieldLink RX6 12 "TileRunners" "world" "LTileRunners$World;") (List.mem_of_getElem? (i := 1) rfl)) (fun _ h9 => h9) rfl dX6_look_44 ?_
          refine va_get (D := D) (ci := 7) (C := RX5) (T := TX5) (N := 7) hx hb hts inX5 hown hK hP (18*0+0) (g_o (by decide)) rfl 1 (by decide) (hts (.fieldLink RX6 102 "TileRunners$World" "bodies" "[LTileRunners$Body;") (List.mem_of_getElem? (i := 3) rfl)) (fun _ h9 => h9) rfl dX6_look_47 ?_
          refine lv_iload_n hx hb dX6_look_50 rfl (lv_at hl 0 rfl) ?_
          have hi_51 : w3_32.toNatClampNeg < 4 := in_lt (i := w3_32) hi3
          refine pqald (t0 := 2) (i := w3_32) hx hb hK hP (c_bs (by decide)) rfl hi3 dX6_look_51 ?_
          refine lv_iload_n hx hb dX6_look_52 rfl (lv_at hl 2 rfl) ?_
          refine lv_iload_n hx hb dX6_look_53 rfl (lv_at hl 3 rfl) ?_
          have hP := f_eta 0 hP
          refine va_calli (va_runV (As := [.int a, .int b]) (rest := []) ⟨hx, hb, hml, hown, hts⟩ (c0_covers l hA σ27 (σ27 0) 0 (by decide) w3_32.toNatClampNeg hi_51 a b ) (cwV 2 hts gX6_look_X0_covers rfl rfl rfl hd_X0_coversV ⟨Nat.le_of_ble_eq_true rfl, Nat.le_of_ble_eq_true rfl⟩) ⟨hp_blind, va_recv hK hP (ci := 2) (q0 := 18*0+(6+2*w3_32.toNatClampNeg)) rfl (c_b (by decide) hi_51), hp_pre hK hN hP⟩ rfl rfl hl.1 rfl (lv_room (Nat.le_of_ble_eq_true rfl)) dX6_look_54 ⟨Nat.le_of_ble_eq_true rfl, Nat.le_of_ble_eq_true rfl⟩) hS (fun _ _ h => h) (fun _ h => h) (fun r54 _ t H locs ht hvm hw9 hB hz1 hk1 hS => ?_)
          have hP := ho_at ht hB
          obtain ⟨eq54, hb_r54⟩ := hw9
          rw [up_eta] at hP
          have hF := bnd_s eq54 hF
          refine lv_if_eq (tgt := 65) hx hb dX6_look_57 (by decide) (fun c57 => ?_) (fun c57 => ?_)
          · have hF := ift c57 hF
            obtain ⟨v3_65, e_v3_65⟩ : ∃ z : Int32, z = w3_32 + 1 := ⟨_, rfl⟩
            have hF := bnd_s e_v3_65 hF
            refine lv_iinc (v := v3_65) (lv' := [(3, .int v3_65), (0, .ref (ad (270))), (1, .int a), (2, .int b)]) hx hb dX6_look_65 hl (k := 0) rfl (by rw [e_v3_65]; rfl) (by decide) rfl (fun ls hl => ?_)
            refine lv_goto (tgt := 32) hx hb dX6_look_68 (by decide) ?_
            exact ih32 v3_65 _ _ ls (ms_s (dec_i4 hi3 e_v3_65) hm32) (ge0_i4 hi3 e_v3_65) hP hS (lv_sub hl [0, 1, 2, 3] rfl) hF
          · have hF := iff_ c57 hF
            refine lv_bipush (v := 100) hx hb dX6_look_60 (by decide) ?_
            refine lv_iload_n hx hb dX6_look_62 rfl (lv_at hl 0 rfl) ?_
            refine lv_iadd hx hb dX6_look_63 ?_
            exact vx_ret (W.widen (Nat.le_of_ble_eq_true rfl) (Nat.le_of_ble_eq_true rfl) (W.iret (v := (100 + w3_32)) hx hb hr (fun t ht hW => ⟨⟨(100 + w3_32), σ27, rfl, ⟨hF.trans hFF, hO⟩, ho_of ht hP⟩, hS.F ht⟩) hS.2.2 dX6_look_64))
    exact L32 BIG 0 _ _ ls (big_i4 _) le0 hP hS (lv_sub hl [0, 1, 2, 3] rfl) hF
  have J26 : ∀  (H : Heap) (locs : List Loc) (ls : Array Slot), va_P D vwCl (pool G ad σ) H → va_S (AA B0) s.heap H locs → lv_has ls 4 [(0, .ref (ad (270))), (1, .int a), (2, .int b)] → f6_look_b26 σ a b  = FF → W p l e (headSpec wsX6_look { frames := 7, cells := 2, slots := 12, locals := 116 }).room s m ([.ref (ad (270)), .int a, .int b] : List Value).toArray below meth c H locs 0 0 (vx_MQ below (va_Qi (fun (r : Int32) (z : Nat → Nat → Int32) => ((Sum.inl r, z) : RT) = f6_look σ a b ∧ okS z) (fun (z : Nat → Nat → Int32) => Ho D G ad z) (AA B0)) (XX D G ad B0 (fun E z => ((Sum.inr E, z) : RT) = f6_look σ a b ∧ okS z)) ([.ref (ad (270)), .int a, .int b] : List Value).toArray s 2 12 (AA B0)) (F0 m 26 ls []) := by
    intro  H locs ls hP hS hl hF
    rw [f6_look_b26] at hF
    refine lv_iconst (v := 0) hx hb dX6_look_26 (by decide) ?_
    exact J27 0 _ _ ls bl0 hP hS (lv_sub hl [0, 1, 2] rfl) hF
  refine lv_if_eq (tgt := 26) hx hb dX6_look_8 (by decide) (fun c8 => ?_) (fun c8 => ?_)
  · have hF := ift c8 hF
    exact J26  _ _ ls hP hS (lv_sub hl [0, 1, 2] rfl) hF
  · have hF := iff_ c8 hF
    refine lv_iload_n hx hb dX6_look_11 rfl (lv_at hl 2 rfl) ?_
    refine lv_iconst (v := 0) hx hb dX6_look_12 (by decide) ?_
    refine lv_sipush (v := 223) hx hb dX6_look_13 (by decide) ?_
    refine va_calli (va_runS (As := [.int b, .int 0, .int 223]) (rest := []) ⟨hx, hb, hml, hown, hts⟩ (c6_isWithin l hA σ b 0 223 ) (va_cwS 3 hts gX6_look_X6_isWithin rfl rfl rfl hd_X6_isWithinS ⟨Nat.le_of_ble_eq_true rfl, Nat.le_of_ble_eq_true rfl⟩) ⟨hp_blind, hp_pre hK hN hP⟩ rfl rfl hl.1 rfl (lv_room (Nat.le_of_ble_eq_true rfl)) dX6_look_16 ⟨Nat.le_of_ble_eq_true rfl, Nat.le_of_ble_eq_true rfl⟩) hS (fun _ _ h => h) (fun _ h => h) (fun r16 _ t H locs ht hvm hw9 hB hz1 hk1 hS => ?_)
    have hP := ho_at ht hB
    obtain ⟨eq16, hb_r16⟩ := hw9
    have hF := bnd_s eq16 hF
    refine lv_if_eq (tgt := 26) hx hb dX6_look_19 (by decide) (fun c19 => ?_) (fun c19 => ?_)
    · have hF := ift c19 hF
      exact J26  _ _ ls hP hS (lv_sub hl [0, 1, 2] rfl) hF
    · have hF := iff_ c19 hF
      refine lv_iconst (v := 1) hx hb dX6_look_22 (by decide) ?_
      refine lv_goto (tgt := 27) hx hb dX6_look_23 (by decide) ?_
      exact J27 1 _ _ ls bl1 hP hS (lv_sub hl [0, 1, 2] rfl) hF
theorem hd_X6_lookV : yX6_look.cls = RX6 ∧ yX6_look.cls ≠ "java/lang/invoke/MethodHandle" ∧ yX6_look.cls ≠ "java/lang/invoke/VarHandle" ∧ (parseMethodDescriptor yX6_look.desc).map (fun d => d.parameters.length) = some 2 := by decide +kernel
set_option maxHeartbeats 4000000 in
set_option maxRecDepth 100000 in
theorem c6_ray (l : Launch) (hl0 : l.stackTraces = false) {D : va_G} {G : CY} {ad : Nat → Nat} {B0 : Nat} (hA : adOK B0 ad) (σ : Nat → Nat → Int32) (a : Int32) (b : Int32) (c1 : Int32) (hO : okS σ) : vx_Met l yX6_ray wsX6_ray { frames := 7, cells := 3, slots := 18, locals := 116 } (va_Pc [.ref (ad (270)), .int a, .int b, .int c1] (Hx XEs D G ad B0 σ)) (va_Qi (fun (r : Int32) (z : Nat → Nat → Int32) => ((Sum.inl r, z) : RT) = f6_ray σ a b c1 ∧ okS z) (fun (z : Nat → Nat → Int32) => Ho D G ad z) (AA B0)) (XX D G ad B0 (fun E z => ((Sum.inr E, z) : RT) = f6_ray σ a b c1 ∧ okS z)) 3 18 (AA B0) := by
  refine vx_ofW (cc := cX6_ray) (maxL := 8) (ret := (some .int)) (by decide) rfl ?_
  intro p e s m args below meth c s₁ B hml htab hv
  obtain ⟨rfl, ⟨hP, hK, hN⟩, hT, hL, adK, adV, hG, hR⟩ := hv
  have hx := B.exec
  have hb := B.bytes
  have hr := B.returns
  have hts := atoms_spec (ws := wsX6_ray) B.pre
  have hown : s.vm.findClass RX6 = some m.cls := findClass_of_methodNamed B.named
  have hlocks := B.notSynchronized
  have inX5 : ∀ w ∈ wsX50, w ∈ wsX6_ray := (fun w h => List.mem_cons_of_mem _ (List.mem_append_left _ (List.mem_append_left _ (List.mem_append_left _ (List.mem_append_right _ h)))))
  have inX6 : ∀ w ∈ wsX60, w ∈ wsX6_ray := (fun w h => List.mem_cons_of_mem _ (List.mem_append_left _ (List.mem_append_left _ (List.mem_append_left _ (List.mem_append_left _ (List.mem_append_right _ h))))))
  have hP : va_P D vwCl (pool G ad σ) s.heap := hP
  have hS : va_S (AA B0) s.heap s.heap [] := va_S.rf
  have hl := lv_entry ([.ref (ad (270)), .int a, .int b, .int c1]) (n := 8) (Nat.le_of_ble_eq_true rfl)
  rw [lg_entry_eq]
  generalize (lg_sl ([.ref (ad (270)), .int a, .int b, .int c1]) ++ List.replicate (8 - (lg_sl ([.ref (ad (270)), .int a, .int b, .int c1])).length) Slot.unset).toArray = ls at hl ⊢
  have hl : lv_has ls 8 [(0, .ref (ad (270))), (1, .int a), (2, .int b), (3, .int c1)] := hl
  obtain ⟨FF, hFF⟩ : ∃ z, z = f6_ray σ a b c1 := ⟨_, rfl⟩
  have hF := hFF.symm
  rw [f6_ray] at hF
  refine lv_iload_n hx hb dX6_ray_0 rfl (lv_at hl 1 rfl) ?_
  refine lv_iconst (v := 0) hx hb dX6_ray_1 (by decide) ?_
  refine lv_sipush (v := 383) hx hb dX6_ray_2 (by decide) ?_
  refine va_calli (va_runS (As := [.int a, .int 0, .int 383]) (rest := []) ⟨hx, hb, hml, hown, hts⟩ (c6_isWithin l hA σ a 0 383 ) (va_cwS 3 hts gX6_ray_X6_isWithin rfl rfl rfl hd_X6_isWithinS ⟨Nat.le_of_ble_eq_true rfl, Nat.le_of_ble_eq_true rfl⟩) ⟨hp_blind, hp_pre hK hN hP⟩ rfl rfl hl.1 rfl (lv_room (Nat.le_of_ble_eq_true rfl)) dX6_ray_5 ⟨Nat.le_of_ble_eq_true rfl, Nat.le_of_ble_eq_true rfl⟩) hS (fun _ _ h => h) (fun _ h => h) (fun r5 _ t H locs ht hvm hw9 hB hz1 hk1 hS => ?_)
  have hP := ho_at ht hB
  obtain ⟨eq5, hb_r5⟩ := hw9
  have hF := bnd_s eq5 hF
  have J27 : ∀ (t0_27 : Int32) (H : Heap) (locs : List Loc) (ls : Array Slot), bl t0_27 → va_P D vwCl (pool G ad σ) H → va_S (AA B0) s.heap H locs → lv_has ls 8 [(0, .ref (ad (270))), (1, .int a), (2, .int b), (3, .int c1)] → f6_ray_b27 σ a b c1 t0_27 = FF → W p l e (headSpec wsX6_ray { frames := 7, cells := 3, slots := 18, locals := 116 }).room s m ([.ref (ad (270)), .int a, .int b, .int c1] : List Value).toArray below meth c H locs 0 0 (vx_MQ below (va_Qi (fun (r : Int32) (z : Nat → Nat → Int32) => ((Sum.inl r, z) : RT) = f6_ray σ a b c1 ∧ okS z) (fun (z : Nat → Nat → Int32) => Ho D G ad z) (AA B0)) (XX D G ad B0 (fun E z => ((Sum.inr E, z) : RT) = f6_ray σ a b c1 ∧ okS z)) ([.ref (ad (270)), .int a, .int b, .int c1] : List Value).toArray s 3 18 (AA B0)) (F0 m 27 ls [.int t0_27]) := by
    intro t0_27 H locs ls hb_t0_27 hP hS hl hF
    rw [f6_ray_b27] at hF
    refine vx_callv (vx_runS (As := [.int t0_27]) (rest := []) ⟨hx, hb, hml, hown, hts⟩ (c6_require l hl0 hA σ t0_27 hO hb_t0_27) (va_cwS 1 hts gX6_ray_X6_require rfl rfl rfl hd_X6_requireS ⟨Nat.le_of_ble_eq_true rfl, Nat.le_of_ble_eq_true rfl⟩) ⟨hx_blind, hx_pre hK hN hT hL hG hR hS hP⟩ rfl rfl hl.1 rfl (lv_room (Nat.le_of_ble_eq_true rfl)) dX6_ray_27 ⟨Nat.le_of_ble_eq_true rfl, Nat.le_of_ble_eq_true rfl⟩) hS (fun _ _ h => h) (fun _ h => h) (fun _ _ h => h) (fun E9 ce9 q9 z9 t9 H9 locs9 ht9 hvm9 hw9 hB9 hz9 hk9 hS9 hce9 hcv9 hcl9 => ?_) (fun u9 t H locs ht hvm hw9 hB hz1 hk1 hS => ?_)
    · obtain ⟨eqx, okx⟩ := hw9
      obtain ⟨rfl, hBx⟩ := hB9
      have hF := bndx_x eqx hF
      exact vx_out (fun x hx => (htab x hx).elim) hlocks hce9 hcv9 hcl9 (fun t8 h8 _ => ⟨z9, ⟨hF.trans hFF, okx⟩, ⟨rfl, ho_of h8 (ho_at ht9 hBx)⟩, hS9.F h8⟩) hS9.2.2 (Nat.le_of_ble_eq_true rfl) (Nat.le_of_ble_eq_true rfl)
    have hP := ho_at ht hB
    obtain ⟨eq27, ok9⟩ := hw9
    obtain ⟨σ27, e_σ27⟩ : ∃ z, z = u9 := ⟨_, rfl⟩
    rw [← e_σ27] at hP eq27 ok9
    have hO := ok9
    have hF := bndx_s eq27 hF
    refine lv_iload_n hx hb dX6_ray_30 rfl (lv_at hl 3 rfl) ?_
    refine lv_iconst (v := 0) hx hb dX6_ray_31 (by decide) ?_
    refine lv_iconst (v := 3) hx hb dX6_ray_32 (by decide) ?_
    refine va_calli (va_runS (As := [.int c1, .int 0, .int 3]) (rest := []) ⟨hx, hb, hml, hown, hts⟩ (c6_isWithin l hA σ27 c1 0 3 ) (va_cwS 3 hts gX6_ray_X6_isWithin rfl rfl rfl hd_X6_isWithinS ⟨Nat.le_of_ble_eq_true rfl, Nat.le_of_ble_eq_true rfl⟩) ⟨hp_blind, hp_pre hK hN hP⟩ rfl rfl hl.1 rfl (lv_room (Nat.le_of_ble_eq_true rfl)) dX6_ray_33 ⟨Nat.le_of_ble_eq_true rfl, Nat.le_of_ble_eq_true rfl⟩) hS (fun _ _ h => h) (fun _ h => h) (fun r33 _ t H locs ht hvm hw9 hB hz1 hk1 hS => ?_)
    have hP := ho_at ht hB
    obtain ⟨eq33, hb_r33⟩ := hw9
    have hF := bnd_s eq33 hF
    refine vx_callv (vx_runS (As := [.int r33]) (rest := []) ⟨hx, hb, hml, hown, hts⟩ (c6_require l hl0 hA σ27 r33 hO hb_r33) (va_cwS 1 hts gX6_ray_X6_require rfl rfl rfl hd_X6_requireS ⟨Nat.le_of_ble_eq_true rfl, Nat.le_of_ble_eq_true rfl⟩) ⟨hx_blind, hx_pre hK hN hT hL hG hR hS hP⟩ rfl rfl hl.1 rfl (lv_room (Nat.le_of_ble_eq_true rfl)) dX6_ray_36 ⟨Nat.le_of_ble_eq_true rfl, Nat.le_of_ble_eq_true rfl⟩) hS (fun _ _ h => h) (fun _ h => h) (fun _ _ h => h) (fun E9 ce9 q9 z9 t9 H9 locs9 ht9 hvm9 hw9 hB9 hz9 hk9 hS9 hce9 hcv9 hcl9 => ?_) (fun u9 t H locs ht hvm hw9 hB hz1 hk1 hS => ?_)
    · obtain ⟨eqx, okx⟩ := hw9
      obtain ⟨rfl, hBx⟩ := hB9
      have hF := bndx_x eqx hF
      exact vx_out (fun x hx => (htab x hx).elim) hlocks hce9 hcv9 hcl9 (fun t8 h8 _ => ⟨z9, ⟨hF.trans hFF, okx⟩, ⟨rfl, ho_of h8 (ho_at ht9 hBx)⟩, hS9.F h8⟩) hS9.2.2 (Nat.le_of_ble_eq_true rfl) (Nat.le_of_ble_eq_true rfl)
    have hP := ho_at ht hB
    obtain ⟨eq36, ok9⟩ := hw9
    obtain ⟨σ36, e_σ36⟩ : ∃ z, z = u9 := ⟨_, rfl⟩
    rw [← e_σ36] at hP eq36 ok9
    have hO := ok9
    have hF := bndx_s eq36 hF
    refine lv_iload_n hx hb dX6_ray_39 rfl (lv_at hl 3 rfl) ?_
    have J57 : ∀ (t0_57 : Int32) (H : Heap) (locs : List Loc) (ls : Array Slot), va_P D vwCl (pool G ad σ36) H → va_S (AA B0) s.heap H locs → lv_has ls 8 [(0, .ref (ad (270))), (1, .int a), (2, .int b), (3, .int c1)] → f6_ray_b57 a b c1 σ36 t0_57 = FF → W p l e (headSpec wsX6_ray { frames := 7, cells := 3, slots := 18, locals := 116 }).room s m ([.ref (ad (270)), .int a, .int b, .int c1] : List Value).toArray below meth c H locs 2 12 (vx_MQ below (va_Qi (fun (r : Int32) (z : Nat → Nat → Int32) => ((Sum.inl r, z) : RT) = f6_ray σ a b c1 ∧ okS z) (fun (z : Nat → Nat → Int32) => Ho D G ad z) (AA B0)) (XX D G ad B0 (fun E z => ((Sum.inr E, z) : RT) = f6_ray σ a b c1 ∧ okS z)) ([.ref (ad (270)), .int a, .int b, .int c1] : List Value).toArray s 3 18 (AA B0)) (F0 m 57 ls [.int t0_57]) := by
      intro t0_57 H locs ls hP hS hl hF
      rw [f6_ray_b57] at hF
      refine lv_istore (lv' := [(4, .int t0_57), (0, .ref (ad (270))), (1, .int a), (2, .int b), (3, .int c1)]) hx hb dX6_ray_57 hl (by decide) rfl (fun ls hl => ?_)
      refine lv_iload_n hx hb dX6_ray_59 rfl (lv_at hl 4 rfl) ?_
      refine lv_iconst (v := 1) hx hb dX6_ray_60 (by decide) ?_
      have J78 : ∀ (t0_78 : Int32) (H : Heap) (locs : List Loc) (ls : Array Slot), va_P D vwCl (pool G ad σ36) H → va_S (AA B0) s.heap H locs → lv_has ls 8 [(4, .int t0_57), (0, .ref (ad (270))), (1, .int a), (2, .int b)] → f6_ray_b78 a b σ36 t0_57 t0_78 = FF → W p l e (headSpec wsX6_ray { frames := 7, cells := 3, slots := 18, locals := 116 }).room s m ([.ref (ad (270)), .int a, .int b, .int c1] : List Value).toArray below meth c H locs 2 12 (vx_MQ below (va_Qi (fun (r : Int32) (z : Nat → Nat → Int32) => ((Sum.inl r, z) : RT) = f6_ray σ a b c1 ∧ okS z) (fun (z : Nat → Nat → Int32) => Ho D G ad z) (AA B0)) (XX D G ad B0 (fun E z => ((Sum.inr E, z) : RT) = f6_ray σ a b c1 ∧ okS z)) ([.ref (ad (270)), .int a, .int b, .int c1] : List Value).toArray s 3 18 (AA B0)) (F0 m 78 ls [.int t0_78]) := by
        intro t0_78 H locs ls hP hS hl hF
        rw [f6_ray_b78] at hF
        refine lv_istore (lv' := [(5, .int t0_78), (4, .int t0_57), (0, .ref (ad (270))), (1, .int a), (2, .int b)]) hx hb dX6_ray_78 hl (by decide) rfl (fun ls hl => ?_)
        refine lv_iconst (v := 0) hx hb dX6_ray_80 (by decide) ?_
        refine lv_istore (lv' := [(6, .int 0), (5, .int t0_78), (4, .int t0_57), (0, .ref (ad (270))), (1, .int a), (2, .int b)]) hx hb dX6_ray_81 hl (by decide) rfl (fun ls hl => ?_)
        have L83 : ∀ (n83 : Nat) (w6_83 : Int32) (H : Heap) (locs : List Loc) (ls : Array Slot), ((400 : Int32).toInt - w6_83.toInt).toNat < n83 → va_P D vwCl (pool G ad σ36) H → va_S (AA B0) s.heap H locs → lv_has ls 8 [(6, .int w6_83), (5, .int t0_78), (4, .int t0_57), (0, .ref (ad (270))), (1, .int a), (2, .int b)] → f6_ray_L83 a b σ36 t0_57 t0_78 n83 w6_83 = FF → W p l e (headSpec wsX6_ray { frames := 7, cells := 3, slots := 18, locals := 116 }).room s m ([.ref (ad (270)), .int a, .int b, .int c1] : List Value).toArray below meth c H locs 2 12 (vx_MQ below (va_Qi (fun (r : Int32) (z : Nat → Nat → Int32) => ((Sum.inl r, z) : RT) = f6_ray σ a b c1 ∧ okS z) (fun (z : Nat → Nat → Int32) => Ho D G ad z) (AA B0)) (XX D G ad B0 (fun E z => ((Sum.inr E, z) : RT) = f6_ray σ a b c1 ∧ okS z)) ([.ref (ad (270)), .int a, .int b, .int c1] : List Value).toArray s 3 18 (AA B0)) (F0 m 83 ls []) := by
          intro n83
          induction n83 with
          | zero => intro w6_83 H locs ls hm; exact absurd hm (Nat.not_lt_zero _)
          | succ n83 ih83 =>
            intro w6_83 H locs ls hm83 hP hS hl hF
            rw [f6_ray_L83] at hF
            refine lv_iload hx hb dX6_ray_83 (lv_at hl 0 rfl) ?_
            refine lv_sipush (v := 400) hx hb dX6_ray_85 (by decide) ?_
            refine lv_icmp_ge (tgt := 145) hx hb dX6_ray_88 (by decide) (fun c88 => ?_) (fun c88 => ?_)
            · have hF := ift c88 hF
              refine lv_iconst (v := (-1)) hx hb dX6_ray_145 (by decide) ?_
              exact vx_ret (W.widen (Nat.le_of_ble_eq_true rfl) (Nat.le_of_ble_eq_true rfl) (W.iret (v := (-1)) hx hb hr (fun t ht hW => ⟨⟨(-1), σ36, rfl, ⟨hF.trans hFF, hO⟩, ho_of ht hP⟩, hS.F ht⟩) hS.2.2 dX6_ray_146))
            · have hF := iff_ c88 hF
              refine lv_iload_n hx hb dX6_ray_91 rfl (lv_at hl 5 rfl) ?_
              refine lv_iload hx hb dX6_ray_92 (lv_at hl 0 rfl) ?_
              refine lv_iload hx hb dX6_ray_94 (lv_at hl 1 rfl) ?_
              refine lv_imul hx hb dX6_ray_96 ?_
              refine lv_iadd hx hb dX6_ray_97 ?_
              refine lv_topi (fun v7_98 e_v7_98 => ?_)
              have hF := bnd_s e_v7_98 hF
              refine lv_istore (lv' := [(7, .int v7_98), (6, .int w6_83), (5, .int t0_78), (4, .int t0_57), (0, .ref (ad (270))), (1, .int a), (2, .int b)]) hx hb dX6_ray_98 hl (by decide) rfl (fun ls hl => ?_)
              refine lv_iload hx hb dX6_ray_100 (lv_at hl 0 rfl) ?_
              refine lv_iconst (v := 0) hx hb dX6_ray_102 (by decide) ?_
              refine lv_sipush (v := 223) hx hb dX6_ray_103 (by decide) ?_
              refine va_calli (va_runS (As := [.int v7_98, .int 0, .int 223]) (rest := []) ⟨hx, hb, hml, hown, hts⟩ (c6_isWithin l hA σ36 v7_98 0 223 ) (va_cwS 3 hts gX6_ray_X6_isWithin rfl rfl rfl hd_X6_isWithinS ⟨Nat.le_of_ble_eq_true rfl, Nat.le_of_ble_eq_true rfl⟩) ⟨hp_blind, hp_pre hK hN hP⟩ rfl rfl hl.1 rfl (lv_room (Nat.le_of_ble_eq_true rfl)) dX6_ray_106 ⟨Nat.le_of_ble_eq_true rfl, Nat.le_of_ble_eq_true rfl⟩) hS (fun _ _ h => h) (fun _ h => h) (fun r106 _ t H locs ht hvm hw9 hB hz1 hk1 hS => ?_)
              have hP := ho_at ht hB
              obtain ⟨eq106, hb_r106⟩ := hw9
              have hF := bnd_s eq106 hF
              refine lv_if_ne (tgt := 114) hx hb dX6_ray_109 (by decide) (fun c109 => ?_) (fun c109 => ?_)
              · have hF := iff_ c109 hF
                refine lv_aload_n hx hb dX6_ray_114 rfl (lv_at hl 4 rfl) ?_
                refine va_get (D := D) (ci := 8) (C := RX6) (T := TX6) (N := 9) hx hb hts inX6 hown hK hP (270) g_270 rfl 0 (by decide) (hts (.fieldLink RX6 12 "TileRunners" "world" "LTileRunners$World;") (List.mem_of_getElem? (i := 1) rfl)) (fun _ h9 => h9) rfl dX6_ray_115 ?_
                refine va_get (D := D) (ci := 7) (C := RX5) (T := TX5) (N := 7) hx hb hts inX5 hown hK hP (18*0+0) (g_o (by decide)) rfl 0 (by decide) (hts (.fieldLink RX6 71 "TileRunners$World" "tiles" "LTileRunners$Tiles;") (List.mem_of_getElem? (i := 2) rfl)) (fun _ h9 => h9) rfl dX6_ray_118 ?_
                refine lv_iload_n hx hb dX6_ray_121 rfl (lv_at hl 5 rfl) ?_
                refine lv_iload hx hb dX6_ray_122 (lv_at hl 1 rfl) ?_
                refine lv_iload hx hb dX6_ray_124 (lv_at hl 3 rfl) ?_
                refine lv_imul hx hb dX6_ray_126 ?_
                refine lv_iadd hx hb dX6_ray_127 ?_
                refine lv_iload hx hb dX6_ray_128 (lv_at hl 0 rfl) ?_
                have hP := f_eta 0 hP
                refine va_calli (va_runV (As := [.int (a + (w6_83 * t0_57)), .int v7_98]) (rest := []) ⟨hx, hb, hml, hown, hts⟩ (c4_isFree l hA σ36 (σ36 0) 0 (by decide) (a + (w6_83 * t0_57)) v7_98 ) (cwV 2 hts gX6_ray_X4_isFree rfl rfl rfl hd_X4_isFreeV ⟨Nat.le_of_ble_eq_true rfl, Nat.le_of_ble_eq_true rfl⟩) ⟨hp_blind, va_recv hK hP (ci := 6) (q0 := 18*0+1) rfl (c_t (by decide)), hp_pre hK hN hP⟩ rfl rfl hl.1 rfl (lv_room (Nat.le_of_ble_eq_true rfl)) dX6_ray_130 ⟨Nat.le_of_ble_eq_true rfl, Nat.le_of_ble_eq_true rfl⟩) hS (fun _ _ h => h) (fun _ h => h) (fun r130 _ t H locs ht hvm hw9 hB hz1 hk1 hS => ?_)
                have hP := ho_at ht hB
                obtain ⟨eq130, hb_r130⟩ := hw9
                rw [up_eta] at hP
                have hF := bnd_s eq130 hF
                refine lv_if_ne (tgt := 139) hx hb dX6_ray_133 (by decide) (fun c133 => ?_) (fun c133 => ?_)
                · have hF := iff_ c133 hF
                  obtain ⟨v6_139, e_v6_139⟩ : ∃ z : Int32, z = w6_83 + 1 := ⟨_, rfl⟩
                  have hF := bnd_s e_v6_139 hF
                  refine lv_iinc (v := v6_139) (lv' := [(6, .int v6_139), (7, .int v7_98), (5, .int t0_78), (4, .int t0_57), (0, .ref (ad (270))), (1, .int a), (2, .int b)]) hx hb dX6_ray_139 hl (k := 1) rfl (by rw [e_v6_139]; rfl) (by decide) rfl (fun ls hl => ?_)
                  refine lv_goto (tgt := 83) hx hb dX6_ray_142 (by decide) ?_
                  exact ih83 v6_139 _ _ ls (ms_s (dec_up (nle_lt c88) e_v6_139) hm83) hP hS (lv_sub hl [0, 2, 3, 4, 5, 6] rfl) hF
                · have hF := ift c133 hF
                  refine lv_iload hx hb dX6_ray_136 (lv_at hl 1 rfl) ?_
                  exact vx_ret (W.widen (Nat.le_of_ble_eq_true rfl) (Nat.le_of_ble_eq_true rfl) (W.iret (v := w6_83) hx hb hr (fun t ht hW => ⟨⟨w6_83, σ36, rfl, ⟨hF.trans hFF, hO⟩, ho_of ht hP⟩, hS.F ht⟩) hS.2.2 dX6_ray_138))
              · have hF := ift c109 hF
                refine lv_iconst (v := (-1)) hx hb dX6_ray_112 (by decide) ?_
                exact vx_ret (W.widen (Nat.le_of_ble_eq_true rfl) (Nat.le_of_ble_eq_true rfl) (W.iret (v := (-1)) hx hb hr (fun t ht hW => ⟨⟨(-1), σ36, rfl, ⟨hF.trans hFF, hO⟩, ho_of ht hP⟩, hS.F ht⟩) hS.2.2 dX6_ray_113))
        exact L83 BIG 0 _ _ ls (big_up _ _) hP hS (lv_sub hl [0, 1, 2, 3, 4, 5] rfl) hF
      refine lv_icmp_ne (tgt := 68) hx hb dX6_ray_61 (by decide) (fun c61 => ?_) (fun c61 => ?_)
      · have hF := iff_ c61 hF
        refine lv_iload_n hx hb dX6_ray_68 rfl (lv_at hl 4 rfl) ?_
        refine lv_iconst (v := 3) hx hb dX6_ray_69 (by decide) ?_
        refine lv_icmp_ne (tgt := 77) hx hb dX6_ray_70 (by decide) (fun c70 => ?_) (fun c70 => ?_)
        · have hF := iff_ c70 hF
          refine lv_iconst (v := 0) hx hb dX6_ray_77 (by decide) ?_
          exact J78 0 _ _ ls hP hS (lv_sub hl [0, 1, 2, 3] rfl) hF
        · have hF := ift c70 hF
          refine lv_iconst (v := (-1)) hx hb dX6_ray_73 (by decide) ?_
          refine lv_goto (tgt := 78) hx hb dX6_ray_74 (by decide) ?_
          exact J78 (-1) _ _ ls hP hS (lv_sub hl [0, 1, 2, 3] rfl) hF
      · have hF := ift c61 hF
        refine lv_iconst (v := 1) hx hb dX6_ray_64 (by decide) ?_
        refine lv_goto (tgt := 78) hx hb dX6_ray_65 (by decide) ?_
        exact J78 1 _ _ ls hP hS (lv_sub hl [0, 1, 2, 3] rfl) hF
    refine lv_if_ne (tgt := 47) hx hb dX6_ray_40 (by decide) (fun c40 => ?_) (fun c40 => ?_)
    · have hF := iff_ c40 hF
      refine lv_iload_n hx hb dX6_ray_47 rfl (lv_at hl 3 rfl) ?_
      refine lv_iconst (v := 2) hx hb dX6_ray_48 (by decide) ?_
      refine lv_icmp_ne (tgt := 56) hx hb dX6_ray_49 (by decide) (fun c49 => ?_) (fun c49 => ?_)
      · have hF := iff_ c49 hF
        refine lv_iconst (v := 0) hx hb dX6_ray_56 (by decide) ?_
        exact J57 0 _ _ ls hP hS (lv_sub hl [0, 1, 2, 3] rfl) hF
      · have hF := ift c49 hF
        refine lv_iconst (v := (-1)) hx hb dX6_ray_52 (by decide) ?_
        refine lv_goto (tgt := 57) hx hb dX6_ray_53 (by decide) ?_
        exact J57 (-1) _ _ ls hP hS (lv_sub hl [0, 1, 2, 3] rfl) hF
    · have hF := ift c40 hF
      refine lv_iconst (v := 1) hx hb dX6_ray_43 (by decide) ?_
      refine lv_goto (tgt := 57) hx hb dX6_ray_44 (by decide) ?_
      exact J57 1 _ _ ls hP hS (lv_sub hl [0, 1, 2, 3] rfl) hF
  have J26 : ∀  (H : Heap) (locs : List Loc) (ls : Array Slot), va_P D vwCl (pool G ad σ) H → va_S (AA B0) s.heap H locs → lv_has ls 8 [(0, .ref (ad (270))), (1, .int a), (2, .int b), (3, .int c1)] → f6_ray_b26 σ a b c1  = FF → W p l e (headSpec wsX6_ray { frames := 7, cells := 3, slots := 18, locals := 116 }).room s m ([.ref (ad (270)), .int a, .int b, .int c1] : List Value).toArray below meth c H locs 0 0 (vx_MQ below (va_Qi (fun (r : Int32) (z : Nat → Nat → Int32) => ((Sum.inl r, z) : RT) = f6_ray σ a b c1 ∧ okS z) (fun (z : Nat → Nat → Int32) => Ho D G ad z) (AA B0)) (XX D G ad B0 (fun E z => ((Sum.inr E, z) : RT) = f6_ray σ a b c1 ∧ okS z)) ([.ref (ad (270)), .int a, .int b, .int c1] : List Value).toArray s 3 18 (AA B0)) (F0 m 26 ls []) := by
    intro  H locs ls hP hS hl hF
    rw [f6_ray_b26] at hF
    refine lv_iconst (v := 0) hx hb dX6_ray_26 (by decide) ?_
    exact J27 0 _ _ ls bl0 hP hS (lv_sub hl [0, 1, 2, 3] rfl) hF
  refine lv_if_eq (tgt := 26) hx hb dX6_ray_8 (by decide) (fun c8 => ?_) (fun c8 => ?_)
  · have hF := ift c8 hF
    exact J26  _ _ ls hP hS (lv_sub hl [0, 1, 2, 3] rfl) hF
  · have hF := iff_ c8 hF
    refine lv_iload_n hx hb dX6_ray_11 rfl (lv_at hl 2 rfl) ?_
    refine lv_iconst (v := 0) hx hb dX6_ray_12 (by decide) ?_
    refine lv_sipush (v := 223) hx hb dX6_ray_13 (by decide) ?_
    refine va_calli (va_runS (As := [.int b, .int 0, .int 223]) (rest := []) ⟨hx, hb, hml, hown, hts⟩ (c6_isWithin l hA σ b 0 223 ) (va_cwS 3 hts gX6_ray_X6_isWithin rfl rfl rfl hd_X6_isWithinS ⟨Nat.le_of_ble_eq_true rfl, Nat.le_of_ble_eq_true rfl⟩) ⟨hp_blind, hp_pre hK hN hP⟩ rfl rfl hl.1 rfl (lv_room (Nat.le_of_ble_eq_true rfl)) dX6_ray_16 ⟨Nat.le_of_ble_eq_true rfl, Nat.le_of_ble_eq_true rfl⟩) hS (fun _ _ h => h) (fun _ h => h) (fun r16 _ t H locs ht hvm hw9 hB hz1 hk1 hS => ?_)
    have hP := ho_at ht hB
    obtain ⟨eq16, hb_r16⟩ := hw9
    have hF := bnd_s eq16 hF
    refine lv_if_eq (tgt := 26) hx hb dX6_ray_19 (by decide) (fun c19 => ?_) (fun c19 => ?_)
    · have hF := ift c19 hF
      exact J26  _ _ ls hP hS (lv_sub hl [0, 1, 2, 3] rfl) hF
    · have hF := iff_ c19 hF
      refine lv_iconst (v := 1) hx hb dX6_ray_22 (by decide) ?_
      refine lv_goto (tgt := 27) hx hb dX6_ray_23 (by decide) ?_
      exact J27 1 _ _ ls bl1 hP hS (lv_sub hl [0, 1, 2, 3] rfl) hF
theorem hd_X6_rayV : yX6_ray.cls = RX6 ∧ yX6_ray.cls ≠ "java/lang/invoke/MethodHandle" ∧ yX6_ray.cls ≠ "java/lang/invoke/VarHandle" ∧ (parseMethodDescriptor yX6_ray.desc).map (fun d => d.parameters.length) = some 3 := by decide +kernel
set_option maxHeartbeats 4000000 in
set_option maxRecDepth 100000 in
theorem c6_press (l : Launch) (hl0 : l.stackTraces = false) {D : va_G} {G : CY} {ad : Nat → Nat} {B0 : Nat} (hA : adOK B0 ad) (σ : Nat → Nat → Int32) (a : Int32) (b : Int32) (hO : okS σ) : vx_Met l yX6_press wsX6_press { frames := 7, cells := 3, slots := 18, locals := 117 } (va_Pc [.ref (ad (270)), .int a, .int b] (Hx XEs D G ad B0 σ)) (va_Qi (fun (r : Int32) (z : Nat → Nat → Int32) => ((Sum.inl r, z) : RT) = f6_press σ a b ∧ okS z) (fun (z : Nat → Nat → Int32) => Ho D G ad z) (AA B0)) (XX D G ad B0 (fun E z => ((Sum.inr E, z) : RT) = f6_press σ a b ∧ okS z)) 3 18 (AA B0) := by
  refine vx_ofW (cc := cX6_press) (maxL := 4) (ret := (some .int)) (by decide) rfl ?_
  intro p e s m args below meth c s₁ B hml htab hv
  obtain ⟨rfl, ⟨hP, hK, hN⟩, hT, hL, adK, adV, hG, hR⟩ := hv
  have hx := B.exec
  have hb := B.bytes
  have hr := B.returns
  have hts := atoms_spec (ws := wsX6_press) B.pre
  have hown : s.vm.findClass RX6 = some m.cls := findClass_of_methodNamed B.named
  have hlocks := B.notSynchronized
  have inX0 : ∀ w ∈ wsX00, w ∈ wsX6_press := (fun w h => List.mem_cons_of_mem _ (List.mem_append_left _ (List.mem_append_left _ (List.mem_append_right _ h))))
  have inX5 : ∀ w ∈ wsX50, w ∈ wsX6_press := (fun w h => List.mem_cons_of_mem _ (List.mem_append_left _ (List.mem_append_left _ (List.mem_append_left _ (List.mem_append_right _ h)))))
  have inX6 : ∀ w ∈ wsX60, w ∈ wsX6_press := (fun w h => List.mem_cons_of_mem _ (List.mem_append_left _ (List.mem_append_left _ (List.mem_append_left _ (List.mem_append_left _ (List.mem_append_right _ h))))))
  have hP : va_P D vwCl (pool G ad σ) s.heap := hP
  have hS : va_S (AA B0) s.heap s.heap [] := va_S.rf
  have hl := lv_entry ([.ref (ad (270)), .int a, .int b]) (n := 4) (Nat.le_of_ble_eq_true rfl)
  rw [lg_entry_eq]
  generalize (lg_sl ([.ref (ad (270)), .int a, .int b]) ++ List.replicate (4 - (lg_sl ([.ref (ad (270)), .int a, .int b])).length) Slot.unset).toArray = ls at hl ⊢
  have hl : lv_has ls 4 [(0, .ref (ad (270))), (1, .int a), (2, .int b)] := hl
  obtain ⟨FF, hFF⟩ : ∃ z, z = f6_press σ a b := ⟨_, rfl⟩
  have hF := hFF.symm
  rw [f6_press] at hF
  refine lv_aload_n hx hb dX6_press_0 rfl (lv_at hl 0 rfl) ?_
  refine lv_iload_n hx hb dX6_press_1 rfl (lv_at hl 1 rfl) ?_
  refine vx_callv (vx_runV (As := [.int a]) (rest := []) ⟨hx, hb, hml, hown, hts⟩ (c6_requireBody l hl0 hA σ a hO) (cwV 1 hts gX6_press_X6_requireBody rfl rfl rfl hd_X6_requireBodyV ⟨Nat.le_of_ble_eq_true rfl, Nat.le_of_ble_eq_true rfl⟩) ⟨hx_blind, va_recv hK hP (ci := 8) (q0 := 270) rfl g_270, hx_pre hK hN hT hL hG hR hS hP⟩ rfl rfl hl.1 rfl (lv_room (Nat.le_of_ble_eq_true rfl)) dX6_press_2 ⟨Nat.le_of_ble_eq_true rfl, Nat.le_of_ble_eq_true rfl⟩) hS (fun _ _ h => h) (fun _ h => h) (fun _ _ h => h) (fun E9 ce9 q9 z9 t9 H9 locs9 ht9 hvm9 hw9 hB9 hz9 hk9 hS9 hce9 hcv9 hcl9 => ?_) (fun u9 t H locs ht hvm hw9 hB hz1 hk1 hS => ?_)
  · obtain ⟨eqx, okx⟩ := hw9
    obtain ⟨rfl, hBx⟩ := hB9
    have hF := bndx_x eqx hF
    exact vx_out (fun x hx => (htab x hx).elim) hlocks hce9 hcv9 hcl9 (fun t8 h8 _ => ⟨z9, ⟨hF.trans hFF, okx⟩, ⟨rfl, ho_of h8 (ho_at ht9 hBx)⟩, hS9.F h8⟩) hS9.2.2 (Nat.le_of_ble_eq_true rfl) (Nat.le_of_ble_eq_true rfl)
  have hP := ho_at ht hB
  obtain ⟨eq2, ok9⟩ := hw9
  obtain ⟨σ2, e_σ2⟩ : ∃ z, z = u9 := ⟨_, rfl⟩
  rw [← e_σ2] at hP eq2 ok9
  have hO := ok9
  have hF := bndx_s eq2 hF
  have hi9 : vp_in a 4 := in_body hO eq2
  refine lv_iload_n hx hb dX6_press_5 rfl (lv_at hl 2 rfl) ?_
  refine lv_iconst (v := 0) hx hb dX6_press_6 (by decide) ?_
  refine lv_bipush (v := 15) hx hb dX6_press_7 (by decide) ?_
  refine va_calli (va_runS (As := [.int b, .int 0, .int 15]) (rest := []) ⟨hx, hb, hml, hown, hts⟩ (c6_isWithin l hA σ2 b 0 15 ) (va_cwS 3 hts gX6_press_X6_isWithin rfl rfl rfl hd_X6_isWithinS ⟨Nat.le_of_ble_eq_true rfl, Nat.le_of_ble_eq_true rfl⟩) ⟨hp_blind, hp_pre hK hN hP⟩ rfl rfl hl.1 rfl (lv_room (Nat.le_of_ble_eq_true rfl)) dX6_press_9 ⟨Nat.le_of_ble_eq_true rfl, Nat.le_of_ble_eq_true rfl⟩) hS (fun _ _ h => h) (fun _ h => h) (fun r9 _ t H locs ht hvm hw9 hB hz1 hk1 hS => ?_)
  have hP := ho_at ht hB
  obtain ⟨eq9, hb_r9⟩ := hw9
  have hF := bnd_s eq9 hF
  refine vx_callv (vx_runS (As := [.int r9]) (rest := []) ⟨hx, hb, hml, hown, hts⟩ (c6_require l hl0 hA σ2 r9 hO hb_r9) (va_cwS 1 hts gX6_press_X6_require rfl rfl rfl hd_X6_requireS ⟨Nat.le_of_ble_eq_true rfl, Nat.le_of_ble_eq_true rfl⟩) ⟨hx_blind, hx_pre hK hN hT hL hG hR hS hP⟩ rfl rfl hl.1 rfl (lv_room (Nat.le_of_ble_eq_true rfl)) dX6_press_12 ⟨Nat.le_of_ble_eq_true rfl, Nat.le_of_ble_eq_true rfl⟩) hS (fun _ _ h => h) (fun _ h => h) (fun _ _ h => h) (fun E9 ce9 q9 z9 t9 H9 locs9 ht9 hvm9 hw9 hB9 hz9 hk9 hS9 hce9 hcv9 hcl9 => ?_) (fun u9 t H locs ht hvm hw9 hB hz1 hk1 hS => ?_)
  · obtain ⟨eqx, okx⟩ := hw9
    obtain ⟨rfl, hBx⟩ := hB9
    have hF := bndx_x eqx hF
    exact vx_out (fun x hx => (htab x hx).elim) hlocks hce9 hcv9 hcl9 (fun t8 h8 _ => ⟨z9, ⟨hF.trans hFF, okx⟩, ⟨rfl, ho_of h8 (ho_at ht9 hBx)⟩, hS9.F h8⟩) hS9.2.2 (Nat.le_of_ble_eq_true rfl) (Nat.le_of_ble_eq_true rfl)
  have hP := ho_at ht hB
  obtain ⟨eq12, ok9⟩ := hw9
  obtain ⟨σ12, e_σ12⟩ : ∃ z, z = u9 := ⟨_, rfl⟩
  rw [← e_σ12] at hP eq12 ok9
  have hO := ok9
  have hF := bndx_s eq12 hF
  refine lv_aload_n hx hb dX6_press_15 rfl (lv_at hl 0 rfl) ?_
  refine va_get (D := D) (ci := 8) (C := RX6) (T := TX6) (N := 9) hx hb hts inX6 hown hK hP (270) g_270 rfl 0 (by decide) (hts (.fieldLink RX6 12 "TileRunners" "world" "LTileRunners$World;") (List.mem_of_getElem? (i := 1) rfl)) (fun _ h9 => h9) rfl dX6_press_16 ?_
  refine va_get (D := D) (ci := 7) (C := RX5) (T := TX5) (N := 7) hx hb hts inX5 hown hK hP (18*0+0) (g_o (by decide)) rfl 1 (by decide) (hts (.fieldLink RX6 102 "TileRunners$World" "bodies" "[LTileRunners$Body;") (List.mem_of_getElem? (i := 2) rfl)) (fun _ h9 => h9) rfl dX6_press_19 ?_
  refine lv_iload_n hx hb dX6_press_22 rfl (lv_at hl 1 rfl) ?_
  have hi_23 : a.toNatClampNeg < 4 := in_lt (i := a) hi9
  refine pqald (t0 := 2) (i := a) hx hb hK hP (c_bs (by decide)) rfl hi9 dX6_press_23 ?_
  refine va_get (D := D) (ci := 2) (C := RX0) (T := TX0) (N := 16) hx hb hts inX0 hown hK hP (18*0+(6+2*a.toNatClampNeg)) (g_b (by decide) hi_23) rfl 11 (by decide) (hts (.fieldLink RX6 132 "TileRunners$Body" "input" "I") (List.mem_of_getElem? (i := 3) rfl)) (fun _ h9 => h9) rfl dX6_press_24 ?_
  refine lv_topi (fun v3_27 e_v3_27 => ?_)
  have hF := bnd_s e_v3_27 hF
  refine lv_istore_n (lv' := [(3, .int v3_27), (0, .ref (ad (270))), (1, .int a), (2, .int b)]) hx hb dX6_press_27 rfl hl (by decide) rfl (fun ls hl => ?_)
  refine lv_aload_n hx hb dX6_press_28 rfl (lv_at hl 1 rfl) ?_
  refine va_get (D := D) (ci := 8) (C := RX6) (T := TX6) (N := 9) hx hb hts inX6 hown hK hP (270) g_270 rfl 0 (by decide) (hts (.fieldLink RX6 12 "TileRunners" "world" "LTileRunners$World;") (List.mem_of_getElem? (i := 1) rfl)) (fun _ h9 => h9) rfl dX6_press_29 ?_
  refine va_get (D := D) (ci := 7) (C := RX5) (T := TX5) (N := 7) hx hb hts inX5 hown hK hP (18*0+0) (g_o (by decide)) rfl 1 (by decide) (hts (.fieldLink RX6 102 "TileRunners$World" "bodies" "[LTileRunners$Body;") (List.mem_of_getElem? (i := 2) rfl)) (fun _ h9 => h9) rfl dX6_press_32 ?_
  refine lv_iload_n hx hb dX6_press_35 rfl (lv_at hl 2 rfl) ?_
  have hi_36 : a.toNatClampNeg < 4 := in_lt (i := a) hi9
  refine pqald (t0 := 2) (i := a) hx hb hK hP (c_bs (by decide)) rfl hi9 dX6_press_36 ?_
  refine lv_iload_n hx hb dX6_press_37 rfl (lv_at hl 3 rfl) ?_
  have hP := f_eta 0 hP
  refine pput hx hb hts inX0 tyX0 tyX0_ok nmX0 hown hK hP hA hS (by decide) (j := 6+2*a.toNatClampNeg) (by omega) (wcel_b hi_36) rfl 11 (by decide) (hts (.fieldLink RX6 132 "TileRunners$Body" "input" "I") (List.mem_of_getElem? (i := 3) rfl)) (fun _ h9 => h9) rfl (tyX0_ok 11 (by decide)) rfl rfl (Nat.le_of_ble_eq_true rfl) (336+24*a.toNatClampNeg+9) (own_b hi_36 (by decide) (by decide)) (setB_11 hi_36) dX6_press_38 (fun u9 H locs eu9 hP hS => ?_)
  obtain ⟨σ38, e_σ38⟩ : ∃ z, z = va_up σ12 0 (va_up (σ12 0) (336+24*a.toNatClampNeg+9) b) := ⟨_, rfl⟩
  rw [eu9, ← e_σ38] at hP
  have hF := bnd_s e_σ38 hF
  have hO := okS_up e_σ38 hO (by decide) (by omega) (by omega)
  refine lv_iload_n hx hb dX6_press_41 rfl (lv_at hl 0 rfl) ?_
  exact vx_ret (W.widen (Nat.le_of_ble_eq_true rfl) (Nat.le_of_ble_eq_true rfl) (W.iret (v := v3_27) hx hb hr (fun t ht hW => ⟨⟨v3_27, σ38, rfl, ⟨hF.trans hFF, hO⟩, ho_of ht hP⟩, hS.F ht⟩) hS.2.2 dX6_press_42))
theorem hd_X6_pressV : yX6_press.cls = RX6 ∧ yX6_press.cls ≠ "java/lang/invoke/MethodHandle" ∧ yX6_press.cls ≠ "java/lang/invoke/VarHandle" ∧ (parseMethodDescriptor yX6_press.desc).map (fun d => d.parameters.length) = some 2 := by decide +kernel
set_option maxHeartbeats 4000000 in
set_option maxRecDepth 100000 in
theorem c6_push (l : Launch) (hl0 : l.stackTraces = false) {D : va_G} {G : CY} {ad : Nat → Nat} {B0 : Nat} (hA : adOK B0 ad) (σ : Nat → Nat → Int32) (a : Int32) (b : Int32) (c1 : Int32) (hO : okS σ) : vx_Met l yX6_push wsX6_push { frames := 7, cells := 3, slots := 18, locals := 117 } (va_Pc [.ref (ad (270)), .int a, .int b, .int c1] (Hx XEs D G ad B0 σ)) (va_Qi (fun (r : Int32) (z : Nat → Nat → Int32) => ((Sum.inl r, z) : RT) = f6_push σ a b c1 ∧ okS z) (fun (z : Nat → Nat → Int32) => Ho D G ad z) (AA B0)) (XX D G ad B0 (fun E z => ((Sum.inr E, z) : RT) = f6_push σ a b c1 ∧ okS z)) 3 18 (AA B0) := by
  refine vx_ofW (cc := cX6_push) (maxL := 6) (ret := (some .int)) (by decide) rfl ?_
  intro p e s m args below meth c s₁ B hml htab hv
  obtain ⟨rfl, ⟨hP, hK, hN⟩, hT, hL, adK, adV, hG, hR⟩ := hv
  have hx := B.exec
  have hb := B.bytes
  have hr := B.returns
  have hts := atoms_spec (ws := wsX6_push) B.pre
  have hown : s.vm.findClass RX6 = some m.cls := findClass_of_methodNamed B.named
  have hlocks := B.notSynchronized
  have inX0 : ∀ w ∈ wsX00, w ∈ wsX6_push := (fun w h => List.mem_cons_of_mem _ (List.mem_append_left _ (List.mem_append_left _ (List.mem_append_right _ h))))
  have inX5 : ∀ w ∈ wsX50, w ∈ wsX6_push := (fun w h => List.mem_cons_of_mem _ (List.mem_append_left _ (List.mem_append_left _ (List.mem_append_left _ (List.mem_append_right _ h)))))
  have inX6 : ∀ w ∈ wsX60, w ∈ wsX6_push := (fun w h => List.mem_cons_of_mem _ (List.mem_append_left _ (List.mem_append_left _ (List.mem_append_left _ (List.mem_append_left _ (List.mem_append_right _ h))))))
  have hP : va_P D vwCl (pool G ad σ) s.heap := hP
  have hS : va_S (AA B0) s.heap s.heap [] := va_S.rf
  have hl := lv_entry ([.ref (ad (270)), .int a, .int b, .int c1]) (n := 6) (Nat.le_of_ble_eq_true rfl)
  rw [lg_entry_eq]
  generalize (lg_sl ([.ref (ad (270)), .int a, .int b, .int c1]) ++ List.replicate (6 - (lg_sl ([.ref (ad (270)), .int a, .int b, .int c1])).length) Slot.unset).toArray = ls at hl ⊢
  have hl : lv_has ls 6 [(0, .ref (ad (270))), (1, .int a), (2, .int b), (3, .int c1)] := hl
  obtain ⟨FF, hFF⟩ : ∃ z, z = f6_push σ a b c1 := ⟨_, rfl⟩
  have hF := hFF.symm
  rw [f6_push] at hF
  refine lv_aload_n hx hb dX6_push_0 rfl (lv_at hl 0 rfl) ?_
  refine lv_iload_n hx hb dX6_push_1 rfl (lv_at hl 1 rfl) ?_
  refine vx_callv (vx_runV (As := [.int a]) (rest := []) ⟨hx, hb, hml, hown, hts⟩ (c6_requireBody l hl0 hA σ a hO) (cwV 1 hts gX6_push_X6_requireBody rfl rfl rfl hd_X6_requireBodyV ⟨Nat.le_of_ble_eq_true rfl, Nat.le_of_ble_eq_true rfl⟩) ⟨hx_blind, va_recv hK hP (ci := 8) (q0 := 270) rfl g_270, hx_pre hK hN hT hL hG hR hS hP⟩ rfl rfl hl.1 rfl (lv_room (Nat.le_of_ble_eq_true rfl)) dX6_push_2 ⟨Nat.le_of_ble_eq_true rfl, Nat.le_of_ble_eq_true rfl⟩) hS (fun _ _ h => h) (fun _ h => h) (fun _ _ h => h) (fun E9 ce9 q9 z9 t9 H9 locs9 ht9 hvm9 hw9 hB9 hz9 hk9 hS9 hce9 hcv9 hcl9 => ?_) (fun u9 t H locs ht hvm hw9 hB hz1 hk1 hS => ?_)
  · obtain ⟨eqx, okx⟩ := hw9
    obtain ⟨rfl, hBx⟩ := hB9
    have hF := bndx_x eqx hF
    exact vx_out (fun x hx => (htab x hx).elim) hlocks hce9 hcv9 hcl9 (fun t8 h8 _ => ⟨z9, ⟨hF.trans hFF, okx⟩, ⟨rfl, ho_of h8 (ho_at ht9 hBx)⟩, hS9.F h8⟩) hS9.2.2 (Nat.le_of_ble_eq_true rfl) (Nat.le_of_ble_eq_true rfl)
  have hP := ho_at ht hB
  obtain ⟨eq2, ok9⟩ := hw9
  obtain ⟨σ2, e_σ2⟩ : ∃ z, z = u9 := ⟨_, rfl⟩
  rw [← e_σ2] at hP eq2 ok9
  have hO := ok9
  have hF := bndx_s eq2 hF
  have hi9 : vp_in a 4 := in_body hO eq2
  refine lv_iload_n hx hb dX6_push_5 rfl (lv_at hl 2 rfl) ?_
  refine lv_bipush (v := (-16)) hx hb dX6_push_6 (by decide) ?_
  refine lv_bipush (v := 16) hx hb dX6_push_8 (by decide) ?_
  refine va_calli (va_runS (As := [.int b, .int (-16), .int 16]) (rest := []) ⟨hx, hb, hml, hown, hts⟩ (c6_isWithin l hA σ2 b (-16) 16 ) (va_cwS 3 hts gX6_push_X6_isWithin rfl rfl rfl hd_X6_isWithinS ⟨Nat.le_of_ble_eq_true rfl, Nat.le_of_ble_eq_true rfl⟩) ⟨hp_blind, hp_pre hK hN hP⟩ rfl rfl hl.1 rfl (lv_room (Nat.le_of_ble_eq_true rfl)) dX6_push_10 ⟨Nat.le_of_ble_eq_true rfl, Nat.le_of_ble_eq_true rfl⟩) hS (fun _ _ h => h) (fun _ h => h) (fun r10 _ t H locs ht hvm hw9 hB hz1 hk1 hS => ?_)
  have hP := ho_at ht hB
  obtain ⟨eq10, hb_r10⟩ := hw9
  have hF := bnd_s eq10 hF
  have J32 : ∀ (t0_32 : Int32) (H : Heap) (locs : List Loc) (ls : Array Slot), bl t0_32 → va_P D vwCl (pool G ad σ2) H → va_S (AA B0) s.heap H locs → lv_has ls 6 [(0, .ref (ad (270))), (1, .int a), (2, .int b), (3, .int c1)] → f6_push_b32 a b c1 σ2 t0_32 = FF → W p l e (headSpec wsX6_push { frames := 7, cells := 3, slots := 18, locals := 117 }).room s m ([.ref (ad (270)), .int a, .int b, .int c1] : List Value).toArray below meth c H locs 1 6 (vx_MQ below (va_Qi (fun (r : Int32) (z : Nat → Nat → Int32) => ((Sum.inl r, z) : RT) = f6_push σ a b c1 ∧ okS z) (fun (z : Nat → Nat → Int32) => Ho D G ad z) (AA B0)) (XX D G ad B0 (fun E z => ((Sum.inr E, z) : RT) = f6_push σ a b c1 ∧ okS z)) ([.ref (ad (270)), .int a, .int b, .int c1] : List Value).toArray s 3 18 (AA B0)) (F0 m 32 ls [.int t0_32]) := by
    intro t0_32 H locs ls hb_t0_32 hP hS hl hF
    rw [f6_push_b32] at hF
    refine vx_callv (vx_runS (As := [.int t0_32]) (rest := []) ⟨hx, hb, hml, hown, hts⟩ (c6_require l hl0 hA σ2 t0_32 hO hb_t0_32) (va_cwS 1 hts gX6_push_X6_require rfl rfl rfl hd_X6_requireS ⟨Nat.le_of_ble_eq_true rfl, Nat.le_of_ble_eq_true rfl⟩) ⟨hx_blind, hx_pre hK hN hT hL hG hR hS hP⟩ rfl rfl hl.1 rfl (lv_room (Nat.le_of_ble_eq_true rfl)) dX6_push_32 ⟨Nat.le_of_ble_eq_true rfl, Nat.le_of_ble_eq_true rfl⟩) hS (fun _ _ h => h) (fun _ h => h) (fun _ _ h => h) (fun E9 ce9 q9 z9 t9 H9 locs9 ht9 hvm9 hw9 hB9 hz9 hk9 hS9 hce9 hcv9 hcl9 => ?_) (fun u9 t H locs ht hvm hw9 hB hz1 hk1 hS => ?_)
    · obtain ⟨eqx, okx⟩ := hw9
      obtain ⟨rfl, hBx⟩ := hB9
      have hF := bndx_x eqx hF
      exact vx_out (fun x hx => (htab x hx).elim) hlocks hce9 hcv9 hcl9 (fun t8 h8 _ => ⟨z9, ⟨hF.trans hFF, okx⟩, ⟨rfl, ho_of h8 (ho_at ht9 hBx)⟩, hS9.F h8⟩) hS9.2.2 (Nat.le_of_ble_eq_true rfl) (Nat.le_of_ble_eq_true rfl)
    have hP := ho_at ht hB
    obtain ⟨eq32, ok9⟩ := hw9
    obtain ⟨σ32, e_σ32⟩ : ∃ z, z = u9 := ⟨_, rfl⟩
    rw [← e_σ32] at hP eq32 ok9
    have hO := ok9
    have hF := bndx_s eq32 hF
    refine lv_aload_n hx hb dX6_push_35 rfl (lv_at hl 0 rfl) ?_
    refine va_get (D := D) (ci := 8) (C := RX6) (T := TX6) (N := 9) hx hb hts inX6 hown hK hP (270) g_270 rfl 0 (by decide) (hts (.fieldLink RX6 12 "TileRunners" "world" "LTileRunners$World;") (List.mem_of_getElem? (i := 1) rfl)) (fun _ h9 => h9) rfl dX6_push_36 ?_
    refine va_get (D := D) (ci := 7) (C := RX5) (T := TX5) (N := 7) hx hb hts inX5 hown hK hP (18*0+0) (g_o (by decide)) rfl 1 (by decide) (hts (.fieldLink RX6 102 "TileRunners$World" "bodies" "[LTileRunners$Body;") (List.mem_of_getElem? (i := 2) rfl)) (fun _ h9 => h9) rfl dX6_push_39 ?_
    refine lv_iload_n hx hb dX6_push_42 rfl (lv_at hl 1 rfl) ?_
    have hi_43 : a.toNatClampNeg < 4 := in_lt (i := a) hi9
    refine pqald (t0 := 2) (i := a) hx hb hK hP (c_bs (by decide)) rfl hi9 dX6_push_43 ?_
    refine lv_astore (lv' := [(4, .ref (ad (18*0+(6+2*a.toNatClampNeg)))), (0, .ref (ad (270))), (1, .int a), (2, .int b), (3, .int c1)]) hx hb dX6_push_44 hl (by decide) rfl (fun ls hl => ?_)
    refine lv_aload hx hb dX6_push_46 (lv_at hl 0 rfl) ?_
    refine va_get (D := D) (ci := 2) (C := RX0) (T := TX0) (N := 16) hx hb hts inX0 hown hK hP (18*0+(6+2*a.toNatClampNeg)) (g_b (by decide) hi_43) rfl 6 (by decide) (hts (.fieldLink RX6 135 "TileRunners$Body" "horizontal" "I") (List.mem_of_getElem? (i := 3) rfl)) (fun _ h9 => h9) rfl dX6_push_48 ?_
    refine lv_aload hx hb dX6_push_51 (lv_at hl 0 rfl) ?_
    refine va_get (D := D) (ci := 2) (C := RX0) (T := TX0) (N := 16) hx hb hts inX0 hown hK hP (18*0+(6+2*a.toNatClampNeg)) (g_b (by decide) hi_43) rfl 6 (by decide) (hts (.fieldLink RX6 135 "TileRunners$Body" "horizontal" "I") (List.mem_of_getElem? (i := 3) rfl)) (fun _ h9 => h9) rfl dX6_push_53 ?_
    refine lv_imul hx hb dX6_push_56 ?_
    refine lv_aload hx hb dX6_push_57 (lv_at hl 0 rfl) ?_
    refine va_get (D := D) (ci := 2) (C := RX0) (T := TX0) (N := 16) hx hb hts inX0 hown hK hP (18*0+(6+2*a.toNatClampNeg)) (g_b (by decide) hi_43) rfl 7 (by decide) (hts (.fieldLink RX6 138 "TileRunners$Body" "vertical" "I") (List.mem_of_getElem? (i := 4) rfl)) (fun _ h9 => h9) rfl dX6_push_59 ?_
    refine lv_aload hx hb dX6_push_62 (lv_at hl 0 rfl) ?_
    refine va_get (D := D) (ci := 2) (C := RX0) (T := TX0) (N := 16) hx hb hts inX0 hown hK hP (18*0+(6+2*a.toNatClampNeg)) (g_b (by decide) hi_43) rfl 7 (by decide) (hts (.fieldLink RX6 138 "TileRunners$Body" "vertical" "I") (List.mem_of_getElem? (i := 4) rfl)) (fun _ h9 => h9) rfl dX6_push_64 ?_
    refine lv_imul hx hb dX6_push_67 ?_
    refine lv_iadd hx hb dX6_push_68 ?_
    refine lv_topi (fun v5_69 e_v5_69 => ?_)
    have hF := bnd_s e_v5_69 hF
    refine lv_istore (lv' := [(5, .int v5_69), (4, .ref (ad (18*0+(6+2*a.toNatClampNeg)))), (0, .ref (ad (270))), (1, .int a), (2, .int b), (3, .int c1)]) hx hb dX6_push_69 hl (by decide) rfl (fun ls hl => ?_)
    refine lv_aload hx hb dX6_push_71 (lv_at hl 1 rfl) ?_
    refine lv_iload_n hx hb dX6_push_73 rfl (lv_at hl 4 rfl) ?_
    have hP := f_eta 0 hP
    refine pput hx hb hts inX0 tyX0 tyX0_ok nmX0 hown hK hP hA hS (by decide) (j := 6+2*a.toNatClampNeg) (by omega) (wcel_b hi_43) rfl 6 (by decide) (hts (.fieldLink RX6 135 "TileRunners$Body" "horizontal" "I") (List.mem_of_getElem? (i := 3) rfl)) (fun _ h9 => h9) rfl (tyX0_ok 6 (by decide)) rfl rfl (Nat.le_of_ble_eq_true rfl) (336+24*a.toNatClampNeg+2) (own_b hi_43 (by decide) (by decide)) (setB_6 hi_43) dX6_push_74 (fun u9 H locs eu9 hP hS => ?_)
    obtain ⟨σ74, e_σ74⟩ : ∃ z, z = va_up σ32 0 (va_up (σ32 0) (336+24*a.toNatClampNeg+2) b) := ⟨_, rfl⟩
    rw [eu9, ← e_σ74] at hP
    have hF := bnd_s e_σ74 hF
    have hO := okS_up e_σ74 hO (by decide) (by omega) (by omega)
    refine lv_aload hx hb dX6_push_77 (lv_at hl 1 rfl) ?_
    refine lv_iload_n hx hb dX6_push_79 rfl (lv_at hl 5 rfl) ?_
    have hP := f_eta 0 hP
    refine pput hx hb hts inX0 tyX0 tyX0_ok nmX0 hown hK hP hA hS (by decide) (j := 6+2*a.toNatClampNeg) (by omega) (wcel_b hi_43) rfl 7 (by decide) (hts (.fieldLink RX6 138 "TileRunners$Body" "vertical" "I") (List.mem_of_getElem? (i := 4) rfl)) (fun _ h9 => h9) rfl (tyX0_ok 7 (by decide)) rfl rfl (Nat.le_of_ble_eq_true rfl) (336+24*a.toNatClampNeg+3) (own_b hi_43 (by decide) (by decide)) (setB_7 hi_43) dX6_push_80 (fun u9 H locs eu9 hP hS => ?_)
    obtain ⟨σ80, e_σ80⟩ : ∃ z, z = va_up σ74 0 (va_up (σ74 0) (336+24*a.toNatClampNeg+3) c1) := ⟨_, rfl⟩
    rw [eu9, ← e_σ80] at hP
    have hF := bnd_s e_σ80 hF
    have hO := okS_up e_σ80 hO (by decide) (by omega) (by omega)
    refine lv_aload hx hb dX6_push_83 (lv_at hl 1 rfl) ?_
    refine lv_iconst (v := 0) hx hb dX6_push_85 (by decide) ?_
    have hP := f_eta 0 hP
    refine pput hx hb hts inX0 tyX0 tyX0_ok nmX0 hown hK hP hA hS (by decide) (j := 6+2*a.toNatClampNeg) (by omega) (wcel_b hi_43) rfl 13 (by decide) (hts (.fieldLink RX6 141 "TileRunners$Body" "rises" "Z") (List.mem_of_getElem? (i := 5) rfl)) (fun _ h9 => h9) rfl (tyX0_ok 13 (by decide)) (bl_nar bl0) (bl_fit bl0) (Nat.le_of_ble_eq_true rfl) (336+24*a.toNatClampNeg+11) (own_b hi_43 (by decide) (by decide)) (setB_13 hi_43 (bl_nb bl0)) dX6_push_86 (fun u9 H locs eu9 hP hS => ?_)
    obtain ⟨σ86, e_σ86⟩ : ∃ z, z = va_up σ80 0 (va_up (σ80 0) (336+24*a.toNatClampNeg+11) 0) := ⟨_, rfl⟩
    rw [eu9, ← e_σ86] at hP
    have hF := bnd_s e_σ86 hF
    have hO := okS_up e_σ86 hO (by decide) (by omega) (by omega)
    refine lv_iload hx hb dX6_push_89 (lv_at hl 0 rfl) ?_
    exact vx_ret (W.widen (Nat.le_of_ble_eq_true rfl) (Nat.le_of_ble_eq_true rfl) (W.iret (v := v5_69) hx hb hr (fun t ht hW => ⟨⟨v5_69, σ86, rfl, ⟨hF.trans hFF, hO⟩, ho_of ht hP⟩, hS.F ht⟩) hS.2.2 dX6_push_91))
  have J31 : ∀  (H : Heap) (locs : List Loc) (ls : Array Slot), va_P D vwCl (pool G ad σ2) H → va_S (AA B0) s.heap H locs → lv_has ls 6 [(0, .ref (ad (270))), (1, .int a), (2, .int b), (3, .int c1)] → f6_push_b31 a b c1 σ2  = FF → W p l e (headSpec wsX6_push { frames := 7, cells := 3, slots := 18, locals := 117 }).room s m ([.ref (ad (270)), .int a, .int b, .int c1] : List Value).toArray below meth c H locs 1 6 (vx_MQ below (va_Qi (fun (r : Int32) (z : Nat → Nat → Int32) => ((Sum.inl r, z) : RT) = f6_push σ a b c1 ∧ okS z) (fun (z : Nat → Nat → Int32) => Ho D G ad z) (AA B0)) (XX D G ad B0 (fun E z => ((Sum.inr E, z) : RT) = f6_push σ a b c1 ∧ okS z)) ([.ref (ad (270)), .int a, .int b, .int c1] : List Value).toArray s 3 18 (AA B0)) (F0 m 31 ls []) := by
    intro  H locs ls hP hS hl hF
    rw [f6_push_b31] at hF
    refine lv_iconst (v := 0) hx hb dX6_push_31 (by decide) ?_
    exact J32 0 _ _ ls bl0 hP hS (lv_sub hl [0, 1, 2, 3] rfl) hF
  refine lv_if_eq (tgt := 31) hx hb dX6_push_13 (by decide) (fun c13 => ?_) (fun c13 => ?_)
  · have hF := ift c13 hF
    exact J31  _ _ ls hP hS (lv_sub hl [0, 1, 2, 3] rfl) hF
  · have hF := iff_ c13 hF
    refine lv_iload_n hx hb dX6_push_16 rfl (lv_at hl 3 rfl) ?_
    refine lv_bipush (v := (-12)) hx hb dX6_push_17 (by decide) ?_
    refine lv_bipush (v := 16) hx hb dX6_push_19 (by decide) ?_
    refine va_calli (va_runS (As := [.int c1, .int (-12), .int 16]) (rest := []) ⟨hx, hb, hml, hown, hts⟩ (c6_isWithin l hA σ2 c1 (-12) 16 ) (va_cwS 3 hts gX6_push_X6_isWithin rfl rfl rfl hd_X6_isWithinS ⟨Nat.le_of_ble_eq_true rfl, Nat.le_of_ble_eq_true rfl⟩) ⟨hp_blind, hp_pre hK hN hP⟩ rfl rfl hl.1 rfl (lv_room (Nat.le_of_ble_eq_true rfl)) dX6_push_21 ⟨Nat.le_of_ble_eq_true rfl, Nat.le_of_ble_eq_true rfl⟩) hS (fun _ _ h => h) (fun _ h => h) (fun r21 _ t H locs ht hvm hw9 hB hz1 hk1 hS => ?_)
    have hP := ho_at ht hB
    obtain ⟨eq21, hb_r21⟩ := hw9
    have hF := bnd_s eq21 hF
    refine lv_if_eq (tgt := 31) hx hb dX6_push_24 (by decide) (fun c24 => ?_) (fun c24 => ?_)
    · have hF := ift c24 hF
      exact J31  _ _ ls hP hS (lv_sub hl [0, 1, 2, 3] rfl) hF
    · have hF := iff_ c24 hF
      refine lv_iconst (v := 1) hx hb dX6_push_27 (by decide) ?_
      refine lv_goto (tgt := 32) hx hb dX6_push_28 (by decide) ?_
      exact J32 1 _ _ ls bl1 hP hS (lv_sub hl [0, 1, 2, 3] rfl) hF
theorem hd_X6_pushV : yX6_push.cls = RX6 ∧ yX6_push.cls ≠ "java/lang/invoke/MethodHandle" ∧ yX6_push.cls ≠ "java/lang/invoke/VarHandle" ∧ (parseMethodDescriptor yX6_push.desc).map (fun d => d.parameters.length) = some 3 := by decide +kernel
