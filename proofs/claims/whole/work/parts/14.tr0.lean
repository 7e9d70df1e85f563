set_option maxHeartbeats 4000000 in
set_option maxRecDepth 100000 in
theorem c6_require (l : Launch) (hl0 : l.stackTraces = false) {D : va_G} {G : CY} {ad : Nat → Nat} {B0 : Nat} (hA : adOK B0 ad) (σ : Nat → Nat → Int32) (a : Int32) (hO : okS σ) (hba : bl a) : vx_Met l yX6_require wsX6_require { frames := 6, cells := 1, slots := 6, locals := 96 } (va_Pc [.int a] (Hx XEs D G ad B0 σ)) (va_Qv (fun (z : Nat → Nat → Int32) => ((Sum.inl 0, z) : RT) = f6_require σ a ∧ okS z) (fun (z : Nat → Nat → Int32) => Ho D G ad z) (AA B0)) (XX D G ad B0 (fun E z => ((Sum.inr E, z) : RT) = f6_require σ a ∧ okS z)) 1 6 (AA B0) := by
  refine vx_ofW (cc := cX6_require) (maxL := 1) (ret := none) (by decide) rfl ?_
  intro p e s m args below meth c s₁ B hml htab hv
  obtain ⟨rfl, ⟨hP, hK, hN⟩, hT, hL, adK, adV, hG, hR⟩ := hv
  have hx := B.exec
  have hb := B.bytes
  have hr := B.returns
  have hts := atoms_spec (ws := wsX6_require) B.pre
  have hown : s.vm.findClass RX6 = some m.cls := findClass_of_methodNamed B.named
  have hlocks := B.notSynchronized
  have hP : va_P D vwCl (pool G ad σ) s.heap := hP
  have hS : va_S (AA B0) s.heap s.heap [] := va_S.rf
  have hl := lv_entry ([.int a]) (n := 1) (Nat.le_of_ble_eq_true rfl)
  rw [lg_entry_eq]
  generalize (lg_sl ([.int a]) ++ List.replicate (1 - (lg_sl ([.int a])).length) Slot.unset).toArray = ls at hl ⊢
  have hl : lv_has ls 1 [(0, .int a)] := hl
  obtain ⟨FF, hFF⟩ : ∃ z, z = f6_require σ a := ⟨_, rfl⟩
  have hF := hFF.symm
  rw [f6_require] at hF
  refine lv_iload_n hx hb dX6_require_0 rfl (lv_at hl 0 rfl) ?_
  refine lv_if_ne (tgt := 15) hx hb dX6_require_1 (by decide) (fun c1 => ?_) (fun c1 => ?_)
  · have hF := iff_ c1 hF
    exact vx_ret (W.widen (Nat.le_of_ble_eq_true rfl) (Nat.le_of_ble_eq_true rfl) (W.vret hx hb hr (fun t ht hW => ⟨⟨σ, rfl, ⟨hF.trans hFF, hO⟩, ho_of ht hP⟩, hS.F ht⟩) hS.2.2 dX6_require_15))
  · have hF := ift c1 hF
    obtain ⟨sa9, hsa9⟩ := hL.1 (298, "an argument or a text is out of range") (by decide)
    exact vx_throwSW (own := RX6) (cls := "java/lang/IllegalArgumentException") (names := ["java/lang/RuntimeException", "java/lang/Exception"]) (ik := 296) (is := 298) (ic := 300) (text := "an argument or a text is out of range") (sa := sa9) hx hb hl0 hown (by decide) (by decide) (hts (.classLink RX6 296 "java/lang/IllegalArgumentException") (List.mem_of_getElem? (i := 1) rfl)) (hts (.initialized "java/lang/IllegalArgumentException") (List.mem_of_getElem? (i := 2) rfl)) hsa9 (hx_hat hL (by decide) (fun w h => hts w ((fun w h => List.mem_cons_of_mem _ (List.mem_append_right _ h)) w h)) xa_302) xg_302 hT.1 hT.2 hS (hl.1.trans hml.symm) dX6_require_4 dX6_require_7 dX6_require_8 dX6_require_11 dX6_require_14 (fun x hx => (htab x hx).elim) (Nat.le_of_ble_eq_true rfl) (Nat.le_of_ble_eq_true rfl) (Nat.le_of_ble_eq_true rfl) (Nat.le_of_ble_eq_true rfl) hlocks (fun t9 a9 h1 h2 => ⟨("java/lang/IllegalArgumentException", σ), ⟨hF.trans hFF, hO⟩, ⟨rfl, (hx_out hP hS h1 h2).1⟩, (hx_out hP hS h1 h2).2⟩) hS.2.2 (Nat.le_of_ble_eq_true rfl) (Nat.le_of_ble_eq_true rfl)
theorem hd_X6_requireS : yX6_require.cls ≠ "java/lang/invoke/MethodHandle" ∧ yX6_require.cls ≠ "java/lang/invoke/VarHandle" ∧ (parseMethodDescriptor yX6_require.desc).map (fun d => d.parameters.length) = some 1 := by decide +kernel
set_option maxHeartbeats 4000000 in
set_option maxRecDepth 100000 in
theorem c6_requireTile (l : Launch) (hl0 : l.stackTraces = false) {D : va_G} {G : CY} {ad : Nat → Nat} {B0 : Nat} (hA : adOK B0 ad) (σ : Nat → Nat → Int32) (a : Int32) (b : Int32) (hO : okS σ) : vx_Met l yX6_requireTile wsX6_requireTile { frames := 6, cells := 1, slots := 6, locals := 96 } (va_Pc [.int a, .int b] (Hx XEs D G ad B0 σ)) (va_Qv (fun (z : Nat → Nat → Int32) => ((Sum.inl 0, z) : RT) = f6_requireTile σ a b ∧ okS z) (fun (z : Nat → Nat → Int32) => Ho D G ad z) (AA B0)) (XX D G ad B0 (fun E z => ((Sum.inr E, z) : RT) = f6_requireTile σ a b ∧ okS z)) 1 6 (AA B0) := by
  refine vx_ofW (cc := cX6_requireTile) (maxL := 2) (ret := none) (by decide) rfl ?_
  intro p e s m args below meth c s₁ B hml htab hv
  obtain ⟨rfl, ⟨hP, hK, hN⟩, hT, hL, adK, adV, hG, hR⟩ := hv
  have hx := B.exec
  have hb := B.bytes
  have hr := B.returns
  have hts := atoms_spec (ws := wsX6_requireTile) B.pre
  have hown : s.vm.findClass RX6 = some m.cls := findClass_of_methodNamed B.named
  have hlocks := B.notSynchronized
  have hP : va_P D vwCl (pool G ad σ) s.heap := hP
  have hS : va_S (AA B0) s.heap s.heap [] := va_S.rf
  have hl := lv_entry ([.int a, .int b]) (n := 2) (Nat.le_of_ble_eq_true rfl)
  rw [lg_entry_eq]
  generalize (lg_sl ([.int a, .int b]) ++ List.replicate (2 - (lg_sl ([.int a, .int b])).length) Slot.unset).toArray = ls at hl ⊢
  have hl : lv_has ls 2 [(0, .int a), (1, .int b)] := hl
  obtain ⟨FF, hFF⟩ : ∃ z, z = f6_requireTile σ a b := ⟨_, rfl⟩
  have hF := hFF.symm
  rw [f6_requireTile] at hF
  refine lv_iload_n hx hb dX6_requireTile_0 rfl (lv_at hl 0 rfl) ?_
  refine lv_iload_n hx hb dX6_requireTile_1 rfl (lv_at hl 1 rfl) ?_
  refine va_calli (va_runS (As := [.int a, .int b]) (rest := []) ⟨hx, hb, hml, hown, hts⟩ (c6_isTile l hA σ a b ) (va_cwS 2 hts gX6_requireTile_X6_isTile rfl rfl rfl hd_X6_isTileS ⟨Nat.le_of_ble_eq_true rfl, Nat.le_of_ble_eq_true rfl⟩) ⟨hp_blind, hp_pre hK hN hP⟩ rfl rfl hl.1 rfl (lv_room (Nat.le_of_ble_eq_true rfl)) dX6_requireTile_2 ⟨Nat.le_of_ble_eq_true rfl, Nat.le_of_ble_eq_true rfl⟩) hS (fun _ _ h => h) (fun _ h => h) (fun r2 _ t H locs ht hvm hw9 hB hz1 hk1 hS => ?_)
  have hP := ho_at ht hB
  obtain ⟨eq2, hb_r2⟩ := hw9
  have hF := bnd_s eq2 hF
  refine lv_if_ne (tgt := 19) hx hb dX6_requireTile_5 (by decide) (fun c5 => ?_) (fun c5 => ?_)
  · have hF := iff_ c5 hF
    exact vx_ret (W.widen (Nat.le_of_ble_eq_true rfl) (Nat.le_of_ble_eq_true rfl) (W.vret hx hb hr (fun t ht hW => ⟨⟨σ, rfl, ⟨hF.trans hFF, hO⟩, ho_of ht hP⟩, hS.F ht⟩) hS.2.2 dX6_requireTile_19))
  · have hF := ift c5 hF
    obtain ⟨sa9, hsa9⟩ := hL.1 (304, "no such tile") (by decide)
    exact vx_throwSW (own := RX6) (cls := "java/lang/IndexOutOfBoundsException") (names := ["java/lang/RuntimeException", "java/lang/Exception"]) (ik := 168) (is := 304) (ic := 172) (text := "no such tile") (sa := sa9) hx hb hl0 hown (by decide) (by decide) (hts (.classLink RX6 168 "java/lang/IndexOutOfBoundsException") (List.mem_of_getElem? (i := 1) rfl)) (hts (.initialized "java/lang/IndexOutOfBoundsException") (List.mem_of_getElem? (i := 2) rfl)) hsa9 (hx_hat hL (by decide) (fun w h => hts w ((fun w h => List.mem_cons_of_mem _ (List.mem_append_right _ h)) w h)) xa_174) xg_174 hT.1 hT.2 hS (hl.1.trans hml.symm) dX6_requireTile_8 dX6_requireTile_11 dX6_requireTile_12 dX6_requireTile_15 dX6_requireTile_18 (fun x hx => (htab x hx).elim) (Nat.le_of_ble_eq_true rfl) (Nat.le_of_ble_eq_true rfl) (Nat.le_of_ble_eq_true rfl) (Nat.le_of_ble_eq_true rfl) hlocks (fun t9 a9 h1 h2 => ⟨("java/lang/IndexOutOfBoundsException", σ), ⟨hF.trans hFF, hO⟩, ⟨rfl, (hx_out hP hS h1 h2).1⟩, (hx_out hP hS h1 h2).2⟩) hS.2.2 (Nat.le_of_ble_eq_true rfl) (Nat.le_of_ble_eq_true rfl)
theorem hd_X6_requireTileS : yX6_requireTile.cls ≠ "java/lang/invoke/MethodHandle" ∧ yX6_requireTile.cls ≠ "java/lang/invoke/VarHandle" ∧ (parseMethodDescriptor yX6_requireTile.desc).map (fun d => d.parameters.length) = some 2 := by decide +kernel
set_option maxHeartbeats 4000000 in
set_option maxRecDepth 100000 in
theorem c6_requireBody (l : Launch) (hl0 : l.stackTraces = false) {D : va_G} {G : CY} {ad : Nat → Nat} {B0 : Nat} (hA : adOK B0 ad) (σ : Nat → Nat → Int32) (a : Int32) (hO : okS σ) : vx_Met l yX6_requireBody wsX6_requireBody { frames := 6, cells := 1, slots := 6, locals := 96 } (va_Pc [.ref (ad (270)), .int a] (Hx XEs D G ad B0 σ)) (va_Qv (fun (z : Nat → Nat → Int32) => ((Sum.inl 0, z) : RT) = f6_requireBody σ a ∧ okS z) (fun (z : Nat → Nat → Int32) => Ho D G ad z) (AA B0)) (XX D G ad B0 (fun E z => ((Sum.inr E, z) : RT) = f6_requireBody σ a ∧ okS z)) 1 6 (AA B0) := by
  refine vx_ofW (cc := cX6_requireBody) (maxL := 2) (ret := none) (by decide) rfl ?_
  intro p e s m args below meth c s₁ B hml htab hv
  obtain ⟨rfl, ⟨hP, hK, hN⟩, hT, hL, adK, adV, hG, hR⟩ := hv
  have hx := B.exec
  have hb := B.bytes
  have hr := B.returns
  have hts := atoms_spec (ws := wsX6_requireBody) B.pre
  have hown : s.vm.findClass RX6 = some m.cls := findClass_of_methodNamed B.named
  have hlocks := B.notSynchronized
  have inX5 : ∀ w ∈ wsX50, w ∈ wsX6_requireBody := (fun w h => List.mem_cons_of_mem _ (List.mem_append_left _ (List.mem_append_right _ h)))
  have inX6 : ∀ w ∈ wsX60, w ∈ wsX6_requireBody := (fun w h => List.mem_cons_of_mem _ (List.mem_append_left _ (List.mem_append_left _ (List.mem_append_right _ h))))
  have hP : va_P D vwCl (pool G ad σ) s.heap := hP
  have hS : va_S (AA B0) s.heap s.heap [] := va_S.rf
  have hl := lv_entry ([.ref (ad (270)), .int a]) (n := 2) (Nat.le_of_ble_eq_true rfl)
  rw [lg_entry_eq]
  generalize (lg_sl ([.ref (ad (270)), .int a]) ++ List.replicate (2 - (lg_sl ([.ref (ad (270)), .int a])).length) Slot.unset).toArray = ls at hl ⊢
  have hl : lv_has ls 2 [(0, .ref (ad (270))), (1, .int a)] := hl
  obtain ⟨FF, hFF⟩ : ∃ z, z = f6_requireBody σ a := ⟨_, rfl⟩
  have hF := hFF.symm
  rw [f6_requireBody] at hF
  refine lv_iload_n hx hb dX6_requireBody_0 rfl (lv_at hl 1 rfl) ?_
  refine lv_iconst (v := 0) hx hb dX6_requireBody_1 (by decide) ?_
  refine lv_aload_n hx hb dX6_requireBody_2 rfl (lv_at hl 0 rfl) ?_
  refine va_get (D := D) (ci := 8) (C := RX6) (T := TX6) (N := 9) hx hb hts inX6 hown hK hP (270) g_270 rfl 0 (by decide) (hts (.fieldLink RX6 12 "TileRunners" "world" "LTileRunners$World;") (List.mem_of_getElem? (i := 3) rfl)) (fun _ h9 => h9) rfl dX6_requireBody_3 ?_
  refine va_get (D := D) (ci := 7) (C := RX5) (T := TX5) (N := 7) hx hb hts inX5 hown hK hP (18*0+0) (g_o (by decide)) rfl 4 (by decide) (hts (.fieldLink RX6 92 "TileRunners$World" "bodyCount" "I") (List.mem_of_getElem? (i := 4) rfl)) (fun _ h9 => h9) rfl dX6_requireBody_6 ?_
  refine lv_iconst (v := 1) hx hb dX6_requireBody_9 (by decide) ?_
  refine lv_isub hx hb dX6_requireBody_10 ?_
  refine va_calli (va_runS (As := [.int a, .int 0, .int ((σ 0 464) - 1)]) (rest := []) ⟨hx, hb, hml, hown, hts⟩ (c6_isWithin l hA σ a 0 ((σ 0 464) - 1) ) (va_cwS 3 hts gX6_requireBody_X6_isWithin rfl rfl rfl hd_X6_isWithinS ⟨Nat.le_of_ble_eq_true rfl, Nat.le_of_ble_eq_true rfl⟩) ⟨hp_blind, hp_pre hK hN hP⟩ rfl rfl hl.1 rfl (lv_room (Nat.le_of_ble_eq_true rfl)) dX6_requireBody_11 ⟨Nat.le_of_ble_eq_true rfl, Nat.le_of_ble_eq_true rfl⟩) hS (fun _ _ h => h) (fun _ h => h) (fun r11 _ t H locs ht hvm hw9 hB hz1 hk1 hS => ?_)
  have hP := ho_at ht hB
  obtain ⟨eq11, hb_r11⟩ := hw9
  have hF := bnd_s eq11 hF
  refine lv_if_ne (tgt := 28) hx hb dX6_requireBody_14 (by decide) (fun c14 => ?_) (fun c14 => ?_)
  · have hF := iff_ c14 hF
    exact vx_ret (W.widen (Nat.le_of_ble_eq_true rfl) (Nat.le_of_ble_eq_true rfl) (W.vret hx hb hr (fun t ht hW => ⟨⟨σ, rfl, ⟨hF.trans hFF, hO⟩, ho_of ht hP⟩, hS.F ht⟩) hS.2.2 dX6_requireBody_28))
  · have hF := ift c14 hF
    obtain ⟨sa9, hsa9⟩ := hL.1 (306, "no such body") (by decide)
    exact vx_throwSW (own := RX6) (cls := "java/lang/IndexOutOfBoundsException") (names := ["java/lang/RuntimeException", "java/lang/Exception"]) (ik := 168) (is := 306) (ic := 172) (text := "no such body") (sa := sa9) hx hb hl0 hown (by decide) (by decide) (hts (.classLink RX6 168 "java/lang/IndexOutOfBoundsException") (List.mem_of_getElem? (i := 1) rfl)) (hts (.initialized "java/lang/IndexOutOfBoundsException") (List.mem_of_getElem? (i := 2) rfl)) hsa9 (hx_hat hL (by decide) (fun w h => hts w ((fun w h => List.mem_cons_of_mem _ (List.mem_append_right _ h)) w h)) xa_174) xg_174 hT.1 hT.2 hS (hl.1.trans hml.symm) dX6_requireBody_17 dX6_requireBody_20 dX6_requireBody_21 dX6_requireBody_24 dX6_requireBody_27 (fun x hx => (htab x hx).elim) (Nat.le_of_ble_eq_true rfl) (Nat.le_of_ble_eq_true rfl) (Nat.le_of_ble_eq_true rfl) (Nat.le_of_ble_eq_true rfl) hlocks (fun t9 a9 h1 h2 => ⟨("java/lang/IndexOutOfBoundsException", σ), ⟨hF.trans hFF, hO⟩, ⟨rfl, (hx_out hP hS h1 h2).1⟩, (hx_out hP hS h1 h2).2⟩) hS.2.2 (Nat.le_of_ble_eq_true rfl) (Nat.le_of_ble_eq_true rfl)
theorem hd_X6_requireBodyV : yX6_requireBody.cls = RX6 ∧ yX6_requireBody.cls ≠ "java/lang/invoke/MethodHandle" ∧ yX6_requireBody.cls ≠ "java/lang/invoke/VarHandle" ∧ (parseMethodDescriptor yX6_requireBody.desc).map (fun d => d.parameters.length) = some 1 := by decide +kernel
set_option maxHeartbeats 4000000 in
set_option maxRecDepth 100000 in
theorem c6_requirePlatform (l : Launch) (hl0 : l.stackTraces = false) {D : va_G} {G : CY} {ad : Nat → Nat} {B0 : Nat} (hA : adOK B0 ad) (σ : Nat → Nat → Int32) (a : Int32) (hO : okS σ) : vx_Met l yX6_requirePlatform wsX6_requirePlatform { frames := 6, cells := 1, slots := 6, locals := 96 } (va_Pc [.ref (ad (270)), .int a] (Hx XEs D G ad B0 σ)) (va_Qv (fun (z : Nat → Nat → Int32) => ((Sum.inl 0, z) : RT) = f6_requirePlatform σ a ∧ okS z) (fun (z : Nat → Nat → Int32) => Ho D G ad z) (AA B0)) (XX D G ad B0 (fun E z => ((Sum.inr E, z) : RT) = f6_requirePlatform σ a ∧ okS z)) 1 6 (AA B0) := by
  refine vx_ofW (cc := cX6_requirePlatform) (maxL := 2) (ret := none) (by decide) rfl ?_
  intro p e s m args below meth c s₁ B hml htab hv
  obtain ⟨rfl, ⟨hP, hK, hN⟩, hT, hL, adK, adV, hG, hR⟩ := hv
  have hx := B.exec
  have hb := B.bytes
  have hr := B.returns
  have hts := atoms_spec (ws := wsX6_requirePlatform) B.pre
  have hown : s.vm.findClass RX6 = some m.cls := findClass_of_methodNamed B.named
  have hlocks := B.notSynchronized
  have inX5 : ∀ w ∈ wsX50, w ∈ wsX6_requirePlatform := (fun w h => List.mem_cons_of_mem _ (List.mem_append_left _ (List.mem_append_right _ h)))
  have inX6 : ∀ w ∈ wsX60, w ∈ wsX6_requirePlatform := (fun w h => List.mem_cons_of_mem _ (List.mem_append_left _ (List.mem_append_left _ (List.mem_append_right _ h))))
  have hP : va_P D vwCl (pool G ad σ) s.heap := hP
  have hS : va_S (AA B0) s.heap s.heap [] := va_S.rf
  have hl := lv_entry ([.ref (ad (270)), .int a]) (n := 2) (Nat.le_of_ble_eq_true rfl)
  rw [lg_entry_eq]
  generalize (lg_sl ([.ref (ad (270)), .int a]) ++ List.replicate (2 - (lg_sl ([.ref (ad (270)), .int a])).length) Slot.unset).toArray = ls at hl ⊢
  have hl : lv_has ls 2 [(0, .ref (ad (270))), (1, .int a)] := hl
  obtain ⟨FF, hFF⟩ : ∃ z, z = f6_requirePlatform σ a := ⟨_, rfl⟩
  have hF := hFF.symm
  rw [f6_requirePlatform] at hF
  refine lv_iload_n hx hb dX6_requirePlatform_0 rfl (lv_at hl 1 rfl) ?_
  refine lv_iconst (v := 0) hx hb dX6_requirePlatform_1 (by decide) ?_
  refine lv_aload_n hx hb dX6_requirePlatform_2 rfl (lv_at hl 0 rfl) ?_
  refine va_get (D := D) (ci := 8) (C := RX6) (T := TX6) (N := 9) hx hb hts inX6 hown hK hP (270) g_270 rfl 0 (by decide) (hts (.fieldLink RX6 12 "TileRunners" "world" "LTileRunners$World;") (List.mem_of_getElem? (i := 3) rfl)) (fun _ h9 => h9) rfl dX6_requirePlatform_3 ?_
  refine va_get (D := D) (ci := 7) (C := RX5) (T := TX5) (N := 7) hx hb hts inX5 hown hK hP (18*0+0) (g_o (by decide)) rfl 5 (by decide) (hts (.fieldLink RX6 144 "TileRunners$World" "platformCount" "I") (List.mem_of_getElem? (i := 4) rfl)) (fun _ h9 => h9) rfl dX6_requirePlatform_6 ?_
  refine lv_iconst (v := 1) hx hb dX6_requirePlatform_9 (by decide) ?_
  refine lv_isub hx hb dX6_requirePlatform_10 ?_
  refine va_calli (va_runS (As := [.int a, .int 0, .int ((σ 0 465) - 1)]) (rest := []) ⟨hx, hb, hml, hown, hts⟩ (c6_isWithin l hA σ a 0 ((σ 0 465) - 1) ) (va_cwS 3 hts gX6_requirePlatform_X6_isWithin rfl rfl rfl hd_X6_isWithinS ⟨Nat.le_of_ble_eq_true rfl, Nat.le_of_ble_eq_true rfl⟩) ⟨hp_blind, hp_pre hK hN hP⟩ rfl rfl hl.1 rfl (lv_room (Nat.le_of_ble_eq_true rfl)) dX6_requirePlatform_11 ⟨Nat.le_of_ble_eq_true rfl, Nat.le_of_ble_eq_true rfl⟩) hS (fun _ _ h => h) (fun _ h => h) (fun r11 _ t H locs ht hvm hw9 hB hz1 hk1 hS => ?_)
  have hP := ho_at ht hB
  obtain ⟨eq11, hb_r11⟩ := hw9
  have hF := bnd_s eq11 hF
  refine lv_if_ne (tgt := 28) hx hb dX6_requirePlatform_14 (by decide) (fun c14 => ?_) (fun c14 => ?_)
  · have hF := iff_ c14 hF
    exact vx_ret (W.widen (Nat.le_of_ble_eq_true rfl) (Nat.le_of_ble_eq_true rfl) (W.vret hx hb hr (fun t ht hW => ⟨⟨σ, rfl, ⟨hF.trans hFF, hO⟩, ho_of ht hP⟩, hS.F ht⟩) hS.2.2 dX6_requirePlatform_28))
  · have hF := ift c14 hF
    obtain ⟨sa9, hsa9⟩ := hL.1 (308, "no such platform") (by decide)
    exact vx_throwSW (own := RX6) (cls := "java/lang/IndexOutOfBoundsException") (names := ["java/lang/RuntimeException", "java/lang/Exception"]) (ik := 168) (is := 308) (ic := 172) (text := "no such platform") (sa := sa9) hx hb hl0 hown (by decide) (by decide) (hts (.classLink RX6 168 "java/lang/IndexOutOfBoundsException") (List.mem_of_getElem? (i := 1) rfl)) (hts (.initialized "java/lang/IndexOutOfBoundsException") (List.mem_of_getElem? (i := 2) rfl)) hsa9 (hx_hat hL (by decide) (fun w h => hts w ((fun w h => List.mem_cons_of_mem _ (List.mem_append_right _ h)) w h)) xa_174) xg_174 hT.1 hT.2 hS (hl.1.trans hml.symm) dX6_requirePlatform_17 dX6_requirePlatform_20 dX6_requirePlatform_21 dX6_requirePlatform_24 dX6_requirePlatform_27 (fun x hx => (htab x hx).elim) (Nat.le_of_ble_eq_true rfl) (Nat.le_of_ble_eq_true rfl) (Nat.le_of_ble_eq_true rfl) (Nat.le_of_ble_eq_true rfl) hlocks (fun t9 a9 h1 h2 => ⟨("java/lang/IndexOutOfBoundsException", σ), ⟨hF.trans hFF, hO⟩, ⟨rfl, (hx_out hP hS h1 h2).1⟩, (hx_out hP hS h1 h2).2⟩) hS.2.2 (Nat.le_of_ble_eq_true rfl) (Nat.le_of_ble_eq_true rfl)
theorem hd_X6_requirePlatformV : yX6_requirePlatform.cls = RX6 ∧ yX6_requirePlatform.cls ≠ "java/lang/invoke/MethodHandle" ∧ yX6_requirePlatform.cls ≠ "java/lang/invoke/VarHandle" ∧ (parseMethodDescriptor yX6_requirePlatform.desc).map (fun d => d.parameters.length) = some 1 := by decide +kernel
