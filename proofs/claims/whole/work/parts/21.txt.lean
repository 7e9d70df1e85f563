set_option maxHeartbeats 4000000 in
set_option maxRecDepth 100000 in
theorem c3_isDigit (l : Launch) {D : va_G} {G : CY} {ad : Nat → Nat} {B0 : Nat} (hA : adOK B0 ad) (σ : Nat → Nat → Int32) (a : Int32) : Met l yX3_isDigit wsX3_isDigit { frames := 0, cells := 0, slots := 0, locals := 0 } (va_Pc [.int a] (Hp D G ad σ)) (va_Qi (fun (r : Int32) (_ : Unit) => r = f3_isDigit a ∧ bl r) (fun (_ : Unit) => Ho D G ad σ) (AA B0)) 0 0 (AA B0) := by
  refine Met.ofW (cc := cX3_isDigit) (maxL := 1) (ret := (some .boolean)) (by decide) rfl ?_
  intro p e s m args below meth c s₁ B hml hv
  obtain ⟨rfl, hP, hK, hN⟩ := hv
  have hx := B.exec
  have hb := B.bytes
  have hr := B.returns
  have hts := atoms_spec (ws := wsX3_isDigit) B.pre
  have hown : s.vm.findClass RX3 = some m.cls := findClass_of_methodNamed B.named
  have hlocks := B.notSynchronized
  have hP : va_P D vwCl (pool G ad σ) s.heap := hP
  have hS : va_S (AA B0) s.heap s.heap [] := va_S.rf
  have hl := lv_entry ([.int a]) (n := 1) (Nat.le_of_ble_eq_true rfl)
  rw [lg_entry_eq]
  generalize (lg_sl ([.int a]) ++ List.replicate (1 - (lg_sl ([.int a])).length) Slot.unset).toArray = ls at hl ⊢
  have hl : lv_has ls 1 [(0, .int a)] := hl
  obtain ⟨FF, hFF⟩ : ∃ z, z = f3_isDigit a := ⟨_, rfl⟩
  have hF := hFF.symm
  rw [f3_isDigit] at hF
  refine lv_iload_n hx hb dX3_isDigit_0 rfl (lv_at hl 0 rfl) ?_
  refine lv_bipush (v := 48) hx hb dX3_isDigit_1 (by decide) ?_
  refine lv_icmp_lt (tgt := 16) hx hb dX3_isDigit_3 (by decide) (fun c3 => ?_) (fun c3 => ?_)
  · have hF := ift c3 hF
    refine lv_iconst (v := 0) hx hb dX3_isDigit_16 (by decide) ?_
    exact W.zret (v := 0) hx hb hr (bl_nar bl0) (fun t ht hW => ⟨⟨0, (), rfl, ⟨hF.trans hFF, bl0⟩, ho_of ht hP⟩, hS.F ht⟩) hS.2.2 dX3_isDigit_17
  · have hF := iff_ c3 hF
    refine lv_iload_n hx hb dX3_isDigit_6 rfl (lv_at hl 0 rfl) ?_
    refine lv_bipush (v := 57) hx hb dX3_isDigit_7 (by decide) ?_
    refine lv_icmp_gt (tgt := 16) hx hb dX3_isDigit_9 (by decide) (fun c9 => ?_) (fun c9 => ?_)
    · have hF := ift c9 hF
      refine lv_iconst (v := 0) hx hb dX3_isDigit_16 (by decide) ?_
      exact W.zret (v := 0) hx hb hr (bl_nar bl0) (fun t ht hW => ⟨⟨0, (), rfl, ⟨hF.trans hFF, bl0⟩, ho_of ht hP⟩, hS.F ht⟩) hS.2.2 dX3_isDigit_17
    · have hF := iff_ c9 hF
      refine lv_iconst (v := 1) hx hb dX3_isDigit_12 (by decide) ?_
      refine lv_goto (tgt := 17) hx hb dX3_isDigit_13 (by decide) ?_
      exact W.zret (v := 1) hx hb hr (bl_nar bl1) (fun t ht hW => ⟨⟨1, (), rfl, ⟨hF.trans hFF, bl1⟩, ho_of ht hP⟩, hS.F ht⟩) hS.2.2 dX3_isDigit_17
theorem hd_X3_isDigitS : yX3_isDigit.cls ≠ "java/lang/invoke/MethodHandle" ∧ yX3_isDigit.cls ≠ "java/lang/invoke/VarHandle" ∧ (parseMethodDescriptor yX3_isDigit.desc).map (fun d => d.parameters.length) = some 1 := by decide +kernel
set_option maxHeartbeats 4000000 in
set_option maxRecDepth 100000 in
theorem c3_takeIn (l : Launch) {D : va_G} {G : CY} {ad : Nat → Nat} {B0 : Nat} (hA : adOK B0 ad) (σ : Nat → Nat → Int32) (u : Nat → Int32) (a : Int32) (hO : okC u) : Met l yX3_takeIn wsX3_takeIn { frames := 0, cells := 0, slots := 0, locals := 0 } (va_Pc [.ref (ad (275)), .int a] (Hp D G ad (va_up σ 15 u))) (va_Qi (fun (r : Int32) (z : Nat → Int32) => (r, z) = f3_takeIn u a ∧ okC z ∧ bl r) (fun (z : Nat → Int32) => Ho D G ad (va_up σ 15 z)) (AA B0)) 0 0 (AA B0) := by
  refine Met.ofW (cc := cX3_takeIn) (maxL := 2) (ret := (some .boolean)) (by decide) rfl ?_
  intro p e s m args below meth c s₁ B hml hv
  obtain ⟨rfl, hP, hK, hN⟩ := hv
  have hx := B.exec
  have hb := B.bytes
  have hr := B.returns
  have hts := atoms_spec (ws := wsX3_takeIn) B.pre
  have hown : s.vm.findClass RX3 = some m.cls := findClass_of_methodNamed B.named
  have hlocks := B.notSynchronized
  have inX3 : ∀ w ∈ wsX30, w ∈ wsX3_takeIn := (fun w h => List.mem_cons_of_mem _ (List.mem_append_left _ (List.mem_append_right _ h)))
  have hP : va_P D vwCl (pool G ad (va_up σ 15 u)) s.heap := hP
  have hS : va_S (AA B0) s.heap s.heap [] := va_S.rf
  have hl := lv_entry ([.ref (ad (275)), .int a]) (n := 2) (Nat.le_of_ble_eq_true rfl)
  rw [lg_entry_eq]
  generalize (lg_sl ([.ref (ad (275)), .int a]) ++ List.replicate (2 - (lg_sl ([.ref (ad (275)), .int a])).length) Slot.unset).toArray = ls at hl ⊢
  have hl : lv_has ls 2 [(0, .ref (ad (275))), (1, .int a)] := hl
  obtain ⟨FF, hFF⟩ : ∃ z, z = f3_takeIn u a := ⟨_, rfl⟩
  have hF := hFF.symm
  rw [f3_takeIn] at hF
  have hO0 := hO
  refine lv_aload_n hx hb dX3_takeIn_0 rfl (lv_at hl 0 rfl) ?_
  refine va_get (D := D) (ci := 5) (C := RX3) (T := TX3) (N := 5) hx hb hts inX3 hown hK hP (275) c_275 rfl 1 (by decide) (hts (.fieldLink RX3 22 "TileRunners$Text" "length" "I") (List.mem_of_getElem? (i := 1) rfl)) (fun _ h9 => h9) rfl dX3_takeIn_1 ?_
  refine lv_bipush (v := 40) hx hb dX3_takeIn_4 (by decide) ?_
  refine lv_icmp_lt (tgt := 11) hx hb dX3_takeIn_6 (by decide) (fun c6 => ?_) (fun c6 => ?_)
  · have hF := ift c6 hF
    refine lv_aload_n hx hb dX3_takeIn_11 rfl (lv_at hl 0 rfl) ?_
    refine va_get (D := D) (ci := 5) (C := RX3) (T := TX3) (N := 5) hx hb hts inX3 hown hK hP (275) c_275 rfl 0 (by decide) (hts (.fieldLink RX3 9 "TileRunners$Text" "signs" "[C") (List.mem_of_getElem? (i := 2) rfl)) (fun _ h9 => h9) rfl dX3_takeIn_12 ?_
    refine lv_aload_n hx hb dX3_takeIn_15 rfl (lv_at hl 0 rfl) ?_
    refine va_get (D := D) (ci := 5) (C := RX3) (T := TX3) (N := 5) hx hb hts inX3 hown hK hP (275) c_275 rfl 1 (by decide) (hts (.fieldLink RX3 22 "TileRunners$Text" "length" "I") (List.mem_of_getElem? (i := 1) rfl)) (fun _ h9 => h9) rfl dX3_takeIn_16 ?_
    refine lv_iload_n hx hb dX3_takeIn_19 rfl (lv_at hl 1 rfl) ?_
    have hin9 : vp_in (u 4) 40 := (in_lt40 hO0.2.2.1.1 c6)
    refine pcst15 (n := 40) (o := 20) (t := 20+(u 4).toNatClampNeg) hx hb hK hP hA hS (j := 276) (by decide) (by decide) (fun _ _ => rfl) (fun k9 hk9 => by unfold own15; repeat first | rw [if_pos (by omega)] | rw [if_neg (by omega)]) hin9 rfl dX3_takeIn_20 (fun u9 H locs eu9 hP hS => ?_)
    have hlt9 := in_lt hin9
    obtain ⟨u20, e_u20⟩ : ∃ z, z = u9 := ⟨_, rfl⟩
    rw [← e_u20] at hP eu9
    have hF := bnd_s eu9 hF
    have eq20 := eu9
    have hO := okC_up eu9 hO (by omega)
    refine lv_aload_n hx hb dX3_takeIn_21 rfl (lv_at hl 0 rfl) ?_
    refine lv_dup hx hb dX3_takeIn_22 rfl ?_
    refine va_get (D := D) (ci := 5) (C := RX3) (T := TX3) (N := 5) hx hb hts inX3 hown hK hP (275) c_275 rfl 1 (by decide) (hts (.fieldLink RX3 22 "TileRunners$Text" "length" "I") (List.mem_of_getElem? (i := 1) rfl)) (fun _ h9 => h9) rfl dX3_takeIn_23 ?_
    refine lv_iconst (v := 1) hx hb dX3_takeIn_26 (by decide) ?_
    refine lv_iadd hx hb dX3_takeIn_27 ?_
    refine pput15 hx hb hts inX3 tyX3 tyX3_ok nmX3 hown hK hP hA hS (j := 275) (by decide) (by decide) rfl rfl 1 (by decide) (hts (.fieldLink RX3 22 "TileRunners$Text" "length" "I") (List.mem_of_getElem? (i := 1) rfl)) (fun _ h9 => h9) rfl (tyX3_ok 1 (by decide)) rfl rfl (Nat.le_of_ble_eq_true rfl) (4) (by decide) (setX_1) dX3_takeIn_28 (fun u9 H locs eu9 hP hS => ?_)
    obtain ⟨u28, e_u28⟩ : ∃ z, z = u9 := ⟨_, rfl⟩
    rw [← e_u28] at hP eu9
    have hF := bnd_s eu9 hF
    have eq28 := eu9
    have hO := (okC_4e eu9 hO (pl40 (by rw [eq20, va_up_ne _ _ (by omega)]; exact hO0.2.2.1.1) (by rw [eq20, va_up_ne _ _ (by omega)]; exact c6)))
    refine lv_iconst (v := 1) hx hb dX3_takeIn_31 (by decide) ?_
    exact W.zret (v := 1) hx hb hr (bl_nar bl1) (fun t ht hW => ⟨⟨1, u28, rfl, ⟨hF.trans hFF, hO, bl1⟩, ho_of ht hP⟩, hS.F ht⟩) hS.2.2 dX3_takeIn_32
  · have hF := iff_ c6 hF
    refine lv_iconst (v := 0) hx hb dX3_takeIn_9 (by decide) ?_
    exact W.zret (v := 0) hx hb hr (bl_nar bl0) (fun t ht hW => ⟨⟨0, u, rfl, ⟨hF.trans hFF, hO, bl0⟩, ho_of ht hP⟩, hS.F ht⟩) hS.2.2 dX3_takeIn_10
theorem hd_X3_takeInV : yX3_takeIn.cls = RX3 ∧ yX3_takeIn.cls ≠ "java/lang/invoke/MethodHandle" ∧ yX3_takeIn.cls ≠ "java/lang/invoke/VarHandle" ∧ (parseMethodDescriptor yX3_takeIn.desc).map (fun d => d.parameters.length) = some 1 := by decide +kernel
set_option maxHeartbeats 4000000 in
set_option maxRecDepth 100000 in
theorem c3_takeOut (l : Launch) {D : va_G} {G : CY} {ad : Nat → Nat} {B0 : Nat} (hA : adOK B0 ad) (σ : Nat → Nat → Int32) (u : Nat → Int32)  (hO : okC u) : Met l yX3_takeOut wsX3_takeOut { frames := 0, cells := 0, slots := 0, locals := 0 } (va_Pc [.ref (ad (275))] (Hp D G ad (va_up σ 15 u))) (va_Qi (fun (r : Int32) (z : Nat → Int32) => (r, z) = f3_takeOut u ∧ okC z ∧ (0 ≤ r.toInt ∧ r.toInt ≤ 40)) (fun (z : Nat → Int32) => Ho D G ad (va_up σ 15 z)) (AA B0)) 0 0 (AA B0) := by
  refine Met.ofW (cc := cX3_takeOut) (maxL := 2) (ret := (some .int)) (by decide) rfl ?_
  intro p e s m args below meth c s₁ B hml hv
  obtain ⟨rfl, hP, hK, hN⟩ := hv
  have hx := B.exec
  have hb := B.bytes
  have hr := B.returns
  have hts := atoms_spec (ws := wsX3_takeOut) B.pre
  have hown : s.vm.findClass RX3 = some m.cls := findClass_of_methodNamed B.named
  have hlocks := B.notSynchronized
  have inX3 : ∀ w ∈ wsX30, w ∈ wsX3_takeOut := (fun w h => List.mem_cons_of_mem _ (List.mem_append_right _ h))
  have hP : va_P D vwCl (pool G ad (va_up σ 15 u)) s.heap := hP
  have hS : va_S (AA B0) s.heap s.heap [] := va_S.rf
  have hl := lv_entry ([.ref (ad (275))]) (n := 2) (Nat.le_of_ble_eq_true rfl)
  rw [lg_entry_eq]
  generalize (lg_sl ([.ref (ad (275))]) ++ List.replicate (2 - (lg_sl ([.ref (ad (275))])).length) Slot.unset).toArray = ls at hl ⊢
  have hl : lv_has ls 2 [(0, .ref (ad (275)))] := hl
  obtain ⟨FF, hFF⟩ : ∃ z, z = f3_takeOut u := ⟨_, rfl⟩
  have hF := hFF.symm
  rw [f3_takeOut] at hF
  have hO0 := hO
  refine lv_aload_n hx hb dX3_takeOut_0 rfl (lv_at hl 0 rfl) ?_
  refine va_get (D := D) (ci := 5) (C := RX3) (T := TX3) (N := 5) hx hb hts inX3 hown hK hP (275) c_275 rfl 1 (by decide) (hts (.fieldLink RX3 22 "TileRunners$Text" "length" "I") (List.mem_of_getElem? (i := 1) rfl)) (fun _ h9 => h9) rfl dX3_takeOut_1 ?_
  refine lv_topi (fun v1_4 e_v1_4 => ?_)
  have hF := bnd_s e_v1_4 hF
  refine lv_istore_n (lv' := [(1, .int v1_4), (0, .ref (ad (275)))]) hx hb dX3_takeOut_4 rfl hl (by decide) rfl (fun ls hl => ?_)
  refine lv_aload_n hx hb dX3_takeOut_5 rfl (lv_at hl 1 rfl) ?_
  refine lv_iconst (v := 0) hx hb dX3_takeOut_6 (by decide) ?_
  refine pput15 hx hb hts inX3 tyX3 tyX3_ok nmX3 hown hK hP hA hS (j := 275) (by decide) (by decide) rfl rfl 1 (by decide) (hts (.fieldLink RX3 22 "TileRunners$Text" "length" "I") (List.mem_of_getElem? (i := 1) rfl)) (fun _ h9 => h9) rfl (tyX3_ok 1 (by decide)) rfl rfl (Nat.le_of_ble_eq_true rfl) (4) (by decide) (setX_1) dX3_takeOut_7 (fun u9 H locs eu9 hP hS => ?_)
  obtain ⟨u7, e_u7⟩ : ∃ z, z = u9 := ⟨_, rfl⟩
  rw [← e_u7] at hP eu9
  have hF := bnd_s eu9 hF
  have hO := (okC_4e eu9 hO ⟨by decide, by decide⟩)
  refine lv_iload_n hx hb dX3_takeOut_10 rfl (lv_at hl 0 rfl) ?_
  exact W.iret (v := v1_4) hx hb hr (fun t ht hW => ⟨⟨v1_4, u7, rfl, ⟨hF.trans hFF, hO, (by rw [e_v1_4]; exact hO0.2.2.1)⟩, ho_of ht hP⟩, hS.F ht⟩) hS.2.2 dX3_takeOut_11
theorem hd_X3_takeOutV : yX3_takeOut.cls = RX3 ∧ yX3_takeOut.cls ≠ "java/lang/invoke/MethodHandle" ∧ yX3_takeOut.cls ≠ "java/lang/invoke/VarHandle" ∧ (parseMethodDescriptor yX3_takeOut.desc).map (fun d => d.parameters.length) = some 0 := by decide +kernel
set_option maxHeartbeats 4000000 in
set_option maxRecDepth 100000 in
theorem c6_append (l : Launch) (hl0 : l.stackTraces = false) {D : va_G} {G : CY} {ad : Nat → Nat} {B0 : Nat} (hA : adOK B0 ad) (σ : Nat → Nat → Int32) (a : Int32) (hO : okS σ) : vx_Met l yX6_append wsX6_append { frames := 6, cells := 1, slots := 6, locals := 96 } (va_Pc [.ref (ad (270)), .int a] (Hx XEs D G ad B0 σ)) (va_Qv (fun (z : Nat → Nat → Int32) => ((Sum.inl 0, z) : RT) = f6_append σ a ∧ okS z) (fun (z : Nat → Nat → Int32) => Ho D G ad z) (AA B0)) (XX D G ad B0 (fun E z => ((Sum.inr E, z) : RT) = f6_append σ a ∧ okS z)) 1 6 (AA B0) := by
  refine vx_ofW (cc := cX6_append) (maxL := 2) (ret := none) (by decide) rfl ?_
  intro p e s m args below meth c s₁ B hml htab hv
  obtain ⟨rfl, ⟨hP, hK, hN⟩, hT, hL, adK, adV, hG, hR⟩ := hv
  have hx := B.exec
  have hb := B.bytes
  have hr := B.returns
  have hts := atoms_spec (ws := wsX6_append) B.pre
  have hown : s.vm.findClass RX6 = some m.cls := findClass_of_methodNamed B.named
  have hlocks := B.notSynchronized
  have inX6 : ∀ w ∈ wsX60, w ∈ wsX6_append := (fun w h => List.mem_cons_of_mem _ (List.mem_append_left _ (List.mem_append_left _ (List.mem_append_left _ (List.mem_append_right _ h)))))
  have hP : va_P D vwCl (pool G ad σ) s.heap := hP
  have hS : va_S (AA B0) s.heap s.heap [] := va_S.rf
  have hl := lv_entry ([.ref (ad (270)), .int a]) (n := 2) (Nat.le_of_ble_eq_true rfl)
  rw [lg_entry_eq]
  generalize (lg_sl ([.ref (ad (270)), .int a]) ++ List.replicate (2 - (lg_sl ([.ref (ad (270)), .int a])).length) Slot.unset).toArray = ls at hl ⊢
  have hl : lv_has ls 2 [(0, .ref (ad (270))), (1, .int a)] := hl
  obtain ⟨FF, hFF⟩ : ∃ z, z = f6_append σ a := ⟨_, rfl⟩
  have hF := hFF.symm
  rw [f6_append] at hF
  refine lv_aload_n hx hb dX6_append_0 rfl (lv_at hl 0 rfl) ?_
  refine va_get (D := D) (ci := 8) (C := RX6) (T := TX6) (N := 9) hx hb hts inX6 hown hK hP (270) g_270 rfl 6 (by decide) (hts (.fieldLink RX6 47 "TileRunners" "text" "LTileRunners$Text;") (List.mem_of_getElem? (i := 3) rfl)) (fun _ h9 => h9) rfl dX6_append_1 ?_
  refine lv_iload_n hx hb dX6_append_4 rfl (lv_at hl 1 rfl) ?_
  have hP := f_eta 15 hP
  refine va_calli (va_runV (As := [.int a]) (rest := []) ⟨hx, hb, hml, hown, hts⟩ (c3_takeIn l hA σ (σ 15) a hO.2.1) (cwV 1 hts gX6_append_X3_takeIn rfl rfl rfl hd_X3_takeInV ⟨Nat.le_of_ble_eq_true rfl, Nat.le_of_ble_eq_true rfl⟩) ⟨hp_blind, va_recv hK hP (ci := 5) (q0 := 275) rfl c_275, hp_pre hK hN hP⟩ rfl rfl hl.1 rfl (lv_room (Nat.le_of_ble_eq_true rfl)) dX6_append_5 ⟨Nat.le_of_ble_eq_true rfl, Nat.le_of_ble_eq_true rfl⟩) hS (fun _ _ h => h) (fun _ h => h) (fun r5 u9 t H locs ht hvm hw9 hB hz1 hk1 hS => ?_)
  have hP := ho_at ht hB
  obtain ⟨eq5, ok9, hb_r5⟩ := hw9
  obtain ⟨σ5, e_σ5⟩ : ∃ z, z = va_up σ 15 u9 := ⟨_, rfl⟩
  rw [← e_σ5] at hP
  have hF := bnd2_s eq5 hF
  have hF := bnd_s e_σ5 hF
  have hO := okS_15 e_σ5 hO ok9
  refine lv_if_ne (tgt := 21) hx hb dX6_append_8 (by decide) (fun c8 => ?_) (fun c8 => ?_)
  · have hF := iff_ c8 hF
    exact vx_ret (W.widen (Nat.le_of_ble_eq_true rfl) (Nat.le_of_ble_eq_true rfl) (W.vret hx hb hr (fun t ht hW => ⟨⟨σ5, rfl, ⟨hF.trans hFF, hO⟩, ho_of ht hP⟩, hS.F ht⟩) hS.2.2 dX6_append_21))
  · have hF := ift c8 hF
    obtain ⟨sa9, hsa9⟩ := hL.1 (254, "the buffer is full") (by decide)
    exact vx_throwS (own := RX6) (cls := "java/lang/IllegalStateException") (names := ["java/lang/RuntimeException", "java/lang/Exception"]) (ik := 95) (is := 254) (ic := 99) (text := "the buffer is full") (sa := sa9) hx hb hl0 hown (by decide) (by decide) (hts (.classLink RX6 95 "java/lang/IllegalStateException") (List.mem_of_getElem? (i := 1) rfl)) (hts (.initialized "java/lang/IllegalStateException") (List.mem_of_getElem? (i := 2) rfl)) hsa9 (hx_hat hL (by decide) (fun w h => hts w ((fun w h => List.mem_cons_of_mem _ (List.mem_append_left _ (List.mem_append_right _ h))) w h)) xa_101) xg_101 hT.1 hT.2 hS (hl.1.trans hml.symm) dX6_append_11 dX6_append_14 dX6_append_15 dX6_append_17 dX6_append_20 (fun x hx => (htab x hx).elim) (Nat.le_of_ble_eq_true rfl) (Nat.le_of_ble_eq_true rfl) (Nat.le_of_ble_eq_true rfl) (Nat.le_of_ble_eq_true rfl) hlocks (fun t9 a9 h1 h2 => ⟨("java/lang/IllegalStateException", σ5), ⟨hF.trans hFF, hO⟩, ⟨rfl, (hx_out hP hS h1 h2).1⟩, (hx_out hP hS h1 h2).2⟩) hS.2.2 (Nat.le_of_ble_eq_true rfl) (Nat.le_of_ble_eq_true rfl)
theorem hd_X6_appendV : yX6_append.cls = RX6 ∧ yX6_append.cls ≠ "java/lang/invoke/MethodHandle" ∧ yX6_append.cls ≠ "java/lang/invoke/VarHandle" ∧ (parseMethodDescriptor yX6_append.desc).map (fun d => d.parameters.length) = some 1 := by decide +kernel
