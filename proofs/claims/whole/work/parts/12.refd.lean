set_option maxHeartbeats 4000000 in
set_option maxRecDepth 100000 in
theorem c7_below (l : Launch) {D : va_G} {G : CY} {ad : Nat → Nat} {B0 : Nat} (hA : adOK B0 ad) (σ : Nat → Nat → Int32) (u : Nat → Int32) (a : Int32) (hO : okM u) : Met l yX7_below wsX7_below { frames := 5, cells := 0, slots := 0, locals := 115 } (va_Pc [.ref (ad (279)), .int a] (Hp D G ad (va_up σ 16 u))) (va_Qi (fun (r : Int32) (z : Nat → Int32) => (r, z) = f7_below u a ∧ okM z) (fun (z : Nat → Int32) => Ho D G ad (va_up σ 16 z)) (AA B0)) 0 0 (AA B0) := by
  refine Met.ofW (cc := cX7_below) (maxL := 2) (ret := (some .int)) (by decide) rfl ?_
  intro p e s m args below meth c s₁ B hml hv
  obtain ⟨rfl, hP, hK, hN⟩ := hv
  have hx := B.exec
  have hb := B.bytes
  have hr := B.returns
  have hts := atoms_spec (ws := wsX7_below) B.pre
  have hown : s.vm.findClass RX7 = some m.cls := findClass_of_methodNamed B.named
  have hlocks := B.notSynchronized
  have inX7 : ∀ w ∈ wsX70, w ∈ wsX7_below := (fun w h => List.mem_cons_of_mem _ (List.mem_append_left _ (List.mem_append_right _ h)))
  have hP : va_P D vwCl (pool G ad (va_up σ 16 u)) s.heap := hP
  have hS : va_S (AA B0) s.heap s.heap [] := va_S.rf
  have hl := lv_entry ([.ref (ad (279)), .int a]) (n := 2) (Nat.le_of_ble_eq_true rfl)
  rw [lg_entry_eq]
  generalize (lg_sl ([.ref (ad (279)), .int a]) ++ List.replicate (2 - (lg_sl ([.ref (ad (279)), .int a])).length) Slot.unset).toArray = ls at hl ⊢
  have hl : lv_has ls 2 [(0, .ref (ad (279))), (1, .int a)] := hl
  obtain ⟨FF, hFF⟩ : ∃ z, z = f7_below u a := ⟨_, rfl⟩
  have hF := hFF.symm
  rw [f7_below] at hF
  refine lv_aload_n hx hb dX7_below_0 rfl (lv_at hl 0 rfl) ?_
  refine lv_iload_n hx hb dX7_below_1 rfl (lv_at hl 1 rfl) ?_
  refine va_calli (va_runV (As := [.int a]) (rest := []) ⟨hx, hb, hml, hown, hts⟩ (c7_isBody l hA σ u a ) (cwV 1 hts gX7_below_X7_isBody rfl rfl rfl hd_X7_isBodyV ⟨Nat.le_of_ble_eq_true rfl, Nat.le_of_ble_eq_true rfl⟩) ⟨hp_blind, va_recv hK hP (ci := 9) (q0 := 279) rfl c_279, hp_pre hK hN hP⟩ rfl rfl hl.1 rfl (lv_room (Nat.le_of_ble_eq_true rfl)) dX7_below_2 ⟨Nat.zero_le _, Nat.zero_le _⟩) hS (fun _ _ h => h) (fun _ h => h) (fun r2 _ t H locs ht hvm hw9 hB hz1 hk1 hS => ?_)
  have hP := ho_at ht hB
  obtain ⟨eq2, hb_r2⟩ := hw9
  have hF := bnd_s eq2 hF
  refine lv_if_ne (tgt := 14) hx hb dX7_below_5 (by decide) (fun c5 => ?_) (fun c5 => ?_)
  · have hF := iff_ c5 hF
    have hba := body_in hO.1 eq2 c5
    refine lv_aload_n hx hb dX7_below_14 rfl (lv_at hl 0 rfl) ?_
    refine lv_iconst (v := 0) hx hb dX7_below_15 (by decide) ?_
    refine pput16 hx hb hts inX7 tyX7 tyX7_ok nmX7 hown hK hP hA hS (j := 279) (by decide) (by decide) rfl rfl 0 (by decide) (hts (.fieldLink RX7 45 "TileRunnersModel" "thrown" "I") (List.mem_of_getElem? (i := 1) rfl)) (fun _ h9 => h9) rfl (tyX7_ok 0 (by decide)) rfl rfl (Nat.le_of_ble_eq_true rfl) (490) (by decide) (setM_0) dX7_below_16 (fun u9 H locs eu9 hP hS => ?_)
    obtain ⟨u16, e_u16⟩ : ∃ z, z = u9 := ⟨_, rfl⟩
    rw [← e_u16] at hP eu9
    have hF := bnd_s eu9 hF
    have hO := okM_up eu9 hO (by omega) (by omega) (by omega)
    refine lv_aload_n hx hb dX7_below_19 rfl (lv_at hl 0 rfl) ?_
    refine lv_iload_n hx hb dX7_below_20 rfl (lv_at hl 1 rfl) ?_
    refine lv_aload_n hx hb dX7_below_21 rfl (lv_at hl 0 rfl) ?_
    refine lv_iload_n hx hb dX7_below_22 rfl (lv_at hl 1 rfl) ?_
    refine lv_iconst (v := 0) hx hb dX7_below_23 (by decide) ?_
    refine va_calli (va_runV (As := [.int a, .int 0]) (rest := [.int a, .ref (ad (279))]) ⟨hx, hb, hml, hown, hts⟩ (c7_of l hA σ u16 a 0 (vp_in_iff.mpr (by decide)) hba) (cwV 2 hts gX7_below_X7_of rfl rfl rfl hd_X7_ofV ⟨Nat.le_of_ble_eq_true rfl, Nat.le_of_ble_eq_true rfl⟩) ⟨hp_blind, va_recv hK hP (ci := 9) (q0 := 279) rfl c_279, hp_pre hK hN hP⟩ rfl rfl hl.1 rfl (lv_room (Nat.le_of_ble_eq_true rfl)) dX7_below_24 ⟨Nat.zero_le _, Nat.zero_le _⟩) hS (fun _ _ h => h) (fun _ h => h) (fun r24 _ t H locs ht hvm hw9 hB hz1 hk1 hS => ?_)
    have hP := ho_at ht hB
    have eq24 := hw9
    have hF := bnd_s eq24 hF
    refine lv_aload_n hx hb dX7_below_27 rfl (lv_at hl 0 rfl) ?_
    refine lv_iload_n hx hb dX7_below_28 rfl (lv_at hl 1 rfl) ?_
    refine lv_iconst (v := 1) hx hb dX7_below_29 (by decide) ?_
    refine va_calli (va_runV (As := [.int a, .int 1]) (rest := [.int r24, .int a, .ref (ad (279))]) ⟨hx, hb, hml, hown, hts⟩ (c7_of l hA σ u16 a 1 (vp_in_iff.mpr (by decide)) hba) (cwV 2 hts gX7_below_X7_of rfl rfl rfl hd_X7_ofV ⟨Nat.le_of_ble_eq_true rfl, Nat.le_of_ble_eq_true rfl⟩) ⟨hp_blind, va_recv hK hP (ci := 9) (q0 := 279) rfl c_279, hp_pre hK hN hP⟩ rfl rfl hl.1 rfl (lv_room (Nat.le_of_ble_eq_true rfl)) dX7_below_30 ⟨Nat.zero_le _, Nat.zero_le _⟩) hS (fun _ _ h => h) (fun _ h => h) (fun r30 _ t H locs ht hvm hw9 hB hz1 hk1 hS => ?_)
    have hP := ho_at ht hB
    have eq30 := hw9
    have hF := bnd_s eq30 hF
    refine va_calli (va_runV (As := [.int a, .int r24, .int r30]) (rest := []) ⟨hx, hb, hml, hown, hts⟩ (c7_firmBelow l hA σ u16 a r24 r30 hba) (cwV 3 hts gX7_below_X7_firmBelow rfl rfl rfl hd_X7_firmBelowV ⟨Nat.le_of_ble_eq_true rfl, Nat.le_of_ble_eq_true rfl⟩) ⟨hp_blind, va_recv hK hP (ci := 9) (q0 := 279) rfl c_279, hp_pre hK hN hP⟩ rfl rfl hl.1 rfl (lv_room (Nat.le_of_ble_eq_true rfl)) dX7_below_33 ⟨Nat.zero_le _, Nat.zero_le _⟩) hS (fun _ _ h => h) (fun _ h => h) (fun r33 _ t H locs ht hvm hw9 hB hz1 hk1 hS => ?_)
    have hP := ho_at ht hB
    have eq33 := hw9
    have hF := bnd_s eq33 hF
    exact W.iret (v := r33) hx hb hr (fun t ht hW => ⟨⟨r33, u16, rfl, ⟨hF.trans hFF, hO⟩, ho_of ht hP⟩, hS.F ht⟩) hS.2.2 dX7_below_36
  · have hF := ift c5 hF
    refine lv_aload_n hx hb dX7_below_8 rfl (lv_at hl 0 rfl) ?_
    refine lv_iconst (v := 1) hx hb dX7_below_9 (by decide) ?_
    refine va_calli (va_runV (As := [.int 1]) (rest := []) ⟨hx, hb, hml, hown, hts⟩ (c7_fails l hA σ u 1 hO) (cwV 1 hts gX7_below_X7_fails rfl rfl rfl hd_X7_failsV ⟨Nat.le_of_ble_eq_true rfl, Nat.le_of_ble_eq_true rfl⟩) ⟨hp_blind, va_recv hK hP (ci := 9) (q0 := 279) rfl c_279, hp_pre hK hN hP⟩ rfl rfl hl.1 rfl (lv_room (Nat.le_of_ble_eq_true rfl)) dX7_below_10 ⟨Nat.zero_le _, Nat.zero_le _⟩) hS (fun _ _ h => h) (fun _ h => h) (fun r10 u9 t H locs ht hvm hw9 hB hz1 hk1 hS => ?_)
    have hP := ho_at ht hB
    obtain ⟨eq10, ok9⟩ := hw9
    obtain ⟨u10, e_u10⟩ : ∃ z, z = u9 := ⟨_, rfl⟩
    rw [← e_u10] at hP eq10 ok9
    have hO := ok9
    have hF := bnd2_s eq10 hF
    exact W.iret (v := r10) hx hb hr (fun t ht hW => ⟨⟨r10, u10, rfl, ⟨hF.trans hFF, hO⟩, ho_of ht hP⟩, hS.F ht⟩) hS.2.2 dX7_below_13
theorem hd_X7_belowV : yX7_below.cls = RX7 ∧ yX7_below.cls ≠ "java/lang/invoke/MethodHandle" ∧ yX7_below.cls ≠ "java/lang/invoke/VarHandle" ∧ (parseMethodDescriptor yX7_below.desc).map (fun d => d.parameters.length) = some 1 := by decide +kernel
set_option maxHeartbeats 4000000 in
set_option maxRecDepth 100000 in
theorem c7_isBlocked (l : Launch) {D : va_G} {G : CY} {ad : Nat → Nat} {B0 : Nat} (hA : adOK B0 ad) (σ : Nat → Nat → Int32) (u : Nat → Int32) (a : Int32) (b : Int32) (c1 : Int32) (hO : okM u) : Met l yX7_isBlocked wsX7_isBlocked { frames := 5, cells := 0, slots := 0, locals := 113 } (va_Pc [.ref (ad (279)), .int a, .int b, .int c1] (Hp D G ad (va_up σ 16 u))) (va_Qi (fun (r : Int32) (z : Nat → Int32) => (r, z) = f7_isBlocked u a b c1 ∧ okM z ∧ bl r) (fun (z : Nat → Int32) => Ho D G ad (va_up σ 16 z)) (AA B0)) 0 0 (AA B0) := by
  refine Met.ofW (cc := cX7_isBlocked) (maxL := 4) (ret := (some .boolean)) (by decide) rfl ?_
  intro p e s m args below meth c s₁ B hml hv
  obtain ⟨rfl, hP, hK, hN⟩ := hv
  have hx := B.exec
  have hb := B.bytes
  have hr := B.returns
  have hts := atoms_spec (ws := wsX7_isBlocked) B.pre
  have hown : s.vm.findClass RX7 = some m.cls := findClass_of_methodNamed B.named
  have hlocks := B.notSynchronized
  have inX7 : ∀ w ∈ wsX70, w ∈ wsX7_isBlocked := (fun w h => List.mem_cons_of_mem _ (List.mem_append_left _ (List.mem_append_right _ h)))
  have hP : va_P D vwCl (pool G ad (va_up σ 16 u)) s.heap := hP
  have hS : va_S (AA B0) s.heap s.heap [] := va_S.rf
  have hl := lv_entry ([.ref (ad (279)), .int a, .int b, .int c1]) (n := 4) (Nat.le_of_ble_eq_true rfl)
  rw [lg_entry_eq]
  generalize (lg_sl ([.ref (ad (279)), .int a, .int b, .int c1]) ++ List.replicate (4 - (lg_sl ([.ref (ad (279)), .int a, .int b, .int c1])).length) Slot.unset).toArray = ls at hl ⊢
  have hl : lv_has ls 4 [(0, .ref (ad (279))), (1, .int a), (2, .int b), (3, .int c1)] := hl
  obtain ⟨FF, hFF⟩ : ∃ z, z = f7_isBlocked u a b c1 := ⟨_, rfl⟩
  have hF := hFF.symm
  rw [f7_isBlocked] at hF
  refine lv_aload_n hx hb dX7_isBlocked_0 rfl (lv_at hl 0 rfl) ?_
  refine lv_iload_n hx hb dX7_isBlocked_1 rfl (lv_at hl 1 rfl) ?_
  refine va_calli (va_runV (As := [.int a]) (rest := []) ⟨hx, hb, hml, hown, hts⟩ (c7_isBody l hA σ u a ) (cwV 1 hts gX7_isBlocked_X7_isBody rfl rfl rfl hd_X7_isBodyV ⟨Nat.le_of_ble_eq_true rfl, Nat.le_of_ble_eq_true rfl⟩) ⟨hp_blind, va_recv hK hP (ci := 9) (q0 := 279) rfl c_279, hp_pre hK hN hP⟩ rfl rfl hl.1 rfl (lv_room (Nat.le_of_ble_eq_true rfl)) dX7_isBlocked_2 ⟨Nat.zero_le _, Nat.zero_le _⟩) hS (fun _ _ h => h) (fun _ h => h) (fun r2 _ t H locs ht hvm hw9 hB hz1 hk1 hS => ?_)
  have hP := ho_at ht hB
  obtain ⟨eq2, hb_r2⟩ := hw9
  have hF := bnd_s eq2 hF
  refine lv_if_ne (tgt := 14) hx hb dX7_isBlocked_5 (by decide) (fun c5 => ?_) (fun c5 => ?_)
  · have hF := iff_ c5 hF
    have hba := body_in hO.1 eq2 c5
    refine lv_iload_n hx hb dX7_isBlocked_14 rfl (lv_at hl 2 rfl) ?_
    refine lv_sipush (v := (-400)) hx hb dX7_isBlocked_15 (by decide) ?_
    refine lv_sipush (v := 400) hx hb dX7_isBlocked_18 (by decide) ?_
    refine va_calli (va_runS (As := [.int b, .int (-400), .int 400]) (rest := []) ⟨hx, hb, hml, hown, hts⟩ (c7_isBetween l hA (va_up σ 16 u) b (-400) 400 ) (va_cwS 3 hts gX7_isBlocked_X7_isBetween rfl rfl rfl hd_X7_isBetweenS ⟨Nat.le_of_ble_eq_true rfl, Nat.le_of_ble_eq_true rfl⟩) ⟨hp_blind, hp_pre hK hN hP⟩ rfl rfl hl.1 rfl (lv_room (Nat.le_of_ble_eq_true rfl)) dX7_isBlocked_21 ⟨Nat.zero_le _, Nat.zero_le _⟩) hS (fun _ _ h => h) (fun _ h => h) (fun r21 _ t H locs ht hvm hw9 hB hz1 hk1 hS => ?_)
    have hP := ho_at ht hB
    obtain ⟨eq21, hb_r21⟩ := hw9
    have hF := bnd_s eq21 hF
    refine lv_if_eq (tgt := 40) hx hb dX7_isBlocked_24 (by decide) (fun c24 => ?_) (fun c24 => ?_)
    · have hF := ift c24 hF
      refine lv_aload_n hx hb dX7_isBlocked_40 rfl (lv_at hl 0 rfl) ?_
      refine lv_iconst (v := 2) hx hb dX7_isBlocked_41 (by decide) ?_
      refine va_calli (va_runV (As := [.int 2]) (rest := []) ⟨hx, hb, hml, hown, hts⟩ (c7_refuses l hA σ u 2 hO) (cwV 1 hts gX7_isBlocked_X7_refuses rfl rfl rfl hd_X7_refusesV ⟨Nat.le_of_ble_eq_true rfl, Nat.le_of_ble_eq_true rfl⟩) ⟨hp_blind, va_recv hK hP (ci := 9) (q0 := 279) rfl c_279, hp_pre hK hN hP⟩ rfl rfl hl.1 rfl (lv_room (Nat.le_of_ble_eq_true rfl)) dX7_isBlocked_42 ⟨Nat.zero_le _, Nat.zero_le _⟩) hS (fun _ _ h => h) (fun _ h => h) (fun r42 u9 t H locs ht hvm hw9 hB hz1 hk1 hS => ?_)
      have hP := ho_at ht hB
      obtain ⟨eq42, ok9, hb_r42⟩ := hw9
      obtain ⟨u42, e_u42⟩ : ∃ z, z = u9 := ⟨_, rfl⟩
      rw [← e_u42] at hP eq42 ok9
      have hO := ok9
      have hF := bnd2_s eq42 hF
      exact W.zret (v := r42) hx hb hr (bl_nar hb_r42) (fun t ht hW => ⟨⟨r42, u42, rfl, ⟨hF.trans hFF, hO, hb_r42⟩, ho_of ht hP⟩, hS.F ht⟩) hS.2.2 dX7_isBlocked_45
    · have hF := iff_ c24 hF
      refine lv_iload_n hx hb dX7_isBlocked_27 rfl (lv_at hl 3 rfl) ?_
      refine lv_sipush (v := (-400)) hx hb dX7_isBlocked_28 (by decide) ?_
      refine lv_sipush (v := 400) hx hb dX7_isBlocked_31 (by decide) ?_
      refine va_calli (va_runS (As := [.int c1, .int (-400), .int 400]) (rest := []) ⟨hx, hb, hml, hown, hts⟩ (c7_isBetween l hA (va_up σ 16 u) c1 (-400) 400 ) (va_cwS 3 hts gX7_isBlocked_X7_isBetween rfl rfl rfl hd_X7_isBetweenS ⟨Nat.le_of_ble_eq_true rfl, Nat.le_of_ble_eq_true rfl⟩) ⟨hp_blind, hp_pre hK hN hP⟩ rfl rfl hl.1 rfl (lv_room (Nat.le_of_ble_eq_true rfl)) dX7_isBlocked_34 ⟨Nat.zero_le _, Nat.zero_le _⟩) hS (fun _ _ h => h) (fun _ h => h) (fun r34 _ t H locs ht hvm hw9 hB hz1 hk1 hS => ?_)
      have hP := ho_at ht hB
      obtain ⟨eq34, hb_r34⟩ := hw9
      have hF := bnd_s eq34 hF
      refine lv_if_ne (tgt := 46) hx hb dX7_isBlocked_37 (by decide) (fun c37 => ?_) (fun c37 => ?_)
      · have hF := iff_ c37 hF
        refine lv_aload_n hx hb dX7_isBlocked_46 rfl (lv_at hl 0 rfl) ?_
        refine lv_iconst (v := 0) hx hb dX7_isBlocked_47 (by decide) ?_
        refine pput16 hx hb hts inX7 tyX7 tyX7_ok nmX7 hown hK hP hA hS (j := 279) (by decide) (by decide) rfl rfl 0 (by decide) (hts (.fieldLink RX7 45 "TileRunnersModel" "thrown" "I") (List.mem_of_getElem? (i := 1) rfl)) (fun _ h9 => h9) rfl (tyX7_ok 0 (by decide)) rfl rfl (Nat.le_of_ble_eq_true rfl) (490) (by decide) (setM_0) dX7_isBlocked_48 (fun u9 H locs eu9 hP hS => ?_)
        obtain ⟨u48, e_u48⟩ : ∃ z, z = u9 := ⟨_, rfl⟩
        rw [← e_u48] at hP eu9
        have hF := bnd_s eu9 hF
        have hO := okM_up eu9 hO (by omega) (by omega) (by omega)
        refine lv_aload_n hx hb dX7_isBlocked_51 rfl (lv_at hl 0 rfl) ?_
        refine lv_iload_n hx hb dX7_isBlocked_52 rfl (lv_at hl 1 rfl) ?_
        refine lv_aload_n hx hb dX7_isBlocked_53 rfl (lv_at hl 0 rfl) ?_
        refine lv_iload_n hx hb dX7_isBlocked_54 rfl (lv_at hl 1 rfl) ?_
        refine lv_iconst (v := 0) hx hb dX7_isBlocked_55 (by decide) ?_
        refine va_calli (va_runV (As := [.int a, .int 0]) (rest := [.int a, .ref (ad (279))]) ⟨hx, hb, hml, hown, hts⟩ (c7_of l hA σ u48 a 0 (vp_in_iff.mpr (by decide)) hba) (cwV 2 hts gX7_isBlocked_X7_of rfl rfl rfl hd_X7_ofV ⟨Nat.le_of_ble_eq_true rfl, Nat.le_of_ble_eq_true rfl⟩) ⟨hp_blind, va_recv hK hP (ci := 9) (q0 := 279) rfl c_279, hp_pre hK hN hP⟩ rfl rfl hl.1 rfl (lv_room (Nat.le_of_ble_eq_true rfl)) dX7_isBlocked_56 ⟨Nat.zero_le _, Nat.zero_le _⟩) hS (fun _ _ h => h) (fun _ h => h) (fun r56 _ t H locs ht hvm hw9 hB hz1 hk1 hS => ?_)
        have hP := ho_at ht hB
        have eq56 := hw9
        have hF := bnd_s eq56 hF
        refine lv_iload_n hx hb dX7_isBlocked_59 rfl (lv_at hl 2 rfl) ?_
        refine lv_iadd hx hb dX7_isBlocked_60 ?_
        refine lv_aload_n hx hb dX7_isBlocked_61 rfl (lv_at hl 0 rfl) ?_
        refine lv_iload_n hx hb dX7_isBlocked_62 rfl (lv_at hl 1 rfl) ?_
        refine lv_iconst (v := 1) hx hb dX7_isBlocked_63 (by decide) ?_
        refine va_calli (va_runV (As := [.int a, .int 1]) (rest := [.int (r56 + b), .int a, .ref (ad (279))]) ⟨hx, hb, hml, hown, hts⟩ (c7_of l hA σ u48 a 1 (vp_in_iff.mpr (by decide)) hba) (cwV 2 hts gX7_isBlocked_X7_of rfl rfl rfl hd_X7_ofV ⟨Nat.le_of_ble_eq_true rfl, Nat.le_of_ble_eq_true rfl⟩) ⟨hp_blind, va_recv hK hP (ci := 9) (q0 := 279) rfl c_279, hp_pre hK hN hP⟩ rfl rfl hl.1 rfl (lv_room (Nat.le_of_ble_eq_true rfl)) dX7_isBlocked_64 ⟨Nat.zero_le _, Nat.zero_le _⟩) hS (fun _ _ h => h) (fun _ h => h) (fun r64 _ t H locs ht hvm hw9 hB hz1 hk1 hS => ?_)
        have hP := ho_at ht hB
        have eq64 := hw9
        have hF := bnd_s eq64 hF
        refine lv_iload_n hx hb dX7_isBlocked_67 rfl (lv_at hl 3 rfl) ?_
        refine lv_iadd hx hb dX7_isBlocked_68 ?_
        refine va_calli (va_runV (As := [.int a, .int (r56 + b), .int (r64 + c1)]) (rest := []) ⟨hx, hb, hml, hown, hts⟩ (c7_blocks l hA σ u48 a (r56 + b) (r64 + c1) hba) (cwV 3 hts gX7_isBlocked_X7_blocks rfl rfl rfl hd_X7_blocksV ⟨Nat.le_of_ble_eq_true rfl, Nat.le_of_ble_eq_true rfl⟩) ⟨hp_blind, va_recv hK hP (ci := 9) (q0 := 279) rfl c_279, hp_pre hK hN hP⟩ rfl rfl hl.1 rfl (lv_room (Nat.le_of_ble_eq_true rfl)) dX7_isBlocked_69 ⟨Nat.zero_le _, Nat.zero_le _⟩) hS (fun _ _ h => h) (fun _ h => h) (fun r69 _ t H locs ht hvm hw9 hB hz1 hk1 hS => ?_)
        have hP := ho_at ht hB
        obtain ⟨eq69, hb_r69⟩ := hw9
        have hF := bnd_s eq69 hF
        exact W.zret (v := r69) hx hb hr (bl_nar hb_r69) (fun t ht hW => ⟨⟨r69, u48, rfl, ⟨hF.trans hFF, hO, hb_r69⟩, ho_of ht hP⟩, hS.F ht⟩) hS.2.2 dX7_isBlocked_72
      · have hF := ift c37 hF
        refine lv_aload_n hx hb dX7_isBlocked_40 rfl (lv_at hl 0 rfl) ?_
        refine lv_iconst (v := 2) hx hb dX7_isBlocked_41 (by decide) ?_
        refine va_calli (va_runV (As := [.int 2]) (rest := []) ⟨hx, hb, hml, hown, hts⟩ (c7_refuses l hA σ u 2 hO) (cwV 1 hts gX7_isBlocked_X7_refuses rfl rfl rfl hd_X7_refusesV ⟨Nat.le_of_ble_eq_true rfl, Nat.le_of_ble_eq_true rfl⟩) ⟨hp_blind, va_recv hK hP (ci := 9) (q0 := 279) rfl c_279, hp_pre hK hN hP⟩ rfl rfl hl.1 rfl (lv_room (Nat.le_of_ble_eq_true rfl)) dX7_isBlocked_42 ⟨Nat.zero_le _, Nat.zero_le _⟩) hS (fun _ _ h => h) (fun _ h => h) (fun r42 u9 t H locs ht hvm hw9 hB hz1 hk1 hS => ?_)
        have hP := ho_at ht hB
        obtain ⟨eq42, ok9, hb_r42⟩ := hw9
        obtain ⟨u42, e_u42⟩ : ∃ z, z = u9 := ⟨_, rfl⟩
        rw [← e_u42] at hP eq42 ok9
        have hO := ok9
        have hF := bnd2_s eq42 hF
        exact W.zret (v := r42) hx hb hr (bl_nar hb_r42) (fun t ht hW => ⟨⟨r42, u42, rfl, ⟨hF.trans hFF, hO, hb_r42⟩, ho_of ht hP⟩, hS.F ht⟩) hS.2.2 dX7_isBlocked_45
  · have hF := ift c5 hF
    refine lv_aload_n hx hb dX7_isBlocked_8 rfl (lv_at hl 0 rfl) ?_
    refine lv_iconst (v := 1) hx hb dX7_isBlocked_9 (by decide) ?_
    refine va_calli (va_runV (As := [.int 1]) (rest := []) ⟨hx, hb, hml, hown, hts⟩ (c7_refuses l hA σ u 1 hO) (cwV 1 hts gX7_isBlocked_X7_refuses rfl rfl rfl hd_X7_refusesV ⟨Nat.le_of_ble_eq_true rfl, Nat.le_of_ble_eq_true rfl⟩) ⟨hp_blind, va_recv hK hP (ci := 9) (q0 := 279) rfl c_279, hp_pre hK hN hP⟩ rfl rfl hl.1 rfl (lv_room (Nat.le_of_ble_eq_true rfl)) dX7_isBlocked_10 ⟨Nat.zero_le _, Nat.zero_le _⟩) hS (fun _ _ h => h) (fun _ h => h) (fun r10 u9 t H locs ht hvm hw9 hB hz1 hk1 hS => ?_)
    have hP := ho_at ht hB
    obtain ⟨eq10, ok9, hb_r10⟩ := hw9
    obtain ⟨u10, e_u10⟩ : ∃ z, z = u9 := ⟨_, rfl⟩
    rw [← e_u10] at hP eq10 ok9
    have hO := ok9
    have hF := bnd2_s eq10 hF
    exact W.zret (v := r10) hx hb hr (bl_nar hb_r10) (fun t ht hW => ⟨⟨r10, u10, rfl, ⟨hF.trans hFF, hO, hb_r10⟩, ho_of ht hP⟩, hS.F ht⟩) hS.2.2 dX7_isBlocked_13
theorem hd_X7_isBlockedV : yX7_isBlocked.cls = RX7 ∧ yX7_isBlocked.cls ≠ "java/lang/invoke/MethodHandle" ∧ yX7_isBlocked.cls ≠ "java/lang/invoke/VarHandle" ∧ (parseMethodDescriptor yX7_isBlocked.desc).map (fun d => d.parameters.length) = some 3 := by decide +kernel
set_option maxHeartbeats 4000000 in
set_option maxRecDepth 100000 in
theorem c7_clearance (l : Launch) {D : va_G} {G : CY} {ad : Nat → Nat} {B0 : Nat} (hA : adOK B0 ad) (σ : Nat → Nat → Int32) (u : Nat → Int32) (a : Int32) (b : Int32) (hO : okM u) : Met l yX7_clearance wsX7_clearance { frames := 9, cells := 0, slots := 0, locals := 211 } (va_Pc [.ref (ad (279)), .int a, .int b] (Hp D G ad (va_up σ 16 u))) (va_Qi (fun (r : Int32) (z : Nat → Int32) => (r, z) = f7_clearance u a b ∧ okM z) (fun (z : Nat → Int32) => Ho D G ad (va_up σ 16 z)) (AA B0)) 0 0 (AA B0) := by
  refine Met.ofW (cc := cX7_clearance) (maxL := 6) (ret := (some .int)) (by decide) rfl ?_
  intro p e s m args below meth c s₁ B hml hv
  obtain ⟨rfl, hP, hK, hN⟩ := hv
  have hx := B.exec
  have hb := B.bytes
  have hr := B.returns
  have hts := atoms_spec (ws := wsX7_clearance) B.pre
  have hown : s.vm.findClass RX7 = some m.cls := findClass_of_methodNamed B.named
  have hlocks := B.notSynchronized
  have inX7 : ∀ w ∈ wsX70, w ∈ wsX7_clearance := (fun w h => List.mem_cons_of_mem _ (List.mem_append_left _ (List.mem_append_right _ h)))
  have hP : va_P D vwCl (pool G ad (va_up σ 16 u)) s.heap := hP
  have hS : va_S (AA B0) s.heap s.heap [] := va_S.rf
  have hl := lv_entry ([.ref (ad (279)), .int a, .int b]) (n := 6) (Nat.le_of_ble_eq_true rfl)
  rw [lg_entry_eq]
  generalize (lg_sl ([.ref (ad (279)), .int a, .int b]) ++ List.replicate (6 - (lg_sl ([.ref (ad (279)), .int a, .int b])).length) Slot.unset).toArray = ls at hl ⊢
  have hl : lv_has ls 6 [(0, .ref (ad (279))), (1, .int a), (2, .int b)] := hl
  obtain ⟨FF, hFF⟩ : ∃ z, z = f7_clearance u a b := ⟨_, rfl⟩
  have hF := hFF.symm
  rw [f7_clearance] at hF
  refine lv_aload_n hx hb dX7_clearance_0 rfl (lv_at hl 0 rfl) ?_
  refine lv_iload_n hx hb dX7_clearance_1 rfl (lv_at hl 1 rfl) ?_
  refine va_calli (va_runV (As := [.int a]) (rest := []) ⟨hx, hb, hml, hown, hts⟩ (c7_isBody l hA σ u a ) (cwV 1 hts gX7_clearance_X7_isBody rfl rfl rfl hd_X7_isBodyV ⟨Nat.le_of_ble_eq_true rfl, Nat.le_of_ble_eq_true rfl⟩) ⟨hp_blind, va_recv hK hP (ci := 9) (q0 := 279) rfl c_279, hp_pre hK hN hP⟩ rfl rfl hl.1 rfl (lv_room (Nat.le_of_ble_eq_true rfl)) dX7_clearance_2 ⟨Nat.zero_le _, Nat.zero_le _⟩) hS (fun _ _ h => h) (fun _ h => h) (fun r2 _ t H locs ht hvm hw9 hB hz1 hk1 hS => ?_)
  have hP := ho_at ht hB
  obtain ⟨eq2, hb_r2⟩ := hw9
  have hF := bnd_s eq2 hF
  refine lv_if_ne (tgt := 14) hx hb dX7_clearance_5 (by decide) (fun c5 => ?_) (fun c5 => ?_)
  · have hF := iff_ c5 hF
    have hba := body_in hO.1 eq2 c5
    refine lv_iload_n hx hb dX7_clearance_14 rfl (lv_at hl 2 rfl) ?_
    refine lv_iconst (v := (-1)) hx hb dX7_clearance_15 (by decide) ?_
    have J30 : ∀  (H : Heap) (locs : List Loc) (ls : Array Slot), va_P D vwCl (pool G ad (va_up σ 16 u)) H → va_S (AA B0) s.heap H locs → lv_has ls 6 [(0, .ref (ad (279))), (1, .int a), (2, .int b)] → f7_clearance_b30 u a b  = FF → W p l e (headSpec wsX7_clearance { frames := 9, cells := 0, slots := 0, locals := 211 }).room s m ([.ref (ad (279)), .int a, .int b] : List Value).toArray below meth c H locs 0 0 (MQ below (va_Qi (fun (r : Int32) (z : Nat → Int32) => (r, z) = f7_clearance u a b ∧ okM z) (fun (z : Nat → Int32) => Ho D G ad (va_up σ 16 z)) (AA B0)) ([.ref (ad (279)), .int a, .int b] : List Value).toArray s 0 0 (AA B0)) (F0 m 30 ls []) := by
      intro  H locs ls hP hS hl hF
      rw [f7_clearance_b30] at hF
      refine lv_aload_n hx hb dX7_clearance_30 rfl (lv_at hl 0 rfl) ?_
      refine lv_iconst (v := 0) hx hb dX7_clearance_31 (by decide) ?_
      refine pput16 hx hb hts inX7 tyX7 tyX7_ok nmX7 hown hK hP hA hS (j := 279) (by decide) (by decide) rfl rfl 0 (by decide) (hts (.fieldLink RX7 45 "TileRunnersModel" "thrown" "I") (List.mem_of_getElem? (i := 1) rfl)) (fun _ h9 => h9) rfl (tyX7_ok 0 (by decide)) rfl rfl (Nat.le_of_ble_eq_true rfl) (490) (by decide) (setM_0) dX7_clearance_32 (fun u9 H locs eu9 hP hS => ?_)
      obtain ⟨u32, e_u32⟩ : ∃ z, z = u9 := ⟨_, rfl⟩
      rw [← e_u32] at hP eu9
      have hF := bnd_s eu9 hF
      have hO := okM_up eu9 hO (by omega) (by omega) (by omega)
      refine lv_aload_n hx hb dX7_clearance_35 rfl (lv_at hl 0 rfl) ?_
      refine lv_iload_n hx hb dX7_clearance_36 rfl (lv_at hl 1 rfl) ?_
      refine lv_iconst (v := 0) hx hb dX7_clearance_37 (by decide) ?_
      refine va_calli (va_runV (As := [.int a, .int 0]) (rest := []) ⟨hx, hb, hml, hown, hts⟩ (c7_of l hA σ u32 a 0 (vp_in_iff.mpr (by decide)) hba) (cwV 2 hts gX7_clearance_X7_of rfl rfl rfl hd_X7_ofV ⟨Nat.le_of_ble_eq_true rfl, Nat.le_of_ble_eq_true rfl⟩) ⟨hp_blind, va_recv hK hP (ci := 9) (q0 := 279) rfl c_279, hp_pre hK hN hP⟩ rfl rfl hl.1 rfl (lv_room (Nat.le_of_ble_eq_true rfl)) dX7_clearance_38 ⟨Nat.zero_le _, Nat.zero_le _⟩) hS (fun _ _ h => h) (fun _ h => h) (fun r38 _ t H locs ht hvm hw9 hB hz1 hk1 hS => ?_)
      have hP := ho_at ht hB
      have eq38 := hw9
      have hF := bnd_s eq38 hF
      refine lv_istore_n (lv' := [(3, .int r38), (0, .ref (ad (279))), (1, .int a), (2, .int b)]) hx hb dX7_clearance_41 rfl hl (by decide) rfl (fun ls hl => ?_)
      refine lv_aload_n hx hb dX7_clearance_42 rfl (lv_at hl 1 rfl) ?_
      refine lv_iload_n hx hb dX7_clearance_43 rfl (lv_at hl 2 rfl) ?_
      refine lv_iconst (v := 1) hx hb dX7_clearance_44 (by decide) ?_
      refine va_calli (va_runV (As := [.int a, .int 1]) (rest := []) ⟨hx, hb, hml, hown, hts⟩ (c7_of l hA σ u32 a 1 (vp_in_iff.mpr (by decide)) hba) (cwV 2 hts gX7_clearance_X7_of rfl rfl rfl hd_X7_ofV ⟨Nat.le_of_ble_eq_true rfl, Nat.le_of_ble_eq_true rfl⟩) ⟨hp_blind, va_recv hK hP (ci := 9) (q0 := 279) rfl c_279, hp_pre hK hN hP⟩ rfl rfl hl.1 rfl (lv_room (Nat.le_of_ble_eq_true rfl)) dX7_clearance_45 ⟨Nat.zero_le _, Nat.zero_le _⟩) hS (fun _ _ h => h) (fun _ h => h) (fun r45 _ t H locs ht hvm hw9 hB hz1 hk1 hS => ?_)
      have hP := ho_at ht hB
      have eq45 := hw9
      have hF := bnd_s eq45 hF
      refine lv_istore (lv' := [(4, .int r45), (3, .int r38), (0, .ref (ad (279))), (1, .int a), (2, .int b)]) hx hb dX7_clearance_48 hl (by decide) rfl (fun ls hl => ?_)
      refine lv_iconst (v := 0) hx hb dX7_clearance_50 (by decide) ?_
      refine lv_istore (lv' := [(5, .int 0), (4, .int r45), (3, .int r38), (0, .ref (ad (279))), (1, .int a), (2, .int b)]) hx hb dX7_clearance_51 hl (by decide) rfl (fun ls hl => ?_)
      have L53 : ∀ (n53 : Nat) (w5_53 : Int32) (u_53 : (Nat → Int32)) (H : Heap) (locs : List Loc) (ls : Array Slot), ((400 : Int32).toInt - w5_53.toInt).toNat < n53 → okM u_53 → va_P D vwCl (pool G ad (va_up σ 16 u_53)) H → va_S (AA B0) s.heap H locs → lv_has ls 6 [(5, .int w5_53), (4, .int r45), (3, .int r38), (0, .ref (ad (279))), (1, .int a), (2, .int b)] → f7_clearance_L53 a b r38 r45 n53 w5_53 u_53 = FF → W p l e (headSpec wsX7_clearance { frames := 9, cells := 0, slots := 0, locals := 211 }).room s m ([.ref (ad (279)), .int a, .int b] : List Value).toArray below meth c H locs 0 0 (MQ below (va_Qi (fun (r : Int32) (z : Nat → Int32) => (r, z) = f7_clearance u a b ∧ okM z) (fun (z : Nat → Int32) => Ho D G ad (va_up σ 16 z)) (AA B0)) ([.ref (ad (279)), .int a, .int b] : List Value).toArray s 0 0 (AA B0)) (F0 m 53 ls []) := by
        intro n53
        induction n53 with
        | zero => intro w5_53 u_53 H locs ls hm; exact absurd hm (Nat.not_lt_zero _)
        | succ n53 ih53 =>
          intro w5_53 u_53 H locs ls hm53 hO hP hS hl hF
          rw [f7_clearance_L53] at hF
          refine lv_iload hx hb dX7_clearance_53 (lv_at hl 0 rfl) ?_
          refine lv_sipush (v := 400) hx hb dX7_clearance_55 (by decide) ?_
          have J76 : ∀ (u_76 : (Nat → Int32)) (H : Heap) (locs : List Loc) (ls : Array Slot), okM u_76 → va_P D vwCl (pool G ad (va_up σ 16 u_76)) H → va_S (AA B0) s.heap H locs → lv_has ls 6 [(5, .int w5_53), (4, .int r45), (3, .int r38), (0, .ref (ad (279))), (1, .int a)] → f7_clearance_b76 a r38 r45 w5_53 u_76 = FF → W p l e (headSpec wsX7_clearance { frames := 9, cells := 0, slots := 0, locals := 211 }).room s m ([.ref (ad (279)), .int a, .int b] : List Value).toArray below meth c H locs 0 0 (MQ below (va_Qi (fun (r : Int32) (z : Nat → Int32) => (r, z) = f7_clearance u a b ∧ okM z) (fun (z : Nat → Int32) => Ho D G ad (va_up σ 16 z)) (AA B0)) ([.ref (ad (279)), .int a, .int b] : List Value).toArray s 0 0 (AA B0)) (F0 m 76 ls []) := by
            intro u_76 H locs ls hO hP hS hl hF
            rw [f7_clearance_b76] at hF
            refine lv_aload_n hx hb dX7_clearance_76 rfl (lv_at hl 3 rfl) ?_
            refine lv_iload_n hx hb dX7_clearance_77 rfl (lv_at hl 4 rfl) ?_
            refine lv_iconst (v := 0) hx hb dX7_clearance_78 (by decide) ?_
            refine lv_iload_n hx hb dX7_clearance_79 rfl (lv_at hl 2 rfl) ?_
            refine va_callv (va_runV (As := [.int a, .int 0, .int r38]) (rest := []) ⟨hx, hb, hml, hown, hts⟩ (c7_sets l hA σ u_76 a 0 r38 hO (vp_in_iff.mpr (by decide)) hba) (cwV 3 hts gX7_clearance_X7_sets rfl rfl rfl hd_X7_setsV ⟨Nat.le_of_ble_eq_true rfl, Nat.le_of_ble_eq_true rfl⟩) ⟨hp_blind, va_recv hK hP (ci := 9) (q0 := 279) rfl c_279, hp_pre hK hN hP⟩ rfl rfl hl.1 rfl (lv_room (Nat.le_of_ble_eq_true rfl)) dX7_clearance_80 ⟨Nat.zero_le _, Nat.zero_le _⟩) hS (fun _ _ h => h) (fun _ h => h) (fun u9 t H locs ht hvm hw9 hB hz1 hk1 hS => ?_)
            have hP := ho_at ht hB
            obtain ⟨eq80, ok9⟩ := hw9
            obtain ⟨u80, e_u80⟩ : ∃ z, z = u9 := ⟨_, rfl⟩
            rw [← e_u80] at hP eq80 ok9
            have hO := ok9
            have hF := bnd_s eq80 hF
            refine lv_aload_n hx hb dX7_clearance_83 rfl (lv_at hl 3 rfl) ?_
            refine lv_iload_n hx hb dX7_clearance_84 rfl (lv_at hl 4 rfl) ?_
            refine lv_iconst (v := 1) hx hb dX7_clearance_85 (by decide) ?_
            refine lv_iload hx hb dX7_clearance_86 (lv_at hl 1 rfl) ?_
            refine va_callv (va_runV (As := [.int a, .int 1, .int r45]) (rest := []) ⟨hx, hb, hml, hown, hts⟩ (c7_sets l hA σ u80 a 1 r45 hO (vp_in_iff.mpr (by decide)) hba) (cwV 3 hts gX7_clearance_X7_sets rfl rfl rfl hd_X7_setsV ⟨Nat.le_of_ble_eq_true rfl, Nat.le_of_ble_eq_true rfl⟩) ⟨hp_blind, va_recv hK hP (ci := 9) (q0 := 279) rfl c_279, hp_pre hK hN hP⟩ rfl rfl hl.1 rfl (lv_room (Nat.le_of_ble_eq_true rfl)) dX7_clearance_88 ⟨Nat.zero_le _, Nat.zero_le _⟩) hS (fun _ _ h => h) (fun _ h => h) (fun u9 t H locs ht hvm hw9 hB hz1 hk1 hS => ?_)
            have hP := ho_at ht hB
            obtain ⟨eq88, ok9⟩ := hw9
            obtain ⟨u88, e_u88⟩ : ∃ z, z = u9 := ⟨_, rfl⟩
            rw [← e_u88] at hP eq88 ok9
            have hO := ok9
            have hF := bnd_s eq88 hF
            refine lv_iload hx hb dX7_clearance_91 (lv_at hl 0 rfl) ?_
            exact W.iret (v := w5_53) hx hb hr (fun t ht hW => ⟨⟨w5_53, u88, rfl, ⟨hF.trans hFF, hO⟩, ho_of ht hP⟩, hS.F ht⟩) hS.2.2 dX7_clearance_93
          refine lv_icmp_ge (tgt := 76) hx hb dX7_clearance_58 (by decide) (fun c58 => ?_) (fun c58 => ?_)
          · have hF := ift c58 hF
            exact J76 u_53 _ _ ls hO hP hS (lv_sub hl [0, 1, 2, 3, 4] rfl) hF
          · have hF := iff_ c58 hF
            refine lv_aload_n hx hb dX7_clearance_61 rfl (lv_at hl 3 rfl) ?_
            refine lv_iload_n hx hb dX7_clearance_62 rfl (lv_at hl 4 rfl) ?_
            refine lv_iload_n hx hb dX7_clearance_63 rfl (lv_at hl 5 rfl) ?_
            refine va_calli (va_runV (As := [.int a, .int b]) (rest := []) ⟨hx, hb, hml, hown, hts⟩ (c7_movesAcross l hA σ u_53 a b hO hba) (cwV 2 hts gX7_clearance_X7_movesAcross rfl rfl rfl hd_X7_movesAcrossV ⟨Nat.le_of_ble_eq_true rfl, Nat.le_of_ble_eq_true rfl⟩) ⟨hp_blind, va_recv hK hP (ci := 9) (q0 := 279) rfl c_279, hp_pre hK hN hP⟩ rfl rfl hl.1 rfl (lv_room (Nat.le_of_ble_eq_true rfl)) dX7_clearance_64 ⟨Nat.zero_le _, Nat.zero_le _⟩) hS (fun _ _ h => h) (fun _ h => h) (fun r64 u9 t H locs ht hvm hw9 hB hz1 hk1 hS => ?_)
            have hP := ho_at ht hB
            obtain ⟨eq64, ok9, hb_r64⟩ := hw9
            obtain ⟨u64, e_u64⟩ : ∃ z, z = u9 := ⟨_, rfl⟩
            rw [← e_u64] at hP eq64 ok9
            have hO := ok9
            have hF := bnd2_s eq64 hF
            refine lv_if_eq (tgt := 76) hx hb dX7_clearance_67 (by decide) (fun c67 => ?_) (fun c67 => ?_)
            · have hF := ift c67 hF
              exact J76 u64 _ _ ls hO hP hS (lv_sub hl [0, 1, 2, 3, 4] rfl) hF
            · have hF := iff_ c67 hF
              obtain ⟨v5_70, e_v5_70⟩ : ∃ z : Int32, z = w5_53 + 1 := ⟨_, rfl⟩
              have hF := bnd_s e_v5_70 hF
              refine lv_iinc (v := v5_70) (lv' := [(5, .int v5_70), (4, .int r45), (3, .int r38), (0, .ref (ad (279))), (1, .int a), (2, .int b)]) hx hb dX7_clearance_70 hl (k := 0) rfl (by rw [e_v5_70]; rfl) (by decide) rfl (fun ls hl => ?_)
              refine lv_goto (tgt := 53) hx hb dX7_clearance_73 (by decide) ?_
              exact ih53 v5_70 u64 _ _ ls (ms_s (dec_up (nle_lt c58) e_v5_70) hm53) hO hP hS (lv_sub hl [0, 1, 2, 3, 4, 5] rfl) hF
      exact L53 BIG 0 u32 _ _ ls (big_up _ _) hO hP hS (lv_sub hl [0, 1, 2, 3, 4, 5] rfl) hF
    refine lv_icmp_eq (tgt := 30) hx hb dX7_clearance_16 (by decide) (fun c16 => ?_) (fun c16 => ?_)
    · have hF := ift c16 hF
      exact J30  _ _ ls hP hS (lv_sub hl [0, 1, 2] rfl) hF
    · have hF := iff_ c16 hF
      refine lv_iload_n hx hb dX7_clearance_19 rfl (lv_at hl 2 rfl) ?_
      refine lv_iconst (v := 1) hx hb dX7_clearance_20 (by decide) ?_
      refine lv_icmp_eq (tgt := 30) hx hb dX7_clearance_21 (by decide) (fun c21 => ?_) (fun c21 => ?_)
      · have hF := ift c21 hF
        exact J30  _ _ ls hP hS (lv_sub hl [0, 1, 2] rfl) hF
      · have hF := iff_ c21 hF
        refine lv_aload_n hx hb dX7_clearance_24 rfl (lv_at hl 0 rfl) ?_
        refine lv_iconst (v := 2) hx hb dX7_clearance_25 (by decide) ?_
        refine va_calli (va_runV (As := [.int 2]) (rest := []) ⟨hx, hb, hml, hown, hts⟩ (c7_fails l hA σ u 2 hO) (cwV 1 hts gX7_clearance_X7_fails rfl rfl rfl hd_X7_failsV ⟨Nat.le_of_ble_eq_true rfl, Nat.le_of_ble_eq_true rfl⟩) ⟨hp_blind, va_recv hK hP (ci := 9) (q0 := 279) rfl c_279, hp_pre hK hN hP⟩ rfl rfl hl.1 rfl (lv_room (Nat.le_of_ble_eq_true rfl)) dX7_clearance_26 ⟨Nat.zero_le _, Nat.zero_le _⟩) hS (fun _ _ h => h) (fun _ h => h) (fun r26 u9 t H locs ht hvm hw9 hB hz1 hk1 hS => ?_)
        have hP := ho_at ht hB
        obtain ⟨eq26, ok9⟩ := hw9
        obtain ⟨u26, e_u26⟩ : ∃ z, z = u9 := ⟨_, rfl⟩
        rw [← e_u26] at hP eq26 ok9
        have hO := ok9
        have hF := bnd2_s eq26 hF
        exact W.iret (v := r26) hx hb hr (fun t ht hW => ⟨⟨r26, u26, rfl, ⟨hF.trans hFF, hO⟩, ho_of ht hP⟩, hS.F ht⟩) hS.2.2 dX7_clearance_29
  · have hF := ift c5 hF
    refine lv_aload_n hx hb dX7_clearance_8 rfl (lv_at hl 0 rfl) ?_
    refine lv_iconst (v := 1) hx hb dX7_clearance_9 (by decide) ?_
    refine va_calli (va_runV (As := [.int 1]) (rest := []) ⟨hx, hb, hml, hown, hts⟩ (c7_fails l hA σ u 1 hO) (cwV 1 hts gX7_clearance_X7_fails rfl rfl rfl hd_X7_failsV ⟨Nat.le_of_ble_eq_true rfl, Nat.le_of_ble_eq_true rfl⟩) ⟨hp_blind, va_recv hK hP (ci := 9) (q0 := 279) rfl c_279, hp_pre hK hN hP⟩ rfl rfl hl.1 rfl (lv_room (Nat.le_of_ble_eq_true rfl)) dX7_clearance_10 ⟨Nat.zero_le _, Nat.zero_le _⟩) hS (fun _ _ h => h) (fun _ h => h) (fun r10 u9 t H locs ht hvm hw9 hB hz1 hk1 hS => ?_)
    have hP := ho_at ht hB
    obtain ⟨eq10, ok9⟩ := hw9
    obtain ⟨u10, e_u10⟩ : ∃ z, z = u9 := ⟨_, rfl⟩
    rw [← e_u10] at hP eq10 ok9
    have hO := ok9
    have hF := bnd2_s eq10 hF
    exact W.iret (v := r10) hx hb hr (fun t ht hW => ⟨⟨r10, u10, rfl, ⟨hF.trans hFF, hO⟩, ho_of ht hP⟩, hS.F ht⟩) hS.2.2 dX7_clearance_13
theorem hd_X7_clearanceV : yX7_clearance.cls = RX7 ∧ yX7_clearance.cls ≠ "java/lang/invoke/MethodHandle" ∧ yX7_clearance.cls ≠ "java/lang/invoke/VarHandle" ∧ (parseMethodDescriptor yX7_clearance.desc).map (fun d => d.parameters.length) = some 2 := by decide +kernel
set_option maxHeartbeats 4000000 in
set_option maxRecDepth 100000 in
theorem c7_drop (l : Launch) {D : va_G} {G : CY} {ad : Nat → Nat} {B0 : Nat} (hA : adOK B0 ad) (σ : Nat → Nat → Int32) (u : Nat → Int32) (a : Int32) (hO : okM u) : Met l yX7_drop wsX7_drop { frames := 9, cells := 0, slots := 0, locals := 205 } (va_Pc [.ref (ad (279)), .int a] (Hp D G ad (va_up σ 16 u))) (va_Qi (fun (r : Int32) (z : Nat → Int32) => (r, z) = f7_drop u a ∧ okM z) (fun (z : Nat → Int32) => Ho D G ad (va_up σ 16 z)) (AA B0)) 0 0 (AA B0) := by
  refine Met.ofW (cc := cX7_drop) (maxL := 5) (ret := (some .int)) (by decide) rfl ?_
  intro p e s m args below meth c s₁ B hml hv
  obtain ⟨rfl, hP, hK, hN⟩ := hv
  have hx := B.exec
  have hb := B.bytes
  have hr := B.returns
  have hts := atoms_spec (ws := wsX7_drop) B.pre
  have hown : s.vm.findClass RX7 = some m.cls := findClass_of_methodNamed B.named
  have hlocks := B.notSynchronized
  have inX7 : ∀ w ∈ wsX70, w ∈ wsX7_drop := (fun w h => List.mem_cons_of_mem _ (List.mem_append_left _ (List.mem_append_right _ h)))
  have hP : va_P D vwCl (pool G ad (va_up σ 16 u)) s.heap := hP
  have hS : va_S (AA B0) s.heap s.heap [] := va_S.rf
  have hl := lv_entry ([.ref (ad (279)), .int a]) (n := 5) (Nat.le_of_ble_eq_true rfl)
  rw [lg_entry_eq]
  generalize (lg_sl ([.ref (ad (279)), .int a]) ++ List.replicate (5 - (lg_sl ([.ref (ad (279)), .int a])).length) Slot.unset).toArray = ls at hl ⊢
  have hl : lv_has ls 5 [(0, .ref (ad (279))), (1, .int a)] := hl
  obtain ⟨FF, hFF⟩ : ∃ z, z = f7_drop u a := ⟨_, rfl⟩
  have hF := hFF.symm
  rw [f7_drop] at hF
  refine lv_aload_n hx hb dX7_drop_0 rfl (lv_at hl 0 rfl) ?_
  refine lv_iload_n hx hb dX7_drop_1 rfl (lv_at hl 1 rfl) ?_
  refine va_calli (va_runV (As := [.int a]) (rest := []) ⟨hx, hb, hml, hown, hts⟩ (c7_isBody l hA σ u a ) (cwV 1 hts gX7_drop_X7_isBody rfl rfl rfl hd_X7_isBodyV ⟨Nat.le_of_ble_eq_true rfl, Nat.le_of_ble_eq_true rfl⟩) ⟨hp_blind, va_recv hK hP (ci := 9) (q0 := 279) rfl c_279, hp_pre hK hN hP⟩ rfl rfl hl.1 rfl (lv_room (Nat.le_of_ble_eq_true rfl)) dX7_drop_2 ⟨Nat.zero_le _, Nat.zero_le _⟩) hS (fun _ _ h => h) (fun _ h => h) (fun r2 _ t H locs ht hvm hw9 hB hz1 hk1 hS => ?_)
  have hP := ho_at ht hB
  obtain ⟨eq2, hb_r2⟩ := hw9
  have hF := bnd_s eq2 hF
  refine lv_if_ne (tgt := 14) hx hb dX7_drop_5 (by decide) (fun c5 => ?_) (fun c5 => ?_)
  · have hF := iff_ c5 hF
    have hba := body_in hO.1 eq2 c5
    refine lv_aload_n hx hb dX7_drop_14 rfl (lv_at hl 0 rfl) ?_
    refine lv_iconst (v := 0) hx hb dX7_drop_15 (by decide) ?_
    refine pput16 hx hb hts inX7 tyX7 tyX7_ok nmX7 hown hK hP hA hS (j := 279) (by decide) (by decide) rfl rfl 0 (by decide) (hts (.fieldLink RX7 45 "TileRunnersModel" "thrown" "I") (List.mem_of_getElem? (i := 1) rfl)) (fun _ h9 => h9) rfl (tyX7_ok 0 (by decide)) rfl rfl (Nat.le_of_ble_eq_true rfl) (490) (by decide) (setM_0) dX7_drop_16 (fun u9 H locs eu9 hP hS => ?_)
    obtain ⟨u16, e_u16⟩ : ∃ z, z = u9 := ⟨_, rfl⟩
    rw [← e_u16] at hP eu9
    have hF := bnd_s eu9 hF
    have hO := okM_up eu9 hO (by omega) (by omega) (by omega)
    refine lv_aload_n hx hb dX7_drop_19 rfl (lv_at hl 0 rfl) ?_
    refine lv_iload_n hx hb dX7_drop_20 rfl (lv_at hl 1 rfl) ?_
    refine lv_iconst (v := 1) hx hb dX7_drop_21 (by decide) ?_
    refine va_calli (va_runV (As := [.int a, .int 1]) (rest := []) ⟨hx, hb, hml, hown, hts⟩ (c7_of l hA σ u16 a 1 (vp_in_iff.mpr (by decide)) hba) (cwV 2 hts gX7_drop_X7_of rfl rfl rfl hd_X7_ofV ⟨Nat.le_of_ble_eq_true rfl, Nat.le_of_ble_eq_true rfl⟩) ⟨hp_blind, va_recv hK hP (ci := 9) (q0 := 279) rfl c_279, hp_pre hK hN hP⟩ rfl rfl hl.1 rfl (lv_room (Nat.le_of_ble_eq_true rfl)) dX7_drop_22 ⟨Nat.zero_le _, Nat.zero_le _⟩) hS (fun _ _ h => h) (fun _ h => h) (fun r22 _ t H locs ht hvm hw9 hB hz1 hk1 hS => ?_)
    have hP := ho_at ht hB
    have eq22 := hw9
    have hF := bnd_s eq22 hF
    refine lv_istore_n (lv' := [(2, .int r22), (0, .ref (ad (279))), (1, .int a)]) hx hb dX7_drop_25 rfl hl (by decide) rfl (fun ls hl => ?_)
    refine lv_iconst (v := 0) hx hb dX7_drop_26 (by decide) ?_
    refine lv_istore_n (lv' := [(3, .int 0), (2, .int r22), (0, .ref (ad (279))), (1, .int a)]) hx hb dX7_drop_27 rfl hl (by decide) rfl (fun ls hl => ?_)
    have L28 : ∀ (n28 : Nat) (w3_28 : Int32) (u_28 : (Nat → Int32)) (H : Heap) (locs : List Loc) (ls : Array Slot), ((f7_of u_28 a 1).toInt + 41).toNat < n28 → okM u_28 → va_P D vwCl (pool G ad (va_up σ 16 u_28)) H → va_S (AA B0) s.heap H locs → lv_has ls 5 [(3, .int w3_28), (2, .int r22), (0, .ref (ad (279))), (1, .int a)] → f7_drop_L28 a r22 n28 w3_28 u_28 = FF → W p l e (headSpec wsX7_drop { frames := 9, cells := 0, slots := 0, locals := 205 }).room s m ([.ref (ad (279)), .int a] : List Value).toArray below meth c H locs 0 0 (MQ below (va_Qi (fun (r : Int32) (z : Nat → Int32) => (r, z) = f7_drop u a ∧ okM z) (fun (z : Nat → Int32) => Ho D G ad (va_up σ 16 z)) (AA B0)) ([.ref (ad (279)), .int a] : List Value).toArray s 0 0 (AA B0)) (F0 m 28 ls []) := by
      intro n28
      induction n28 with
      | zero => intro w3_28 u_28 H locs ls hm; exact absurd hm (Nat.not_lt_zero _)
      | succ n28 ih28 =>
        intro w3_28 u_28 H locs ls hm28 hO hP hS hl hF
        rw [f7_drop_L28] at hF
        refine lv_aload_n hx hb dX7_drop_28 rfl (lv_at hl 2 rfl) ?_
        refine lv_iload_n hx hb dX7_drop_29 rfl (lv_at hl 3 rfl) ?_
        refine lv_iconst (v := 1) hx hb dX7_drop_30 (by decide) ?_
        refine va_calli (va_runV (As := [.int a, .int 1]) (rest := []) ⟨hx, hb, hml, hown, hts⟩ (c7_of l hA σ u_28 a 1 (vp_in_iff.mpr (by decide)) hba) (cwV 2 hts gX7_drop_X7_of rfl rfl rfl hd_X7_ofV ⟨Nat.le_of_ble_eq_true rfl, Nat.le_of_ble_eq_true rfl⟩) ⟨hp_blind, va_recv hK hP (ci := 9) (q0 := 279) rfl c_279, hp_pre hK hN hP⟩ rfl rfl hl.1 rfl (lv_room (Nat.le_of_ble_eq_true rfl)) dX7_drop_31 ⟨Nat.zero_le _, Nat.zero_le _⟩) hS (fun _ _ h => h) (fun _ h => h) (fun r31 _ t H locs ht hvm hw9 hB hz1 hk1 hS => ?_)
        have hP := ho_at ht hB
        have eq31 := hw9
        have hF := bnd_s eq31 hF
        refine lv_bipush (v := (-40)) hx hb dX7_drop_34 (by decide) ?_
        have J53 : ∀ (u_53 : (Nat → Int32)) (H : Heap) (locs : List Loc) (ls : Array Slot), okM u_53 → va_P D vwCl (pool G ad (va_up σ 16 u_53)) H → va_S (AA B0) s.heap H locs → lv_has ls 5 [(3, .int w3_28), (2, .int r22), (0, .ref (ad (279))), (1, .int a)] → f7_drop_b53 a r22 w3_28 u_53 = FF → W p l e (headSpec wsX7_drop { frames := 9, cells := 0, slots := 0, locals := 205 }).room s m ([.ref (ad (279)), .int a] : List Value).toArray below meth c H locs 0 0 (MQ below (va_Qi (fun (r : Int32) (z : Nat → Int32) => (r, z) = f7_drop u a ∧ okM z) (fun (z : Nat → Int32) => Ho D G ad (va_up σ 16 z)) (AA B0)) ([.ref (ad (279)), .int a] : List Value).toArray s 0 0 (AA B0)) (F0 m 53 ls []) := by
          intro u_53 H locs ls hO hP hS hl hF
          rw [f7_drop_b53] at hF
          refine lv_aload_n hx hb dX7_drop_53 rfl (lv_at hl 2 rfl) ?_
          refine lv_iload_n hx hb dX7_drop_54 rfl (lv_at hl 3 rfl) ?_
          refine lv_iconst (v := 1) hx hb dX7_drop_55 (by decide) ?_
          refine va_calli (va_runV (As := [.int a, .int 1]) (rest := []) ⟨hx, hb, hml, hown, hts⟩ (c7_of l hA σ u_53 a 1 (vp_in_iff.mpr (by decide)) hba) (cwV 2 hts gX7_drop_X7_of rfl rfl rfl hd_X7_ofV ⟨Nat.le_of_ble_eq_true rfl, Nat.le_of_ble_eq_true rfl⟩) ⟨hp_blind, va_recv hK hP (ci := 9) (q0 := 279) rfl c_279, hp_pre hK hN hP⟩ rfl rfl hl.1 rfl (lv_room (Nat.le_of_ble_eq_true rfl)) dX7_drop_56 ⟨Nat.zero_le _, Nat.zero_le _⟩) hS (fun _ _ h => h) (fun _ h => h) (fun r56 _ t H locs ht hvm hw9 hB hz1 hk1 hS => ?_)
          have hP := ho_at ht hB
          have eq56 := hw9
          have hF := bnd_s eq56 hF
          refine lv_bipush (v := (-40)) hx hb dX7_drop_59 (by decide) ?_
          have J69 : ∀ (t0_69 : Int32) (H : Heap) (locs : List Loc) (ls : Array Slot), bl t0_69 → va_P D vwCl (pool G ad (va_up σ 16 u_53)) H → va_S (AA B0) s.heap H locs → lv_has ls 5 [(3, .int w3_28), (2, .int r22), (0, .ref (ad (279))), (1, .int a)] → f7_drop_b69 a r22 w3_28 u_53 t0_69 = FF → W p l e (headSpec wsX7_drop { frames := 9, cells := 0, slots := 0, locals := 205 }).room s m ([.ref (ad (279)), .int a] : List Value).toArray below meth c H locs 0 0 (MQ below (va_Qi (fun (r : Int32) (z : Nat → Int32) => (r, z) = f7_drop u a ∧ okM z) (fun (z : Nat → Int32) => Ho D G ad (va_up σ 16 z)) (AA B0)) ([.ref (ad (279)), .int a] : List Value).toArray s 0 0 (AA B0)) (F0 m 69 ls [.int t0_69]) := by
            intro t0_69 H locs ls hb_t0_69 hP hS hl hF
            rw [f7_drop_b69] at hF
            refine lv_istore (lv' := [(4, .int t0_69), (3, .int w3_28), (2, .int r22), (0, .ref (ad (279))), (1, .int a)]) hx hb dX7_drop_69 hl (by decide) rfl (fun ls hl => ?_)
            refine lv_aload_n hx hb dX7_drop_71 rfl (lv_at hl 3 rfl) ?_
            refine lv_iload_n hx hb dX7_drop_72 rfl (lv_at hl 4 rfl) ?_
            refine lv_iconst (v := 1) hx hb dX7_drop_73 (by decide) ?_
            refine lv_iload_n hx hb dX7_drop_74 rfl (lv_at hl 2 rfl) ?_
            refine va_callv (va_runV (As := [.int a, .int 1, .int r22]) (rest := []) ⟨hx, hb, hml, hown, hts⟩ (c7_sets l hA σ u_53 a 1 r22 hO (vp_in_iff.mpr (by decide)) hba) (cwV 3 hts gX7_drop_X7_sets rfl rfl rfl hd_X7_setsV ⟨Nat.le_of_ble_eq_true rfl, Nat.le_of_ble_eq_true rfl⟩) ⟨hp_blind, va_recv hK hP (ci := 9) (q0 := 279) rfl c_279, hp_pre hK hN hP⟩ rfl rfl hl.1 rfl (lv_room (Nat.le_of_ble_eq_true rfl)) dX7_drop_75 ⟨Nat.zero_le _, Nat.zero_le _⟩) hS (fun _ _ h => h) (fun _ h => h) (fun u9 t H locs ht hvm hw9 hB hz1 hk1 hS => ?_)
            have hP := ho_at ht hB
            obtain ⟨eq75, ok9⟩ := hw9
            obtain ⟨u75, e_u75⟩ : ∃ z, z = u9 := ⟨_, rfl⟩
            rw [← e_u75] at hP eq75 ok9
            have hO := ok9
            have hF := bnd_s eq75 hF
            refine lv_iload hx hb dX7_drop_78 (lv_at hl 0 rfl) ?_
            refine lv_if_eq (tgt := 87) hx hb dX7_drop_80 (by decide) (fun c80 => ?_) (fun c80 => ?_)
            · have hF := ift c80 hF
              refine lv_iload_n hx hb dX7_drop_87 rfl (lv_at hl 1 rfl) ?_
              exact W.iret (v := w3_28) hx hb hr (fun t ht hW => ⟨⟨w3_28, u75, rfl, ⟨hF.trans hFF, hO⟩, ho_of ht hP⟩, hS.F ht⟩) hS.2.2 dX7_drop_88
            · have hF := iff_ c80 hF
              refine lv_iconst (v := (-1)) hx hb dX7_drop_83 (by decide) ?_
              refine lv_goto (tgt := 88) hx hb dX7_drop_84 (by decide) ?_
              exact W.iret (v := (-1)) hx hb hr (fun t ht hW => ⟨⟨(-1), u75, rfl, ⟨hF.trans hFF, hO⟩, ho_of ht hP⟩, hS.F ht⟩) hS.2.2 dX7_drop_88
          refine lv_icmp_ge (tgt := 68) hx hb dX7_drop_61 (by decide) (fun c61 => ?_) (fun c61 => ?_)
          · have hF := ift c61 hF
            refine lv_iconst (v := 0) hx hb dX7_drop_68 (by decide) ?_
            exact J69 0 _ _ ls bl0 hP hS (lv_sub hl [0, 1, 2, 3] rfl) hF
          · have hF := iff_ c61 hF
            refine lv_iconst (v := 1) hx hb dX7_drop_64 (by decide) ?_
            refine lv_goto (tgt := 69) hx hb dX7_drop_65 (by decide) ?_
            exact J69 1 _ _ ls bl1 hP hS (lv_sub hl [0, 1, 2, 3] rfl) hF
        refine lv_icmp_lt (tgt := 53) hx hb dX7_drop_36 (by decide) (fun c36 => ?_) (fun c36 => ?_)
        · have hF := ift c36 hF
          exact J53 u_28 _ _ ls hO hP hS (lv_sub hl [0, 1, 2, 3] rfl) hF
        · have hF := iff_ c36 hF
          refine lv_aload_n hx hb dX7_drop_39 rfl (lv_at hl 2 rfl) ?_
          refine lv_iload_n hx hb dX7_drop_40 rfl (lv_at hl 3 rfl) ?_
          refine va_calli (va_runV (As := [.int a]) (rest := []) ⟨hx, hb, hml, hown, hts⟩ (c7_movesDown l hA σ u_28 a hO hba) (cwV 1 hts gX7_drop_X7_movesDown rfl rfl rfl hd_X7_movesDownV ⟨Nat.le_of_ble_eq_true rfl, Nat.le_of_ble_eq_true rfl⟩) ⟨hp_blind, va_recv hK hP (ci := 9) (q0 := 279) rfl c_279, hp_pre hK hN hP⟩ rfl rfl hl.1 rfl (lv_room (Nat.le_of_ble_eq_true rfl)) dX7_drop_41 ⟨Nat.zero_le _, Nat.zero_le _⟩) hS (fun _ _ h => h) (fun _ h => h) (fun r41 u9 t H locs ht hvm hw9 hB hz1 hk1 hS => ?_)
          have hP := ho_at ht hB
          obtain ⟨eq41, ok9, hb_r41⟩ := hw9
          obtain ⟨u41, e_u41⟩ : ∃ z, z = u9 := ⟨_, rfl⟩
          rw [← e_u41] at hP eq41 ok9
          have hO := ok9
          have hF := bnd2_s eq41 hF
          refine lv_if_eq (tgt := 53) hx hb dX7_drop_44 (by decide) (fun c44 => ?_) (fun c44 => ?_)
          · have hF := ift c44 hF
            exact J53 u41 _ _ ls hO hP hS (lv_sub hl [0, 1, 2, 3] rfl) hF
          · have hF := iff_ c44 hF
            obtain ⟨v3_47, e_v3_47⟩ : ∃ z : Int32, z = w3_28 + 1 := ⟨_, rfl⟩
            have hF := bnd_s e_v3_47 hF
            refine lv_iinc (v := v3_47) (lv' := [(3, .int v3_47), (2, .int r22), (0, .ref (ad (279))), (1, .int a)]) hx hb dX7_drop_47 hl (k := 0) rfl (by rw [e_v3_47]; rfl) (by decide) rfl (fun ls hl => ?_)
            refine lv_goto (tgt := 28) hx hb dX7_drop_50 (by decide) ?_
            exact ih28 v3_47 u41 _ _ ls (ms_s (drop_dec hba eq31 c36 eq41 c44) hm28) hO hP hS (lv_sub hl [0, 1, 2, 3] rfl) hF
    exact L28 BIG 0 u16 _ _ ls (big_41 _) hO hP hS (lv_sub hl [0, 1, 2, 3] rfl) hF
  · have hF := ift c5 hF
    refine lv_aload_n hx hb dX7_drop_8 rfl (lv_at hl 0 rfl) ?_
    refine lv_iconst (v := 1) hx hb dX7_drop_9 (by decide) ?_
    refine va_calli (va_runV (As := [.int 1]) (rest := []) ⟨hx, hb, hml, hown, hts⟩ (c7_fails l hA σ u 1 hO) (cwV 1 hts gX7_drop_X7_fails rfl rfl rfl hd_X7_failsV ⟨Nat.le_of_ble_eq_true rfl, Nat.le_of_ble_eq_true rfl⟩) ⟨hp_blind, va_recv hK hP (ci := 9) (q0 := 279) rfl c_279, hp_pre hK hN hP⟩ rfl rfl hl.1 rfl (lv_room (Nat.le_of_ble_eq_true rfl)) dX7_drop_10 ⟨Nat.zero_le _, Nat.zero_le _⟩) hS (fun _ _ h => h) (fun _ h => h) (fun r10 u9 t H locs ht hvm hw9 hB hz1 hk1 hS => ?_)
    have hP := ho_at ht hB
    obtain ⟨eq10, ok9⟩ := hw9
    obtain ⟨u10, e_u10⟩ : ∃ z, z = u9 := ⟨_, rfl⟩
    rw [← e_u10] at hP eq10 ok9
    have hO := ok9
    have hF := bnd2_s eq10 hF
    exact W.iret (v := r10) hx hb hr (fun t ht hW => ⟨⟨r10, u10, rfl, ⟨hF.trans hFF, hO⟩, ho_of ht hP⟩, hS.F ht⟩) hS.2.2 dX7_drop_13
theorem hd_X7_dropV : yX7_drop.cls = RX7 ∧ yX7_drop.cls ≠ "java/lang/invoke/MethodHandle" ∧ yX7_drop.cls ≠ "java/lang/invoke/VarHandle" ∧ (parseMethodDescriptor yX7_drop.desc).map (fun d => d.parameters.length) = some 1 := by decide +kernel
set_option maxHeartbeats 4000000 in
set_option maxRecDepth 100000 in
theorem c7_look (l : Launch) {D : va_G} {G : CY} {ad : Nat → Nat} {B0 : Nat} (hA : adOK B0 ad) (σ : Nat → Nat → Int32) (u : Nat → Int32) (a : Int32) (b : Int32) (hO : okM u) : Met l yX7_look wsX7_look { frames := 3, cells := 0, slots := 0, locals := 64 } (va_Pc [.ref (ad (279)), .int a, .int b] (Hp D G ad (va_up σ 16 u))) (va_Qi (fun (r : Int32) (z : Nat → Int32) => (r, z) = f7_look u a b ∧ okM z) (fun (z : Nat → Int32) => Ho D G ad (va_up σ 16 z)) (AA B0)) 0 0 (AA B0) := by
  refine Met.ofW (cc := cX7_look) (maxL := 4) (ret := (some .int)) (by decide) rfl ?_
  intro p e s m args below meth c s₁ B hml hv
  obtain ⟨rfl, hP, hK, hN⟩ := hv
  have hx := B.exec
  have hb := B.bytes
  have hr := B.returns
  have hts := atoms_spec (ws := wsX7_look) B.pre
  have hown : s.vm.findClass RX7 = some m.cls := findClass_of_methodNamed B.named
  have hlocks := B.notSynchronized
  have inX7 : ∀ w ∈ wsX70, w ∈ wsX7_look := (fun w h => List.mem_cons_of_mem _ (List.mem_append_left _ (List.mem_append_right _ h)))
  have hP : va_P D vwCl (pool G ad (va_up σ 16 u)) s.heap := hP
  have hS : va_S (AA B0) s.heap s.heap [] := va_S.rf
  have hl := lv_entry ([.ref (ad (279)), .int a, .int b]) (n := 4) (Nat.le_of_ble_eq_true rfl)
  rw [lg_entry_eq]
  generalize (lg_sl ([.ref (ad (279)), .int a, .int b]) ++ List.replicate (4 - (lg_sl ([.ref (ad (279)), .int a, .int b])).length) Slot.unset).toArray = ls at hl ⊢
  have hl : lv_has ls 4 [(0, .ref (ad (279))), (1, .int a), (2, .int b)] := hl
  obtain ⟨FF, hFF⟩ : ∃ z, z = f7_look u a b := ⟨_, rfl⟩
  have hF := hFF.symm
  rw [f7_look] at hF
  refine lv_iload_n hx hb dX7_look_0 rfl (lv_at hl 1 rfl) ?_
  refine lv_iconst (v := 0) hx hb dX7_look_1 (by decide) ?_
  refine lv_sipush (v := 383) hx hb dX7_look_2 (by decide) ?_
  refine va_calli (va_runS (As := [.int a, .int 0, .int 383]) (rest := []) ⟨hx, hb, hml, hown, hts⟩ (c7_isBetween l hA (va_up σ 16 u) a 0 383 ) (va_cwS 3 hts gX7_look_X7_isBetween rfl rfl rfl hd_X7_isBetweenS ⟨Nat.le_of_ble_eq_true rfl, Nat.le_of_ble_eq_true rfl⟩) ⟨hp_blind, hp_pre hK hN hP⟩ rfl rfl hl.1 rfl (lv_room (Nat.le_of_ble_eq_true rfl)) dX7_look_5 ⟨Nat.zero_le _, Nat.zero_le _⟩) hS (fun _ _ h => h) (fun _ h => h) (fun r5 _ t H locs ht hvm hw9 hB hz1 hk1 hS => ?_)
  have hP := ho_at ht hB
  obtain ⟨eq5, hb_r5⟩ := hw9
  have hF := bnd_s eq5 hF
  refine lv_if_eq (tgt := 22) hx hb dX7_look_8 (by decide) (fun c8 => ?_) (fun c8 => ?_)
  · have hF := ift c8 hF
    refine lv_aload_n hx hb dX7_look_22 rfl (lv_at hl 0 rfl) ?_
    refine lv_iconst (v := 1) hx hb dX7_look_23 (by decide) ?_
    refine va_calli (va_runV (As := [.int 1]) (rest := []) ⟨hx, hb, hml, hown, hts⟩ (c7_fails l hA σ u 1 hO) (cwV 1 hts gX7_look_X7_fails rfl rfl rfl hd_X7_failsV ⟨Nat.le_of_ble_eq_true rfl, Nat.le_of_ble_eq_true rfl⟩) ⟨hp_blind, va_recv hK hP (ci := 9) (q0 := 279) rfl c_279, hp_pre hK hN hP⟩ rfl rfl hl.1 rfl (lv_room (Nat.le_of_ble_eq_true rfl)) dX7_look_24 ⟨Nat.zero_le _, Nat.zero_le _⟩) hS (fun _ _ h => h) (fun _ h => h) (fun r24 u9 t H locs ht hvm hw9 hB hz1 hk1 hS => ?_)
    have hP := ho_at ht hB
    obtain ⟨eq24, ok9⟩ := hw9
    obtain ⟨u24, e_u24⟩ : ∃ z, z = u9 := ⟨_, rfl⟩
    rw [← e_u24] at hP eq24 ok9
    have hO := ok9
    have hF := bnd2_s eq24 hF
    exact W.iret (v := r24) hx hb hr (fun t ht hW => ⟨⟨r24, u24, rfl, ⟨hF.trans hFF, hO⟩, ho_of ht hP⟩, hS.F ht⟩) hS.2.2 dX7_look_27
  · have hF := iff_ c8 hF
    refine lv_iload_n hx hb dX7_look_11 rfl (lv_at hl 2 rfl) ?_
    refine lv_iconst (v := 0) hx hb dX7_look_12 (by decide) ?_
    refine lv_sipush (v := 223) hx hb dX7_look_13 (by decide) ?_
    refine va_calli (va_runS (As := [.int b, .int 0, .int 223]) (rest := []) ⟨hx, hb, hml, hown, hts⟩ (c7_isBetween l hA (va_up σ 16 u) b 0 223 ) (va_cwS 3 hts gX7_look_X7_isBetween rfl rfl rfl hd_X7_isBetweenS ⟨Nat.le_of_ble_eq_true rfl, Nat.le_of_ble_eq_true rfl⟩) ⟨hp_blind, hp_pre hK hN hP⟩ rfl rfl hl.1 rfl (lv_room (Nat.le_of_ble_eq_true rfl)) dX7_look_16 ⟨Nat.zero_le _, Nat.zero_le _⟩) hS (fun _ _ h => h) (fun _ h => h) (fun r16 _ t H locs ht hvm hw9 hB hz1 hk1 hS => ?_)
    have hP := ho_at ht hB
    obtain ⟨eq16, hb_r16⟩ := hw9
    have hF := bnd_s eq16 hF
    refine lv_if_ne (tgt := 28) hx hb dX7_look_19 (by decide) (fun c19 => ?_) (fun c19 => ?_)
    · have hF := iff_ c19 hF
      refine lv_aload_n hx hb dX7_look_28 rfl (lv_at hl 0 rfl) ?_
      refine lv_iconst (v := 0) hx hb dX7_look_29 (by decide) ?_
      refine pput16 hx hb hts inX7 tyX7 tyX7_ok nmX7 hown hK hP hA hS (j := 279) (by decide) (by decide) rfl rfl 0 (by decide) (hts (.fieldLink RX7 45 "TileRunnersModel" "thrown" "I") (List.mem_of_getElem? (i := 1) rfl)) (fun _ h9 => h9) rfl (tyX7_ok 0 (by decide)) rfl rfl (Nat.le_of_ble_eq_true rfl) (490) (by decide) (setM_0) dX7_look_30 (fun u9 H locs eu9 hP hS => ?_)
      obtain ⟨u30, e_u30⟩ : ∃ z, z = u9 := ⟨_, rfl⟩
      rw [← e_u30] at hP eu9
      have hF := bnd_s eu9 hF
      have hO := okM_up eu9 hO (by omega) (by omega) (by omega)
      refine lv_iconst (v := 0) hx hb dX7_look_33 (by decide) ?_
      refine lv_istore_n (lv' := [(3, .int 0), (0, .ref (ad (279))), (1, .int a), (2, .int b)]) hx hb dX7_look_34 rfl hl (by decide) rfl (fun ls hl => ?_)
      have L35 : ∀ (n35 : Nat) (w3_35 : Int32) (H : Heap) (locs : List Loc) (ls : Array Slot), (4 - w3_35.toInt).toNat < n35 → 0 ≤ w3_35 → va_P D vwCl (pool G ad (va_up σ 16 u30)) H → va_S (AA B0) s.heap H locs → lv_has ls 4 [(3, .int w3_35), (0, .ref (ad (279))), (1, .int a), (2, .int b)] → f7_look_L35 a b u30 n35 w3_35 = FF → W p l e (headSpec wsX7_look { frames := 3, cells := 0, slots := 0, locals := 64 }).room s m ([.ref (ad (279)), .int a, .int b] : List Value).toArray below meth c H locs 0 0 (MQ below (va_Qi (fun (r : Int32) (z : Nat → Int32) => (r, z) = f7_look u a b ∧ okM z) (fun (z : Nat → Int32) => Ho D G ad (va_up σ 16 z)) (AA B0)) ([.ref (ad (279)), .int a, .int b] : List Value).toArray s 0 0 (AA B0)) (F0 m 35 ls []) := by
        intro n35
        induction n35 with
        | zero => intro w3_35 H locs ls hm; exact absurd hm (Nat.not_lt_zero _)
        | succ n35 ih35 =>
          intro w3_35 H locs ls hm35 h3 hP hS hl hF
          rw [f7_look_L35] at hF
          refine lv_iload_n hx hb dX7_look_35 rfl (lv_at hl 0 rfl) ?_
          refine lv_aload_n hx hb dX7_look_36 rfl (lv_at hl 1 rfl) ?_
          refine va_get (D := D) (ci := 9) (C := RX7) (T := TX7) (N := 17) hx hb hts inX7 hown hK hP (279) c_279 rfl 1 (by decide) (hts (.fieldLink RX7 7 "TileRunnersModel" "world" "[I") (List.mem_of_getElem? (i := 2) rfl)) (fun _ h9 => h9) rfl dX7_look_37 ?_
          refine lv_sipush (v := 464) hx hb dX7_look_40 (by decide) ?_
          refine pald (n := 480) (o := 0) (t := 464) (i := 464) hx hb hK hP c_280 (vp_in_iff.mpr (by decide)) rfl dX7_look_43 ?_
          refine lv_icmp_ge (tgt := 106) hx hb dX7_look_44 (by decide) (fun c44 => ?_) (fun c44 => ?_)
          · have hF := ift c44 hF
            refine lv_iconst (v := 0) hx hb dX7_look_106 (by decide) ?_
            refine lv_istore_n (lv' := [(3, .int 0), (0, .ref (ad (279))), (1, .int a), (2, .int b)]) hx hb dX7_look_107 rfl hl (by decide) rfl (fun ls hl => ?_)
            have L108 : ∀ (n108 : Nat) (w3_108 : Int32) (H : Heap) (locs : List Loc) (ls : Array Slot), (4 - w3_108.toInt).toNat < n108 → 0 ≤ w3_108 → va_P D vwCl (pool G ad (va_up σ 16 u30)) H → va_S (AA B0) s.heap H locs → lv_has ls 4 [(3, .int w3_108), (0, .ref (ad (279))), (1, .int a), (2, .int b)] → f7_look_L108 a b u30 n108 w3_108 = FF → W p l e (headSpec wsX7_look { frames := 3, cells := 0, slots := 0, locals := 64 }).room s m ([.ref (ad (279)), .int a, .int b] : List Value).toArray below meth c H locs 0 0 (MQ below (va_Qi (fun (r : Int32) (z : Nat → Int32) => (r, z) = f7_look u a b ∧ okM z) (fun (z : Nat → Int32) => Ho D G ad (va_up σ 16 z)) (AA B0)) ([.ref (ad (279)), .int a, .int b] : List Value).toArray s 0 0 (AA B0)) (F0 m 108 ls []) := by
              intro n108
              induction n108 with
              | zero => intro w3_108 H locs ls hm; exact absurd hm (Nat.not_lt_zero _)
              | succ n108 ih108 =>
                intro w3_108 H locs ls hm108 h3 hP hS hl hF
                rw [f7_look_L108] at hF
                refine lv_iload_n hx hb dX7_look_108 rfl (lv_at hl 0 rfl) ?_
                refine lv_aload_n hx hb dX7_look_109 rfl (lv_at hl 1 rfl) ?_
                refine va_get (D := D) (ci := 9) (C := RX7) (T := TX7) (N := 17) hx hb hts inX7 hown hK hP (279) c_279 rfl 1 (by decide) (hts (.fieldLink RX7 7 "TileRunnersModel" "world" "[I") (List.mem_of_getElem? (i := 2) rfl)) (fun _ h9 => h9) rfl dX7_look_110 ?_
                refine lv_sipush (v := 465) hx hb dX7_look_113 (by decide) ?_
                refine pald (n := 480) (o := 0) (t := 465) (i := 465) hx hb hK hP c_280 (vp_in_iff.mpr (by decide)) rfl dX7_look_116 ?_
                refine lv_icmp_ge (tgt := 167) hx hb dX7_look_117 (by decide) (fun c117 => ?_) (fun c117 => ?_)
                · have hF := ift c117 hF
                  refine lv_aload_n hx hb dX7_look_167 rfl (lv_at hl 1 rfl) ?_
                  refine lv_iload_n hx hb dX7_look_168 rfl (lv_at hl 2 rfl) ?_
                  refine lv_iload_n hx hb dX7_look_169 rfl (lv_at hl 3 rfl) ?_
                  refine va_calli (va_runV (As := [.int a, .int b]) (rest := []) ⟨hx, hb, hml, hown, hts⟩ (c7_kindAt l hA σ u30 a b ) (cwV 2 hts gX7_look_X7_kindAt rfl rfl rfl hd_X7_kindAtV ⟨Nat.le_of_ble_eq_true rfl, Nat.le_of_ble_eq_true rfl⟩) ⟨hp_blind, va_recv hK hP (ci := 9) (q0 := 279) rfl c_279, hp_pre hK hN hP⟩ rfl rfl hl.1 rfl (lv_room (Nat.le_of_ble_eq_true rfl)) dX7_look_170 ⟨Nat.zero_le _, Nat.zero_le _⟩) hS (fun _ _ h => h) (fun _ h => h) (fun r170 _ t H locs ht hvm hw9 hB hz1 hk1 hS => ?_)
                  have hP := ho_at ht hB
                  have eq170 := hw9
                  have hF := bnd_s eq170 hF
                  exact W.iret (v := r170) hx hb hr (fun t ht hW => ⟨⟨r170, u30, rfl, ⟨hF.trans hFF, hO⟩, ho_of ht hP⟩, hS.F ht⟩) hS.2.2 dX7_look_173
                · have hF := iff_ c117 hF
                  have hbw3_108 : vp_in w3_108 4 := in_n h3 (nle_lt c117) hO.1.2.2.2
                  refine lv_aload_n hx hb dX7_look_120 rfl (lv_at hl 1 rfl) ?_
                  refine lv_iload_n hx hb dX7_look_121 rfl (lv_at hl 0 rfl) ?_
                  refine lv_iconst (v := 1) hx hb dX7_look_122 (by decide) ?_
                  refine va_calli (va_runV (As := [.int w3_108, .int 1]) (rest := []) ⟨hx, hb, hml, hown, hts⟩ (c7_plate l hA σ u30 w3_108 1 (vp_in_iff.mpr (by decide)) hbw3_108) (cwV 2 hts gX7_look_X7_plate rfl rfl rfl hd_X7_plateV ⟨Nat.le_of_ble_eq_true rfl, Nat.le_of_ble_eq_true rfl⟩) ⟨hp_blind, va_recv hK hP (ci := 9) (q0 := 279) rfl c_279, hp_pre hK hN hP⟩ rfl rfl hl.1 rfl (lv_room (Nat.le_of_ble_eq_true rfl)) dX7_look_123 ⟨Nat.zero_le _, Nat.zero_le _⟩) hS (fun _ _ h => h) (fun _ h => h) (fun r123 _ t H locs ht hvm hw9 hB hz1 hk1 hS => ?_)
                  have hP := ho_at ht hB
                  have eq123 := hw9
                  have hF := bnd_s eq123 hF
                  refine lv_iload_n hx hb dX7_look_126 rfl (lv_at hl 3 rfl) ?_
                  refine lv_iconst (v := 1) hx hb dX7_look_127 (by decide) ?_
                  refine lv_iadd hx hb dX7_look_128 ?_
                  have J161 : ∀  (H : Heap) (locs : List Loc) (ls : Array Slot), va_P D vwCl (pool G ad (va_up σ 16 u30)) H → va_S (AA B0) s.heap H locs → lv_has ls 4 [(3, .int w3_108), (0, .ref (ad (279))), (1, .int a), (2, .int b)] → f7_look_b161 (f7_look_L108 a b u30 n108) w3_108  = FF → W p l e (headSpec wsX7_look { frames := 3, cells := 0, slots := 0, locals := 64 }).room s m ([.ref (ad (279)), .int a, .int b] : List Value).toArray below meth c H locs 0 0 (MQ below (va_Qi (fun (r : Int32) (z : Nat → Int32) => (r, z) = f7_look u a b ∧ okM z) (fun (z : Nat → Int32) => Ho D G ad (va_up σ 16 z)) (AA B0)) ([.ref (ad (279)), .int a, .int b] : List Value).toArray s 0 0 (AA B0)) (F0 m 161 ls []) := by
                    intro  H locs ls hP hS hl hF
                    rw [f7_look_b161] at hF
                    obtain ⟨v3_161, e_v3_161⟩ : ∃ z : Int32, z = w3_108 + 1 := ⟨_, rfl⟩
                    have hF := bnd_s e_v3_161 hF
                    refine lv_iinc (v := v3_161) (lv' := [(3, .int v3_161), (0, .ref (ad (279))), (1, .int a), (2, .int b)]) hx hb dX7_look_161 hl (k := 0) rfl (by rw [e_v3_161]; rfl) (by decide) rfl (fun ls hl => ?_)
                    refine lv_goto (tgt := 108) hx hb dX7_look_164 (by decide) ?_
                    exact ih108 v3_161 _ _ ls (ms_s (dec_i4 hbw3_108 e_v3_161) hm108) (ge0_i4 hbw3_108 e_v3_161) hP hS (lv_sub hl [0, 1, 2, 3] rfl) hF
                  refine lv_icmp_ne (tgt := 161) hx hb dX7_look_129 (by decide) (fun c129 => ?_) (fun c129 => ?_)
                  · have hF := iff_ c129 hF
                    exact J161  _ _ ls hP hS (lv_sub hl [0, 1, 2, 3] rfl) hF
                  · have hF := ift c129 hF
                    refine lv_iload_n hx hb dX7_look_132 rfl (lv_at hl 2 rfl) ?_
                    refine lv_aload_n hx hb dX7_look_133 rfl (lv_at hl 1 rfl) ?_
                    refine lv_iload_n hx hb dX7_look_134 rfl (lv_at hl 0 rfl) ?_
                    refine lv_iconst (v := 0) hx hb dX7_look_135 (by decide) ?_
                    refine va_calli (va_runV (As := [.int w3_108, .int 0]) (rest := [.int a]) ⟨hx, hb, hml, hown, hts⟩ (c7_plate l hA σ u30 w3_108 0 (vp_in_iff.mpr (by decide)) hbw3_108) (cwV 2 hts gX7_look_X7_plate rfl rfl rfl hd_X7_plateV ⟨Nat.le_of_ble_eq_true rfl, Nat.le_of_ble_eq_true rfl⟩) ⟨hp_blind, va_recv hK hP (ci := 9) (q0 := 279) rfl c_279, hp_pre hK hN hP⟩ rfl rfl hl.1 rfl (lv_room (Nat.le_of_ble_eq_true rfl)) dX7_look_136 ⟨Nat.zero_le _, Nat.zero_le _⟩) hS (fun _ _ h => h) (fun _ h => h) (fun r136 _ t H locs ht hvm hw9 hB hz1 hk1 hS => ?_)
                    have hP := ho_at ht hB
                    have eq136 := hw9
                    have hF := bnd_s eq136 hF
                    refine lv_isub hx hb dX7_look_139 ?_
                    refine lv_iconst (v := 0) hx hb dX7_look_140 (by decide) ?_
                    refine lv_aload_n hx hb dX7_look_141 rfl (lv_at hl 1 rfl) ?_
                    refine lv_iload_n hx hb dX7_look_142 rfl (lv_at hl 0 rfl) ?_
                    refine lv_iconst (v := 2) hx hb dX7_look_143 (by decide) ?_
                    refine va_calli (va_runV (As := [.int w3_108, .int 2]) (rest := [.int 0, .int (a - r136)]) ⟨hx, hb, hml, hown, hts⟩ (c7_plate l hA σ u30 w3_108 2 (vp_in_iff.mpr (by decide)) hbw3_108) (cwV 2 hts gX7_look_X7_plate rfl rfl rfl hd_X7_plateV ⟨Nat.le_of_ble_eq_true rfl, Nat.le_of_ble_eq_true rfl⟩) ⟨hp_blind, va_recv hK hP (ci := 9) (q0 := 279) rfl c_279, hp_pre hK hN hP⟩ rfl rfl hl.1 rfl (lv_room (Nat.le_of_ble_eq_true rfl)) dX7_look_144 ⟨Nat.zero_le _, Nat.zero_le _⟩) hS (fun _ _ h => h) (fun _ h => h) (fun r144 _ t H locs ht hvm hw9 hB hz1 hk1 hS => ?_)
                    have hP := ho_at ht hB
                    have eq144 := hw9
                    have hF := bnd_s eq144 hF
                    refine lv_iconst (v := 1) hx hb dX7_look_147 (by decide) ?_
                    refine lv_isub hx hb dX7_look_148 ?_
                    refine va_calli (va_runS (As := [.int (a - r136), .int 0, .int (r144 - 1)]) (rest := []) ⟨hx, hb, hml, hown, hts⟩ (c7_isBetween l hA (va_up σ 16 u30) (a - r136) 0 (r144 - 1) ) (va_cwS 3 hts gX7_look_X7_isBetween rfl rfl rfl hd_X7_isBetweenS ⟨Nat.le_of_ble_eq_true rfl, Nat.le_of_ble_eq_true rfl⟩) ⟨hp_blind, hp_pre hK hN hP⟩ rfl rfl hl.1 rfl (lv_room (Nat.le_of_ble_eq_true rfl)) dX7_look_149 ⟨Nat.zero_le _, Nat.zero_le _⟩) hS (fun _ _ h => h) (fun _ h => h) (fun r149 _ t H locs ht hvm hw9 hB hz1 hk1 hS => ?_)
                    have hP := ho_at ht hB
                    obtain ⟨eq149, hb_r149⟩ := hw9
                    have hF := bnd_s eq149 hF
                    refine lv_if_eq (tgt := 161) hx hb dX7_look_152 (by decide) (fun c152 => ?_) (fun c152 => ?_)
                    · have hF := ift c152 hF
                      exact J161  _ _ ls hP hS (lv_sub hl [0, 1, 2, 3] rfl) hF
                    · have hF := iff_ c152 hF
                      refine lv_sipush (v := 200) hx hb dX7_look_155 (by decide) ?_
                      refine lv_iload_n hx hb dX7_look_158 rfl (lv_at hl 0 rfl) ?_
                      refine lv_iadd hx hb dX7_look_159 ?_
                      exact W.iret (v := (200 + w3_108)) hx hb hr (fun t ht hW => ⟨⟨(200 + w3_108), u30, rfl, ⟨hF.trans hFF, hO⟩, ho_of ht hP⟩, hS.F ht⟩) hS.2.2 dX7_look_160
            exact L108 BIG 0 _ _ ls (big_i4 _) le0 hP hS (lv_sub hl [0, 1, 2, 3] rfl) hF
          · have hF := iff_ c44 hF
            have hbw3_35 : vp_in w3_35 4 := in_n h3 (nle_lt c44) hO.1.2.1
            refine lv_iload_n hx hb dX7_look_47 rfl (lv_at hl 2 rfl) ?_
            refine lv_aload_n hx hb dX7_look_48 rfl (lv_at hl 1 rfl) ?_
            refine lv_iload_n hx hb dX7_look_49 rfl (lv_at hl 0 rfl) ?_
            refine lv_iconst (v := 0) hx hb dX7_look_50 (by decide) ?_
            refine va_calli (va_runV (As := [.int w3_35, .int 0]) (rest := [.int a]) ⟨hx, hb, hml, hown, hts⟩ (c7_of l hA σ u30 w3_35 0 (vp_in_iff.mpr (by decide)) hbw3_35) (cwV 2 hts gX7_look_X7_of rfl rfl rfl hd_X7_ofV ⟨Nat.le_of_ble_eq_true rfl, Nat.le_of_ble_eq_true rfl⟩) ⟨hp_blind, va_recv hK hP (ci := 9) (q0 := 279) rfl c_279, hp_pre hK hN hP⟩ rfl rfl hl.1 rfl (lv_room (Nat.le_of_ble_eq_true rfl)) dX7_look_51 ⟨Nat.zero_le _, Nat.zero_le _⟩) hS (fun _ _ h => h) (fun _ h => h) (fun r51 _ t H locs ht hvm hw9 hB hz1 hk1 hS => ?_)
            have hP := ho_at ht hB
            have eq51 := hw9
            have hF := bnd_s eq51 hF
            refine lv_isub hx hb dX7_look_54 ?_
            refine lv_iconst (v := 0) hx hb dX7_look_55 (by decide) ?_
            refine lv_aload_n hx hb dX7_look_56 rfl (lv_at hl 1 rfl) ?_
            refine lv_iload_n hx hb dX7_look_57 rfl (lv_at hl 0 rfl) ?_
            refine lv_bipush (v := 7) hx hb dX7_look_58 (by decide) ?_
            refine va_calli (va_runV (As := [.int w3_35, .int 7]) (rest := [.int 0, .int (a - r51)]) ⟨hx, hb, hml, hown, hts⟩ (c7_of l hA σ u30 w3_35 7 (vp_in_iff.mpr (by decide)) hbw3_35) (cwV 2 hts gX7_look_X7_of rfl rfl rfl hd_X7_ofV ⟨Nat.le_of_ble_eq_true rfl, Nat.le_of_ble_eq_true rfl⟩) ⟨hp_blind, va_recv hK hP (ci := 9) (q0 := 279) rfl c_279, hp_pre hK hN hP⟩ rfl rfl hl.1 rfl (lv_room (Nat.le_of_ble_eq_true rfl)) dX7_look_60 ⟨Nat.zero_le _, Nat.zero_le _⟩) hS (fun _ _ h => h) (fun _ h => h) (fun r60 _ t H locs ht hvm hw9 hB hz1 hk1 hS => ?_)
            have hP := ho_at ht hB
            have eq60 := hw9
            have hF := bnd_s eq60 hF
            refine lv_iconst (v := 1) hx hb dX7_look_63 (by decide) ?_
            refine lv_isub hx hb dX7_look_64 ?_
            refine va_calli (va_runS (As := [.int (a - r51), .int 0, .int (r60 - 1)]) (rest := []) ⟨hx, hb, hml, hown, hts⟩ (c7_isBetween l hA (va_up σ 16 u30) (a - r51) 0 (r60 - 1) ) (va_cwS 3 hts gX7_look_X7_isBetween rfl rfl rfl hd_X7_isBetweenS ⟨Nat.le_of_ble_eq_true rfl, Nat.le_of_ble_eq_true rfl⟩) ⟨hp_blind, hp_pre hK hN hP⟩ rfl rfl hl.1 rfl (lv_room (Nat.le_of_ble_eq_true rfl)) dX7_look_65 ⟨Nat.zero_le _, Nat.zero_le _⟩) hS (fun _ _ h => h) (fun _ h => h) (fun r65 _ t H locs ht hvm hw9 hB hz1 hk1 hS => ?_)
            have hP := ho_at ht hB
            obtain ⟨eq65, hb_r65⟩ := hw9
            have hF := bnd_s eq65 hF
            have J100 : ∀  (H : Heap) (locs : List Loc) (ls : Array Slot), va_P D vwCl (pool G ad (va_up σ 16 u30)) H → va_S (AA B0) s.heap H locs → lv_has ls 4 [(3, .int w3_35), (0, .ref (ad (279))), (1, .int a), (2, .int b)] → f7_look_b100 (f7_look_L35 a b u30 n35) w3_35  = FF → W p l e (headSpec wsX7_look { frames := 3, cells := 0, slots := 0, locals := 64 }).room s m ([.ref (ad (279)), .int a, .int b] : List Value).toArray below meth c H locs 0 0 (MQ below (va_Qi (fun (r : Int32) (z : Nat → Int32) => (r, z) = f7_look u a b ∧ okM z) (fun (z : Nat → Int32) => Ho D G ad (va_up σ 16 z)) (AA B0)) ([.ref (ad (279)), .int a, .int b] : List Value).toArray s 0 0 (AA B0)) (F0 m 100 ls []) := by
              intro  H locs ls hP hS hl hF
              rw [f7_look_b100] at hF
              obtain ⟨v3_100, e_v3_100⟩ : ∃ z : Int32, z = w3_35 + 1 := ⟨_, rfl⟩
              have hF := bnd_s e_v3_100 hF
              refine lv_iinc (v := v3_100) (lv' := [(3, .int v3_100), (0, .ref (ad (279))), (1, .int a), (2, .int b)]) hx hb dX7_look_100 hl (k := 0) rfl (by rw [e_v3_100]; rfl) (by decide) rfl (fun ls hl => ?_)
              refine lv_goto (tgt := 35) hx hb dX7_look_103 (by decide) ?_
              exact ih35 v3_100 _ _ ls (ms_s (dec_i4 hbw3_35 e_v3_100) hm35) (ge0_i4 hbw3_35 e_v3_100) hP hS (lv_sub hl [0, 1, 2, 3] rfl) hF
            refine lv_if_eq (tgt := 100) hx hb dX7_look_68 (by decide) (fun c68 => ?_) (fun c68 => ?_)
            · have hF := ift c68 hF
              exact J100  _ _ ls hP hS (lv_sub hl [0, 1, 2, 3] rfl) hF
            · have hF := iff_ c68 hF
              refine lv_iload_n hx hb dX7_look_71 rfl (lv_at hl 3 rfl) ?_
              refine lv_aload_n hx hb dX7_look_72 rfl (lv_at hl 1 rfl) ?_
              refine lv_iload_n hx hb dX7_look_73 rfl (lv_at hl 0 rfl) ?_
              refine lv_iconst (v := 1) hx hb dX7_look_74 (by decide) ?_
              refine va_calli (va_runV (As := [.int w3_35, .int 1]) (rest := [.int b]) ⟨hx, hb, hml, hown, hts⟩ (c7_of l hA σ u30 w3_35 1 (vp_in_iff.mpr (by decide)) hbw3_35) (cwV 2 hts gX7_look_X7_of rfl rfl rfl hd_X7_ofV ⟨Nat.le_of_ble_eq_true rfl, Nat.le_of_ble_eq_true rfl⟩) ⟨hp_blind, va_recv hK hP (ci := 9) (q0 := 279) rfl c_279, hp_pre hK hN hP⟩ rfl rfl hl.1 rfl (lv_room (Nat.le_of_ble_eq_true rfl)) dX7_look_75 ⟨Nat.zero_le _, Nat.zero_le _⟩) hS (fun _ _ h => h) (fun _ h => h) (fun r75 _ t H locs ht hvm hw9 hB hz1 hk1 hS => ?_)
              have hP := ho_at ht hB
              have eq75 := hw9
              have hF := bnd_s eq75 hF
              refine lv_isub hx hb dX7_look_78 ?_
              refine lv_iconst (v := 0) hx hb dX7_look_79 (by decide) ?_
              refine lv_aload_n hx hb dX7_look_80 rfl (lv_at hl 1 rfl) ?_
              refine lv_iload_n hx hb dX7_look_81 rfl (lv_at hl 0 rfl) ?_
              refine lv_bipush (v := 8) hx hb dX7_look_82 (by decide) ?_
              refine va_calli (va_runV (As := [.int w3_35, .int 8]) (rest := [.int 0, .int (b - r75)]) ⟨hx, hb, hml, hown, hts⟩ (c7_of l hA σ u30 w3_35 8 (vp_in_iff.mpr (by decide)) hbw3_35) (cwV 2 hts gX7_look_X7_of rfl rfl rfl hd_X7_ofV ⟨Nat.le_of_ble_eq_true rfl, Nat.le_of_ble_eq_true rfl⟩) ⟨hp_blind, va_recv hK hP (ci := 9) (q0 := 279) rfl c_279, hp_pre hK hN hP⟩ rfl rfl hl.1 rfl (lv_room (Nat.le_of_ble_eq_true rfl)) dX7_look_84 ⟨Nat.zero_le _, Nat.zero_le _⟩) hS (fun _ _ h => h) (fun _ h => h) (fun r84 _ t H locs ht hvm hw9 hB hz1 hk1 hS => ?_)
              have hP := ho_at ht hB
              have eq84 := hw9
              have hF := bnd_s eq84 hF
              refine lv_iconst (v := 1) hx hb dX7_look_87 (by decide) ?_
              refine lv_isub hx hb dX7_look_88 ?_
              refine va_calli (va_runS (As := [.int (b - r75), .int 0, .int (r84 - 1)]) (rest := []) ⟨hx, hb, hml, hown, hts⟩ (c7_isBetween l hA (va_up σ 16 u30) (b - r75) 0 (r84 - 1) ) (va_cwS 3 hts gX7_look_X7_isBetween rfl rfl rfl hd_X7_isBetweenS ⟨Nat.le_of_ble_eq_true rfl, Nat.le_of_ble_eq_true rfl⟩) ⟨hp_blind, hp_pre hK hN hP⟩ rfl rfl hl.1 rfl (lv_room (Nat.le_of_ble_eq_true rfl)) dX7_look_89 ⟨Nat.zero_le _, Nat.zero_le _⟩) hS (fun _ _ h => h) (fun _ h => h) (fun r89 _ t H locs ht hvm hw9 hB hz1 hk1 hS => ?_)
              have hP := ho_at ht hB
              obtain ⟨eq89, hb_r89⟩ := hw9
              have hF := bnd_s eq89 hF
              refine lv_if_eq (tgt := 100) hx hb dX7_look_92 (by decide) (fun c92 => ?_) (fun c92 => ?_)
              · have hF := ift c92 hF
                exact J100  _ _ ls hP hS (lv_sub hl [0, 1, 2, 3] rfl) hF
              · have hF := iff_ c92 hF
                refine lv_bipush (v := 100) hx hb dX7_look_95 (by decide) ?_
                refine lv_iload_n hx hb dX7_look_97 rfl (lv_at hl 0 rfl) ?_
                refine lv_iadd hx hb dX7_look_98 ?_
                exact W.iret (v := (100 + w3_35)) hx hb hr (fun t ht hW => ⟨⟨(100 + w3_35), u30, rfl, ⟨hF.trans hFF, hO⟩, ho_of ht hP⟩, hS.F ht⟩) hS.2.2 dX7_look_99
      exact L35 BIG 0 _ _ ls (big_i4 _) le0 hP hS (lv_sub hl [0, 1, 2, 3] rfl) hF
    · have hF := ift c19 hF
      refine lv_aload_n hx hb dX7_look_22 rfl (lv_at hl 0 rfl) ?_
      refine lv_iconst (v := 1) hx hb dX7_look_23 (by decide) ?_
      refine va_calli (va_runV (As := [.int 1]) (rest := []) ⟨hx, hb, hml, hown, hts⟩ (c7_fails l hA σ u 1 hO) (cwV 1 hts gX7_look_X7_fails rfl rfl rfl hd_X7_failsV ⟨Nat.le_of_ble_eq_true rfl, Nat.le_of_ble_eq_true rfl⟩) ⟨hp_blind, va_recv hK hP (ci := 9) (q0 := 279) rfl c_279, hp_pre hK hN hP⟩ rfl rfl hl.1 rfl (lv_room (Nat.le_of_ble_eq_true rfl)) dX7_look_24 ⟨Nat.zero_le _, Nat.zero_le _⟩) hS (fun _ _ h => h) (fun _ h => h) (fun r24 u9 t H locs ht hvm hw9 hB hz1 hk1 hS => ?_)
      have hP := ho_at ht hB
      obtain ⟨eq24, ok9⟩ := hw9
      obtain ⟨u24, e_u24⟩ : ∃ z, z = u9 := ⟨_, rfl⟩
      rw [← e_u24] at hP eq24 ok9
      have hO := ok9
      have hF := bnd2_s eq24 hF
      exact W.iret (v := r24) hx hb hr (fun t ht hW => ⟨⟨r24, u24, rfl, ⟨hF.trans hFF, hO⟩, ho_of ht hP⟩, hS.F ht⟩) hS.2.2 dX7_look_27
theorem hd_X7_lookV : yX7_look.cls = RX7 ∧ yX7_look.cls ≠ "java/lang/invoke/MethodHandle" ∧ yX7_look.cls ≠ "java/lang/invoke/VarHandle" ∧ (parseMethodDescriptor yX7_look.desc).map (fun d => d.parameters.length) = some 2 := by decide +kernel
set_option maxHeartbeats 4000000 in
set_option maxRecDepth 100000 in
theorem c7_isFreeCell (l : Launch) {D : va_G} {G : CY} {ad : Nat → Nat} {B0 : Nat} (hA : adOK B0 ad) (σ : Nat → Nat → Int32) (u : Nat → Int32) (a : Int32) (b : Int32) : Met l yX7_isFreeCell wsX7_isFreeCell { frames := 4, cells := 0, slots := 0, locals := 86 } (va_Pc [.ref (ad (279)), .int a, .int b] (Hp D G ad (va_up σ 16 u))) (va_Qi (fun (r : Int32) (_ : Unit) => r = f7_isFreeCell u a b ∧ bl r) (fun (_ : Unit) => Ho D G ad (va_up σ 16 u)) (AA B0)) 0 0 (AA B0) := by
  refine Met.ofW (cc := cX7_isFreeCell) (maxL := 4) (ret := (some .boolean)) (by decide) rfl ?_
  intro p e s m args below meth c s₁ B hml hv
  obtain ⟨rfl, hP, hK, hN⟩ := hv
  have hx := B.exec
  have hb := B.bytes
  have hr := B.returns
  have hts := atoms_spec (ws := wsX7_isFreeCell) B.pre
  have hown : s.vm.findClass RX7 = some m.cls := findClass_of_methodNamed B.named
  have hlocks := B.notSynchronized
  have hP : va_P D vwCl (pool G ad (va_up σ 16 u)) s.heap := hP
  have hS : va_S (AA B0) s.heap s.heap [] := va_S.rf
  have hl := lv_entry ([.ref (ad (279)), .int a, .int b]) (n := 4) (Nat.le_of_ble_eq_true rfl)
  rw [lg_entry_eq]
  generalize (lg_sl ([.ref (ad (279)), .int a, .int b]) ++ List.replicate (4 - (lg_sl ([.ref (ad (279)), .int a, .int b])).length) Slot.unset).toArray = ls at hl ⊢
  have hl : lv_has ls 4 [(0, .ref (ad (279))), (1, .int a), (2, .int b)] := hl
  obtain ⟨FF, hFF⟩ : ∃ z, z = f7_isFreeCell u a b := ⟨_, rfl⟩
  have hF := hFF.symm
  rw [f7_isFreeCell] at hF
  refine lv_aload_n hx hb dX7_isFreeCell_0 rfl (lv_at hl 0 rfl) ?_
  refine lv_iload_n hx hb dX7_isFreeCell_1 rfl (lv_at hl 1 rfl) ?_
  refine lv_iload_n hx hb dX7_isFreeCell_2 rfl (lv_at hl 2 rfl) ?_
  refine va_calli (va_runV (As := [.int a, .int b]) (rest := []) ⟨hx, hb, hml, hown, hts⟩ (c7_kindAt l hA σ u a b ) (cwV 2 hts gX7_isFreeCell_X7_kindAt rfl rfl rfl hd_X7_kindAtV ⟨Nat.le_of_ble_eq_true rfl, Nat.le_of_ble_eq_true rfl⟩) ⟨hp_blind, va_recv hK hP (ci := 9) (q0 := 279) rfl c_279, hp_pre hK hN hP⟩ rfl rfl hl.1 rfl (lv_room (Nat.le_of_ble_eq_true rfl)) dX7_isFreeCell_3 ⟨Nat.zero_le _, Nat.zero_le _⟩) hS (fun _ _ h => h) (fun _ h => h) (fun r3 _ t H locs ht hvm hw9 hB hz1 hk1 hS => ?_)
  have hP := ho_at ht hB
  have eq3 := hw9
  have hF := bnd_s eq3 hF
  refine lv_istore_n (lv' := [(3, .int r3), (0, .ref (ad (279))), (1, .int a), (2, .int b)]) hx hb dX7_isFreeCell_6 rfl hl (by decide) rfl (fun ls hl => ?_)
  refine lv_iload_n hx hb dX7_isFreeCell_7 rfl (lv_at hl 0 rfl) ?_
  refine va_calli (va_runS (As := [.int r3]) (rest := []) ⟨hx, hb, hml, hown, hts⟩ (c7_isFirm l hA (va_up σ 16 u) r3 ) (va_cwS 1 hts gX7_isFreeCell_X7_isFirm rfl rfl rfl hd_X7_isFirmS ⟨Nat.le_of_ble_eq_true rfl, Nat.le_of_ble_eq_true rfl⟩) ⟨hp_blind, hp_pre hK hN hP⟩ rfl rfl hl.1 rfl (lv_room (Nat.le_of_ble_eq_true rfl)) dX7_isFreeCell_8 ⟨Nat.zero_le _, Nat.zero_le _⟩) hS (fun _ _ h => h) (fun _ h => h) (fun r8 _ t H locs ht hvm hw9 hB hz1 hk1 hS => ?_)
  have hP := ho_at ht hB
  obtain ⟨eq8, hb_r8⟩ := hw9
  have hF := bnd_s eq8 hF
  refine lv_if_ne (tgt := 35) hx hb dX7_isFreeCell_11 (by decide) (fun c11 => ?_) (fun c11 => ?_)
  · have hF := iff_ c11 hF
    refine lv_iconst (v := 0) hx hb dX7_isFreeCell_35 (by decide) ?_
    exact W.zret (v := 0) hx hb hr (bl_nar bl0) (fun t ht hW => ⟨⟨0, (), rfl, ⟨hF.trans hFF, bl0⟩, ho_of ht hP⟩, hS.F ht⟩) hS.2.2 dX7_isFreeCell_36
  · have hF := ift c11 hF
    refine lv_iload_n hx hb dX7_isFreeCell_14 rfl (lv_at hl 0 rfl) ?_
    refine va_calli (va_runS (As := [.int r3]) (rest := []) ⟨hx, hb, hml, hown, hts⟩ (c7_isSlope l hA (va_up σ 16 u) r3 ) (va_cwS 1 hts gX7_isFreeCell_X7_isSlope rfl rfl rfl hd_X7_isSlopeS ⟨Nat.le_of_ble_eq_true rfl, Nat.le_of_ble_eq_true rfl⟩) ⟨hp_blind, hp_pre hK hN hP⟩ rfl rfl hl.1 rfl (lv_room (Nat.le_of_ble_eq_true rfl)) dX7_isFreeCell_15 ⟨Nat.zero_le _, Nat.zero_le _⟩) hS (fun _ _ h => h) (fun _ h => h) (fun r15 _ t H locs ht hvm hw9 hB hz1 hk1 hS => ?_)
    have hP := ho_at ht hB
    obtain ⟨eq15, hb_r15⟩ := hw9
    have hF := bnd_s eq15 hF
    refine lv_if_eq (tgt := 31) hx hb dX7_isFreeCell_18 (by decide) (fun c18 => ?_) (fun c18 => ?_)
    · have hF := ift c18 hF
      refine lv_iconst (v := 1) hx hb dX7_isFreeCell_31 (by decide) ?_
      refine lv_goto (tgt := 36) hx hb dX7_isFreeCell_32 (by decide) ?_
      exact W.zret (v := 1) hx hb hr (bl_nar bl1) (fun t ht hW => ⟨⟨1, (), rfl, ⟨hF.trans hFF, bl1⟩, ho_of ht hP⟩, hS.F ht⟩) hS.2.2 dX7_isFreeCell_36
    · have hF := iff_ c18 hF
      refine lv_iload_n hx hb dX7_isFreeCell_21 rfl (lv_at hl 3 rfl) ?_
      refine lv_aload_n hx hb dX7_isFreeCell_22 rfl (lv_at hl 1 rfl) ?_
      refine lv_iload_n hx hb dX7_isFreeCell_23 rfl (lv_at hl 2 rfl) ?_
      refine lv_iload_n hx hb dX7_isFreeCell_24 rfl (lv_at hl 3 rfl) ?_
      refine va_calli (va_runV (As := [.int a, .int b]) (rest := [.int b]) ⟨hx, hb, hml, hown, hts⟩ (c7_surfaceAt l hA σ u a b ) (cwV 2 hts gX7_isFreeCell_X7_surfaceAt rfl rfl rfl hd_X7_surfaceAtV ⟨Nat.le_of_ble_eq_true rfl, Nat.le_of_ble_eq_true rfl⟩) ⟨hp_blind, va_recv hK hP (ci := 9) (q0 := 279) rfl c_279, hp_pre hK hN hP⟩ rfl rfl hl.1 rfl (lv_room (Nat.le_of_ble_eq_true rfl)) dX7_isFreeCell_25 ⟨Nat.zero_le _, Nat.zero_le _⟩) hS (fun _ _ h => h) (fun _ h => h) (fun r25 _ t H locs ht hvm hw9 hB hz1 hk1 hS => ?_)
      have hP := ho_at ht hB
      have eq25 := hw9
      have hF := bnd_s eq25 hF
      refine lv_icmp_lt (tgt := 35) hx hb dX7_isFreeCell_28 (by decide) (fun c28 => ?_) (fun c28 => ?_)
      · have hF := ift c28 hF
        refine lv_iconst (v := 0) hx hb dX7_isFreeCell_35 (by decide) ?_
        exact W.zret (v := 0) hx hb hr (bl_nar bl0) (fun t ht hW => ⟨⟨0, (), rfl, ⟨hF.trans hFF, bl0⟩, ho_of ht hP⟩, hS.F ht⟩) hS.2.2 dX7_isFreeCell_36
      · have hF := iff_ c28 hF
        refine lv_iconst (v := 1) hx hb dX7_isFreeCell_31 (by decide) ?_
        refine lv_goto (tgt := 36) hx hb dX7_isFreeCell_32 (by decide) ?_
        exact W.zret (v := 1) hx hb hr (bl_nar bl1) (fun t ht hW => ⟨⟨1, (), rfl, ⟨hF.trans hFF, bl1⟩, ho_of ht hP⟩, hS.F ht⟩) hS.2.2 dX7_isFreeCell_36
theorem hd_X7_isFreeCellV : yX7_isFreeCell.cls = RX7 ∧ yX7_isFreeCell.cls ≠ "java/lang/invoke/MethodHandle" ∧ yX7_isFreeCell.cls ≠ "java/lang/invoke/VarHandle" ∧ (parseMethodDescriptor yX7_isFreeCell.desc).map (fun d => d.parameters.length) = some 2 := by decide +kernel
set_option maxHeartbeats 4000000 in
set_option maxRecDepth 100000 in
theorem c7_ray (l : Launch) {D : va_G} {G : CY} {ad : Nat → Nat} {B0 : Nat} (hA : adOK B0 ad) (σ : Nat → Nat → Int32) (u : Nat → Int32) (a : Int32) (b : Int32) (c1 : Int32) (hO : okM u) : Met l yX7_ray wsX7_ray { frames := 5, cells := 0, slots := 0, locals := 109 } (va_Pc [.ref (ad (279)), .int a, .int b, .int c1] (Hp D G ad (va_up σ 16 u))) (va_Qi (fun (r : Int32) (z : Nat → Int32) => (r, z) = f7_ray u a b c1 ∧ okM z) (fun (z : Nat → Int32) => Ho D G ad (va_up σ 16 z)) (AA B0)) 0 0 (AA B0) := by
  refine Met.ofW (cc := cX7_ray) (maxL := 7) (ret := (some .int)) (by decide) rfl ?_
  intro p e s m args below meth c s₁ B hml hv
  obtain ⟨rfl, hP, hK, hN⟩ := hv
  have hx := B.exec
  have hb := B.bytes
  have hr := B.returns
  have hts := atoms_spec (ws := wsX7_ray) B.pre
  have hown : s.vm.findClass RX7 = some m.cls := findClass_of_methodNamed B.named
  have hlocks := B.notSynchronized
  have inX7 : ∀ w ∈ wsX70, w ∈ wsX7_ray := (fun w h => List.mem_cons_of_mem _ (List.mem_append_left _ (List.mem_append_right _ h)))
  have hP : va_P D vwCl (pool G ad (va_up σ 16 u)) s.heap := hP
  have hS : va_S (AA B0) s.heap s.heap [] := va_S.rf
  have hl := lv_entry ([.ref (ad (279)), .int a, .int b, .int c1]) (n := 7) (Nat.le_of_ble_eq_true rfl)
  rw [lg_entry_eq]
  generalize (lg_sl ([.ref (ad (279)), .int a, .int b, .int c1]) ++ List.replicate (7 - (lg_sl ([.ref (ad (279)), .int a, .int b, .int c1])).length) Slot.unset).toArray = ls at hl ⊢
  have hl : lv_has ls 7 [(0, .ref (ad (279))), (1, .int a), (2, .int b), (3, .int c1)] := hl
  obtain ⟨FF, hFF⟩ : ∃ z, z = f7_ray u a b c1 := ⟨_, rfl⟩
  have hF := hFF.symm
  rw [f7_ray] at hF
  refine lv_iload_n hx hb dX7_ray_0 rfl (lv_at hl 1 rfl) ?_
  refine lv_iconst (v := 0) hx hb dX7_ray_1 (by decide) ?_
  refine lv_sipush (v := 383) hx hb dX7_ray_2 (by decide) ?_
  refine va_calli (va_runS (As := [.int a, .int 0, .int 383]) (rest := []) ⟨hx, hb, hml, hown, hts⟩ (c7_isBetween l hA (va_up σ 16 u) a 0 383 ) (va_cwS 3 hts gX7_ray_X7_isBetween rfl rfl rfl hd_X7_isBetweenS ⟨Nat.le_of_ble_eq_true rfl, Nat.le_of_ble_eq_true rfl⟩) ⟨hp_blind, hp_pre hK hN hP⟩ rfl rfl hl.1 rfl (lv_room (Nat.le_of_ble_eq_true rfl)) dX7_ray_5 ⟨Nat.zero_le _, Nat.zero_le _⟩) hS (fun _ _ h => h) (fun _ h => h) (fun r5 _ t H locs ht hvm hw9 hB hz1 hk1 hS => ?_)
  have hP := ho_at ht hB
  obtain ⟨eq5, hb_r5⟩ := hw9
  have hF := bnd_s eq5 hF
  refine lv_if_eq (tgt := 31) hx hb dX7_ray_8 (by decide) (fun c8 => ?_) (fun c8 => ?_)
  · have hF := ift c8 hF
    refine lv_aload_n hx hb dX7_ray_31 rfl (lv_at hl 0 rfl) ?_
    refine lv_iconst (v := 1) hx hb dX7_ray_32 (by decide) ?_
    refine va_calli (va_runV (As := [.int 1]) (rest := []) ⟨hx, hb, hml, hown, hts⟩ (c7_fails l hA σ u 1 hO) (cwV 1 hts gX7_ray_X7_fails rfl rfl rfl hd_X7_failsV ⟨Nat.le_of_ble_eq_true rfl, Nat.le_of_ble_eq_true rfl⟩) ⟨hp_blind, va_recv hK hP (ci := 9) (q0 := 279) rfl c_279, hp_pre hK hN hP⟩ rfl rfl hl.1 rfl (lv_room (Nat.le_of_ble_eq_true rfl)) dX7_ray_33 ⟨Nat.zero_le _, Nat.zero_le _⟩) hS (fun _ _ h => h) (fun _ h => h) (fun r33 u9 t H locs ht hvm hw9 hB hz1 hk1 hS => ?_)
    have hP := ho_at ht hB
    obtain ⟨eq33, ok9⟩ := hw9
    obtain ⟨u33, e_u33⟩ : ∃ z, z = u9 := ⟨_, rfl⟩
    rw [← e_u33] at hP eq33 ok9
    have hO := ok9
    have hF := bnd2_s eq33 hF
    exact W.iret (v := r33) hx hb hr (fun t ht hW => ⟨⟨r33, u33, rfl, ⟨hF.trans hFF, hO⟩, ho_of ht hP⟩, hS.F ht⟩) hS.2.2 dX7_ray_36
  · have hF := iff_ c8 hF
    refine lv_iload_n hx hb dX7_ray_11 rfl (lv_at hl 2 rfl) ?_
    refine lv_iconst (v := 0) hx hb dX7_ray_12 (by decide) ?_
    refine lv_sipush (v := 223) hx hb dX7_ray_13 (by decide) ?_
    refine va_calli (va_runS (As := [.int b, .int 0, .int 223]) (rest := []) ⟨hx, hb, hml, hown, hts⟩ (c7_isBetween l hA (va_up σ 16 u) b 0 223 ) (va_cwS 3 hts gX7_ray_X7_isBetween rfl rfl rfl hd_X7_isBetweenS ⟨Nat.le_of_ble_eq_true rfl, Nat.le_of_ble_eq_true rfl⟩) ⟨hp_blind, hp_pre hK hN hP⟩ rfl rfl hl.1 rfl (lv_room (Nat.le_of_ble_eq_true rfl)) dX7_ray_16 ⟨Nat.zero_le _, Nat.zero_le _⟩) hS (fun _ _ h => h) (fun _ h => h) (fun r16 _ t H locs ht hvm hw9 hB hz1 hk1 hS => ?_)
    have hP := ho_at ht hB
    obtain ⟨eq16, hb_r16⟩ := hw9
    have hF := bnd_s eq16 hF
    refine lv_if_eq (tgt := 31) hx hb dX7_ray_19 (by decide) (fun c19 => ?_) (fun c19 => ?_)
    · have hF := ift c19 hF
      refine lv_aload_n hx hb dX7_ray_31 rfl (lv_at hl 0 rfl) ?_
      refine lv_iconst (v := 1) hx hb dX7_ray_32 (by decide) ?_
      refine va_calli (va_runV (As := [.int 1]) (rest := []) ⟨hx, hb, hml, hown, hts⟩ (c7_fails l hA σ u 1 hO) (cwV 1 hts gX7_ray_X7_fails rfl rfl rfl hd_X7_failsV ⟨Nat.le_of_ble_eq_true rfl, Nat.le_of_ble_eq_true rfl⟩) ⟨hp_blind, va_recv hK hP (ci := 9) (q0 := 279) rfl c_279, hp_pre hK hN hP⟩ rfl rfl hl.1 rfl (lv_room (Nat.le_of_ble_eq_true rfl)) dX7_ray_33 ⟨Nat.zero_le _, Nat.zero_le _⟩) hS (fun _ _ h => h) (fun _ h => h) (fun r33 u9 t H locs ht hvm hw9 hB hz1 hk1 hS => ?_)
      have hP := ho_at ht hB
      obtain ⟨eq33, ok9⟩ := hw9
      obtain ⟨u33, e_u33⟩ : ∃ z, z = u9 := ⟨_, rfl⟩
      rw [← e_u33] at hP eq33 ok9
      have hO := ok9
      have hF := bnd2_s eq33 hF
      exact W.iret (v := r33) hx hb hr (fun t ht hW => ⟨⟨r33, u33, rfl, ⟨hF.trans hFF, hO⟩, ho_of ht hP⟩, hS.F ht⟩) hS.2.2 dX7_ray_36
    · have hF := iff_ c19 hF
      refine lv_iload_n hx hb dX7_ray_22 rfl (lv_at hl 3 rfl) ?_
      refine lv_iconst (v := 0) hx hb dX7_ray_23 (by decide) ?_
      refine lv_iconst (v := 3) hx hb dX7_ray_24 (by decide) ?_
      refine va_calli (va_runS (As := [.int c1, .int 0, .int 3]) (rest := []) ⟨hx, hb, hml, hown, hts⟩ (c7_isBetween l hA (va_up σ 16 u) c1 0 3 ) (va_cwS 3 hts gX7_ray_X7_isBetween rfl rfl rfl hd_X7_isBetweenS ⟨Nat.le_of_ble_eq_true rfl, Nat.le_of_ble_eq_true rfl⟩) ⟨hp_blind, hp_pre hK hN hP⟩ rfl rfl hl.1 rfl (lv_room (Nat.le_of_ble_eq_true rfl)) dX7_ray_25 ⟨Nat.zero_le _, Nat.zero_le _⟩) hS (fun _ _ h => h) (fun _ h => h) (fun r25 _ t H locs ht hvm hw9 hB hz1 hk1 hS => ?_)
      have hP := ho_at ht hB
      obtain ⟨eq25, hb_r25⟩ := hw9
      have hF := bnd_s eq25 hF
      refine lv_if_ne (tgt := 37) hx hb dX7_ray_28 (by decide) (fun c28 => ?_) (fun c28 => ?_)
      · have hF := iff_ c28 hF
        have hd4 : vp_in c1 4 := btw_in eq25 c28 (by decide)
        refine lv_aload_n hx hb dX7_ray_37 rfl (lv_at hl 0 rfl) ?_
        refine lv_iconst (v := 0) hx hb dX7_ray_38 (by decide) ?_
        refine pput16 hx hb hts inX7 tyX7 tyX7_ok nmX7 hown hK hP hA hS (j := 279) (by decide) (by decide) rfl rfl 0 (by decide) (hts (.fieldLink RX7 45 "TileRunnersModel" "thrown" "I") (List.mem_of_getElem? (i := 1) rfl)) (fun _ h9 => h9) rfl (tyX7_ok 0 (by decide)) rfl rfl (Nat.le_of_ble_eq_true rfl) (490) (by decide) (setM_0) dX7_ray_39 (fun u9 H locs eu9 hP hS => ?_)
        obtain ⟨u39, e_u39⟩ : ∃ z, z = u9 := ⟨_, rfl⟩
        rw [← e_u39] at hP eu9
        have hF := bnd_s eu9 hF
        have hO := okM_up eu9 hO (by omega) (by omega) (by omega)
        refine lv_iload_n hx hb dX7_ray_42 rfl (lv_at hl 1 rfl) ?_
        refine lv_istore (lv' := [(4, .int a), (0, .ref (ad (279))), (1, .int a), (2, .int b), (3, .int c1)]) hx hb dX7_ray_43 hl (by decide) rfl (fun ls hl => ?_)
        refine lv_iload_n hx hb dX7_ray_45 rfl (lv_at hl 3 rfl) ?_
        refine lv_istore (lv' := [(5, .int b), (4, .int a), (0, .ref (ad (279))), (1, .int a), (2, .int b), (3, .int c1)]) hx hb dX7_ray_46 hl (by decide) rfl (fun ls hl => ?_)
        refine lv_iconst (v := 0) hx hb dX7_ray_48 (by decide) ?_
        refine lv_istore (lv' := [(6, .int 0), (5, .int b), (4, .int a), (0, .ref (ad (279))), (1, .int a), (2, .int b), (3, .int c1)]) hx hb dX7_ray_49 hl (by decide) rfl (fun ls hl => ?_)
        have L51 : ∀ (n51 : Nat) (w6_51 : Int32) (w5_51 : Int32) (w4_51 : Int32) (H : Heap) (locs : List Loc) (ls : Array Slot), rayM c1 w4_51 w5_51 < n51 → va_P D vwCl (pool G ad (va_up σ 16 u39)) H → va_S (AA B0) s.heap H locs → lv_has ls 7 [(6, .int w6_51), (5, .int w5_51), (4, .int w4_51), (0, .ref (ad (279))), (3, .int c1)] → f7_ray_L51 c1 u39 n51 w6_51 w5_51 w4_51 = FF → W p l e (headSpec wsX7_ray { frames := 5, cells := 0, slots := 0, locals := 109 }).room s m ([.ref (ad (279)), .int a, .int b, .int c1] : List Value).toArray below meth c H locs 0 0 (MQ below (va_Qi (fun (r : Int32) (z : Nat → Int32) => (r, z) = f7_ray u a b c1 ∧ okM z) (fun (z : Nat → Int32) => Ho D G ad (va_up σ 16 z)) (AA B0)) ([.ref (ad (279)), .int a, .int b, .int c1] : List Value).toArray s 0 0 (AA B0)) (F0 m 51 ls []) := by
          intro n51
          induction n51 with
          | zero => intro w6_51 w5_51 w4_51 H locs ls hm; exact absurd hm (Nat.not_lt_zero _)
          | succ n51 ih51 =>
            intro w6_51 w5_51 w4_51 H locs ls hm51 hP hS hl hF
            rw [f7_ray_L51] at hF
            refine lv_iload hx hb dX7_ray_51 (lv_at hl 1 rfl) ?_
            refine lv_iconst (v := 0) hx hb dX7_ray_53 (by decide) ?_
            refine lv_sipush (v := 223) hx hb dX7_ray_54 (by decide) ?_
            refine va_calli (va_runS (As := [.int w5_51, .int 0, .int 223]) (rest := []) ⟨hx, hb, hml, hown, hts⟩ (c7_isBetween l hA (va_up σ 16 u39) w5_51 0 223 ) (va_cwS 3 hts gX7_ray_X7_isBetween rfl rfl rfl hd_X7_isBetweenS ⟨Nat.le_of_ble_eq_true rfl, Nat.le_of_ble_eq_true rfl⟩) ⟨hp_blind, hp_pre hK hN hP⟩ rfl rfl hl.1 rfl (lv_room (Nat.le_of_ble_eq_true rfl)) dX7_ray_57 ⟨Nat.zero_le _, Nat.zero_le _⟩) hS (fun _ _ h => h) (fun _ h => h) (fun r57 _ t H locs ht hvm hw9 hB hz1 hk1 hS => ?_)
            have hP := ho_at ht hB
            obtain ⟨eq57, hb_r57⟩ := hw9
            have hF := bnd_s eq57 hF
            have J127 : ∀  (H : Heap) (locs : List Loc) (ls : Array Slot), va_P D vwCl (pool G ad (va_up σ 16 u39)) H → va_S (AA B0) s.heap H locs → lv_has ls 7 [(6, .int w6_51), (5, .int w5_51)] → f7_ray_b127 u39 w6_51 w5_51  = FF → W p l e (headSpec wsX7_ray { frames := 5, cells := 0, slots := 0, locals := 109 }).room s m ([.ref (ad (279)), .int a, .int b, .int c1] : List Value).toArray below meth c H locs 0 0 (MQ below (va_Qi (fun (r : Int32) (z : Nat → Int32) => (r, z) = f7_ray u a b c1 ∧ okM z) (fun (z : Nat → Int32) => Ho D G ad (va_up σ 16 z)) (AA B0)) ([.ref (ad (279)), .int a, .int b, .int c1] : List Value).toArray s 0 0 (AA B0)) (F0 m 127 ls []) := by
              intro  H locs ls hP hS hl hF
              rw [f7_ray_b127] at hF
              refine lv_iload hx hb dX7_ray_127 (lv_at hl 1 rfl) ?_
              refine lv_iconst (v := 0) hx hb dX7_ray_129 (by decide) ?_
              refine lv_sipush (v := 223) hx hb dX7_ray_130 (by decide) ?_
              refine va_calli (va_runS (As := [.int w5_51, .int 0, .int 223]) (rest := []) ⟨hx, hb, hml, hown, hts⟩ (c7_isBetween l hA (va_up σ 16 u39) w5_51 0 223 ) (va_cwS 3 hts gX7_ray_X7_isBetween rfl rfl rfl hd_X7_isBetweenS ⟨Nat.le_of_ble_eq_true rfl, Nat.le_of_ble_eq_true rfl⟩) ⟨hp_blind, hp_pre hK hN hP⟩ rfl rfl hl.1 rfl (lv_room (Nat.le_of_ble_eq_true rfl)) dX7_ray_133 ⟨Nat.zero_le _, Nat.zero_le _⟩) hS (fun _ _ h => h) (fun _ h => h) (fun r133 _ t H locs ht hvm hw9 hB hz1 hk1 hS => ?_)
              have hP := ho_at ht hB
              obtain ⟨eq133, hb_r133⟩ := hw9
              have hF := bnd_s eq133 hF
              refine lv_if_eq (tgt := 144) hx hb dX7_ray_136 (by decide) (fun c136 => ?_) (fun c136 => ?_)
              · have hF := ift c136 hF
                refine lv_iconst (v := (-1)) hx hb dX7_ray_144 (by decide) ?_
                exact W.iret (v := (-1)) hx hb hr (fun t ht hW => ⟨⟨(-1), u39, rfl, ⟨hF.trans hFF, hO⟩, ho_of ht hP⟩, hS.F ht⟩) hS.2.2 dX7_ray_145
              · have hF := iff_ c136 hF
                refine lv_iload hx hb dX7_ray_139 (lv_at hl 0 rfl) ?_
                refine lv_goto (tgt := 145) hx hb dX7_ray_141 (by decide) ?_
                exact W.iret (v := w6_51) hx hb hr (fun t ht hW => ⟨⟨w6_51, u39, rfl, ⟨hF.trans hFF, hO⟩, ho_of ht hP⟩, hS.F ht⟩) hS.2.2 dX7_ray_145
            refine lv_if_eq (tgt := 127) hx hb dX7_ray_60 (by decide) (fun c60 => ?_) (fun c60 => ?_)
            · have hF := ift c60 hF
              exact J127  _ _ ls hP hS (lv_sub hl [0, 1] rfl) hF
            · have hF := iff_ c60 hF
              refine lv_aload_n hx hb dX7_ray_63 rfl (lv_at hl 3 rfl) ?_
              refine lv_iload hx hb dX7_ray_64 (lv_at hl 2 rfl) ?_
              refine lv_iload hx hb dX7_ray_66 (lv_at hl 1 rfl) ?_
              refine va_calli (va_runV (As := [.int w4_51, .int w5_51]) (rest := []) ⟨hx, hb, hml, hown, hts⟩ (c7_isFreeCell l hA σ u39 w4_51 w5_51 ) (cwV 2 hts gX7_ray_X7_isFreeCell rfl rfl rfl hd_X7_isFreeCellV ⟨Nat.le_of_ble_eq_true rfl, Nat.le_of_ble_eq_true rfl⟩) ⟨hp_blind, va_recv hK hP (ci := 9) (q0 := 279) rfl c_279, hp_pre hK hN hP⟩ rfl rfl hl.1 rfl (lv_room (Nat.le_of_ble_eq_true rfl)) dX7_ray_68 ⟨Nat.zero_le _, Nat.zero_le _⟩) hS (fun _ _ h => h) (fun _ h => h) (fun r68 _ t H locs ht hvm hw9 hB hz1 hk1 hS => ?_)
              have hP := ho_at ht hB
              obtain ⟨eq68, hb_r68⟩ := hw9
              have hF := bnd_s eq68 hF
              refine lv_if_eq (tgt := 127) hx hb dX7_ray_71 (by decide) (fun c71 => ?_) (fun c71 => ?_)
              · have hF := ift c71 hF
                exact J127  _ _ ls hP hS (lv_sub hl [0, 1] rfl) hF
              · have hF := iff_ c71 hF
                refine lv_iload hx hb dX7_ray_74 (lv_at hl 2 rfl) ?_
                refine lv_iload_n hx hb dX7_ray_76 rfl (lv_at hl 4 rfl) ?_
                have J94 : ∀ (t0_94 : Int32) (H : Heap) (locs : List Loc) (ls : Array Slot), t0_94 = rayX c1 → va_P D vwCl (pool G ad (va_up σ 16 u39)) H → va_S (AA B0) s.heap H locs → lv_has ls 7 [(6, .int w6_51), (5, .int w5_51), (0, .ref (ad (279))), (3, .int c1)] → f7_ray_b94 (f7_ray_L51 c1 u39 n51) c1 w6_51 w5_51 w4_51 t0_94 = FF → W p l e (headSpec wsX7_ray { frames := 5, cells := 0, slots := 0, locals := 109 }).room s m ([.ref (ad (279)), .int a, .int b, .int c1] : List Value).toArray below meth c H locs 0 0 (MQ below (va_Qi (fun (r : Int32) (z : Nat → Int32) => (r, z) = f7_ray u a b c1 ∧ okM z) (fun (z : Nat → Int32) => Ho D G ad (va_up σ 16 z)) (AA B0)) ([.ref (ad (279)), .int a, .int b, .int c1] : List Value).toArray s 0 0 (AA B0)) (F0 m 94 ls [.int t0_94, .int w4_51]) := by
                  intro t0_94 H locs ls hx94 hP hS hl hF
                  rw [f7_ray_b94] at hF
                  refine lv_iadd hx hb dX7_ray_94 ?_
                  refine lv_topi (fun v4_95 e_v4_95 => ?_)
                  have hF := bnd_s e_v4_95 hF
                  refine lv_istore (lv' := [(4, .int v4_95), (6, .int w6_51), (5, .int w5_51), (0, .ref (ad (279))), (3, .int c1)]) hx hb dX7_ray_95 hl (by decide) rfl (fun ls hl => ?_)
                  refine lv_iload hx hb dX7_ray_97 (lv_at hl 2 rfl) ?_
                  refine lv_iload_n hx hb dX7_ray_99 rfl (lv_at hl 4 rfl) ?_
                  refine lv_iconst (v := 1) hx hb dX7_ray_100 (by decide) ?_
                  have J118 : ∀ (t0_118 : Int32) (H : Heap) (locs : List Loc) (ls : Array Slot), t0_118 = rayY c1 → va_P D vwCl (pool G ad (va_up σ 16 u39)) H → va_S (AA B0) s.heap H locs → lv_has ls 7 [(4, .int v4_95), (6, .int w6_51), (0, .ref (ad (279))), (3, .int c1)] → f7_ray_b118 (f7_ray_L51 c1 u39 n51) w6_51 w5_51 v4_95 t0_118 = FF → W p l e (headSpec wsX7_ray { frames := 5, cells := 0, slots := 0, locals := 109 }).room s m ([.ref (ad (279)), .int a, .int b, .int c1] : List Value).toArray below meth c H locs 0 0 (MQ below (va_Qi (fun (r : Int32) (z : Nat → Int32) => (r, z) = f7_ray u a b c1 ∧ okM z) (fun (z : Nat → Int32) => Ho D G ad (va_up σ 16 z)) (AA B0)) ([.ref (ad (279)), .int a, .int b, .int c1] : List Value).toArray s 0 0 (AA B0)) (F0 m 118 ls [.int t0_118, .int w5_51]) := by
                    intro t0_118 H locs ls hy118 hP hS hl hF
                    rw [f7_ray_b118] at hF
                    refine lv_iadd hx hb dX7_ray_118 ?_
                    refine lv_topi (fun v5_119 e_v5_119 => ?_)
                    have hF := bnd_s e_v5_119 hF
                    refine lv_istore (lv' := [(5, .int v5_119), (4, .int v4_95), (6, .int w6_51), (0, .ref (ad (279))), (3, .int c1)]) hx hb dX7_ray_119 hl (by decide) rfl (fun ls hl => ?_)
                    obtain ⟨v6_121, e_v6_121⟩ : ∃ z : Int32, z = w6_51 + 1 := ⟨_, rfl⟩
                    have hF := bnd_s e_v6_121 hF
                    refine lv_iinc (v := v6_121) (lv' := [(6, .int v6_121), (5, .int v5_119), (4, .int v4_95), (0, .ref (ad (279))), (3, .int c1)]) hx hb dX7_ray_121 hl (k := 2) rfl (by rw [e_v6_121]; rfl) (by decide) rfl (fun ls hl => ?_)
                    refine lv_goto (tgt := 51) hx hb dX7_ray_124 (by decide) ?_
                    exact ih51 v6_121 v5_119 v4_95 _ _ ls (ms_s (ray_dec hd4 eq57 c60 eq68 c71 (by rw [e_v4_95, hx94]) (by rw [e_v5_119, hy118])) hm51) hP hS (lv_sub hl [0, 1, 2, 3, 4] rfl) hF
                  refine lv_icmp_ne (tgt := 108) hx hb dX7_ray_101 (by decide) (fun c101 => ?_) (fun c101 => ?_)
                  · have hF := iff_ c101 hF
                    refine lv_iload_n hx hb dX7_ray_108 rfl (lv_at hl 4 rfl) ?_
                    refine lv_iconst (v := 3) hx hb dX7_ray_109 (by decide) ?_
                    refine lv_icmp_ne (tgt := 117) hx hb dX7_ray_110 (by decide) (fun c110 => ?_) (fun c110 => ?_)
                    · have hF := iff_ c110 hF
                      refine lv_iconst (v := 0) hx hb dX7_ray_117 (by decide) ?_
                      exact J118 0 _ _ ls (by unfold rayY; rw [if_neg c101, if_neg c110]) hP hS (lv_sub hl [0, 1, 3, 4] rfl) hF
                    · have hF := ift c110 hF
                      refine lv_iconst (v := (-1)) hx hb dX7_ray_113 (by decide) ?_
                      refine lv_goto (tgt := 118) hx hb dX7_ray_114 (by decide) ?_
                      exact J118 (-1) _ _ ls (by unfold rayY; rw [if_neg c101, if_pos c110]) hP hS (lv_sub hl [0, 1, 3, 4] rfl) hF
                  · have hF := ift c101 hF
                    refine lv_iconst (v := 1) hx hb dX7_ray_104 (by decide) ?_
                    refine lv_goto (tgt := 118) hx hb dX7_ray_105 (by decide) ?_
                    exact J118 1 _ _ ls (by unfold rayY; rw [if_pos c101]) hP hS (lv_sub hl [0, 1, 3, 4] rfl) hF
                refine lv_if_ne (tgt := 84) hx hb dX7_ray_77 (by decide) (fun c77 => ?_) (fun c77 => ?_)
                · have hF := iff_ c77 hF
                  refine lv_iload_n hx hb dX7_ray_84 rfl (lv_at hl 4 rfl) ?_
                  refine lv_iconst (v := 2) hx hb dX7_ray_85 (by decide) ?_
                  refine lv_icmp_ne (tgt := 93) hx hb dX7_ray_86 (by decide) (fun c86 => ?_) (fun c86 => ?_)
                  · have hF := iff_ c86 hF
                    refine lv_iconst (v := 0) hx hb dX7_ray_93 (by decide) ?_
                    exact J94 0 _ _ ls (by unfold rayX; rw [if_neg c77, if_neg c86]) hP hS (lv_sub hl [0, 1, 3, 4] rfl) hF
                  · have hF := ift c86 hF
                    refine lv_iconst (v := (-1)) hx hb dX7_ray_89 (by decide) ?_
                    refine lv_goto (tgt := 94) hx hb dX7_ray_90 (by decide) ?_
                    exact J94 (-1) _ _ ls (by unfold rayX; rw [if_neg c77, if_pos c86]) hP hS (lv_sub hl [0, 1, 3, 4] rfl) hF
                · have hF := ift c77 hF
                  refine lv_iconst (v := 1) hx hb dX7_ray_80 (by decide) ?_
                  refine lv_goto (tgt := 94) hx hb dX7_ray_81 (by decide) ?_
                  exact J94 1 _ _ ls (by unfold rayX; rw [if_pos c77]) hP hS (lv_sub hl [0, 1, 3, 4] rfl) hF
        exact L51 BIG 0 b a _ _ ls (big_ray _ _ _) hP hS (lv_sub hl [0, 1, 2, 3, 6] rfl) hF
      · have hF := ift c28 hF
        refine lv_aload_n hx hb dX7_ray_31 rfl (lv_at hl 0 rfl) ?_
        refine lv_iconst (v := 1) hx hb dX7_ray_32 (by decide) ?_
        refine va_calli (va_runV (As := [.int 1]) (rest := []) ⟨hx, hb, hml, hown, hts⟩ (c7_fails l hA σ u 1 hO) (cwV 1 hts gX7_ray_X7_fails rfl rfl rfl hd_X7_failsV ⟨Nat.le_of_ble_eq_true rfl, Nat.le_of_ble_eq_true rfl⟩) ⟨hp_blind, va_recv hK hP (ci := 9) (q0 := 279) rfl c_279, hp_pre hK hN hP⟩ rfl rfl hl.1 rfl (lv_room (Nat.le_of_ble_eq_true rfl)) dX7_ray_33 ⟨Nat.zero_le _, Nat.zero_le _⟩) hS (fun _ _ h => h) (fun _ h => h) (fun r33 u9 t H locs ht hvm hw9 hB hz1 hk1 hS => ?_)
        have hP := ho_at ht hB
        obtain ⟨eq33, ok9⟩ := hw9
        obtain ⟨u33, e_u33⟩ : ∃ z, z = u9 := ⟨_, rfl⟩
        rw [← e_u33] at hP eq33 ok9
        have hO := ok9
        have hF := bnd2_s eq33 hF
        exact W.iret (v := r33) hx hb hr (fun t ht hW => ⟨⟨r33, u33, rfl, ⟨hF.trans hFF, hO⟩, ho_of ht hP⟩, hS.F ht⟩) hS.2.2 dX7_ray_36
theorem hd_X7_rayV : yX7_ray.cls = RX7 ∧ yX7_ray.cls ≠ "java/lang/invoke/MethodHandle" ∧ yX7_ray.cls ≠ "java/lang/invoke/VarHandle" ∧ (parseMethodDescriptor yX7_ray.desc).map (fun d => d.parameters.length) = some 3 := by decide +kernel
set_option maxHeartbeats 4000000 in
set_option maxRecDepth 100000 in
theorem c7_predict (l : Launch) {D : va_G} {G : CY} {ad : Nat → Nat} {B0 : Nat} (hA : adOK B0 ad) (σ : Nat → Nat → Int32) (u : Nat → Int32) (a : Int32) (b : Int32) (c1 : Int32) (d : Int32) (hO : okM u) : Met l yX7_predict wsX7_predict { frames := 13, cells := 0, slots := 0, locals := 300 } (va_Pc [.ref (ad (279)), .int a, .int b, .int c1, .int d] (Hp D G ad (va_up σ 16 u))) (va_Qi (fun (r : Int32) (z : Nat → Int32) => (r, z) = f7_predict u a b c1 d ∧ okM z) (fun (z : Nat → Int32) => Ho D G ad (va_up σ 16 z)) (AA B0)) 0 0 (AA B0) := by
  refine Met.ofW (cc := cX7_predict) (maxL := 6) (ret := (some .int)) (by decide) rfl ?_
  intro p e s m args below meth c s₁ B hml hv
  obtain ⟨rfl, hP, hK, hN⟩ := hv
  have hx := B.exec
  have hb := B.bytes
  have hr := B.returns
  have hts := atoms_spec (ws := wsX7_predict) B.pre
  have hown : s.vm.findClass RX7 = some m.cls := findClass_of_methodNamed B.named
  have hlocks := B.notSynchronized
  have inX7 : ∀ w ∈ wsX70, w ∈ wsX7_predict := (fun w h => List.mem_cons_of_mem _ (List.mem_append_left _ (List.mem_append_right _ h)))
  have hP : va_P D vwCl (pool G ad (va_up σ 16 u)) s.heap := hP
  have hS : va_S (AA B0) s.heap s.heap [] := va_S.rf
  have hl := lv_entry ([.ref (ad (279)), .int a, .int b, .int c1, .int d]) (n := 6) (Nat.le_of_ble_eq_true rfl)
  rw [lg_entry_eq]
  generalize (lg_sl ([.ref (ad (279)), .int a, .int b, .int c1, .int d]) ++ List.replicate (6 - (lg_sl ([.ref (ad (279)), .int a, .int b, .int c1, .int d])).length) Slot.unset).toArray = ls at hl ⊢
  have hl : lv_has ls 6 [(0, .ref (ad (279))), (1, .int a), (2, .int b), (3, .int c1), (4, .int d)] := hl
  obtain ⟨FF, hFF⟩ : ∃ z, z = f7_predict u a b c1 d := ⟨_, rfl⟩
  have hF := hFF.symm
  rw [f7_predict] at hF
  refine lv_aload_n hx hb dX7_predict_0 rfl (lv_at hl 0 rfl) ?_
  refine lv_iload_n hx hb dX7_predict_1 rfl (lv_at hl 1 rfl) ?_
  refine va_calli (va_runV (As := [.int a]) (rest := []) ⟨hx, hb, hml, hown, hts⟩ (c7_isBody l hA σ u a ) (cwV 1 hts gX7_predict_X7_isBody rfl rfl rfl hd_X7_isBodyV ⟨Nat.le_of_ble_eq_true rfl, Nat.le_of_ble_eq_true rfl⟩) ⟨hp_blind, va_recv hK hP (ci := 9) (q0 := 279) rfl c_279, hp_pre hK hN hP⟩ rfl rfl hl.1 rfl (lv_room (Nat.le_of_ble_eq_true rfl)) dX7_predict_2 ⟨Nat.zero_le _, Nat.zero_le _⟩) hS (fun _ _ h => h) (fun _ h => h) (fun r2 _ t H locs ht hvm hw9 hB hz1 hk1 hS => ?_)
  have hP := ho_at ht hB
  obtain ⟨eq2, hb_r2⟩ := hw9
  have hF := bnd_s eq2 hF
  refine lv_if_ne (tgt := 14) hx hb dX7_predict_5 (by decide) (fun c5 => ?_) (fun c5 => ?_)
  · have hF := iff_ c5 hF
    have hba := body_in hO.1 eq2 c5
    refine lv_iload_n hx hb dX7_predict_14 rfl (lv_at hl 2 rfl) ?_
    refine lv_iconst (v := 0) hx hb dX7_predict_15 (by decide) ?_
    refine lv_bipush (v := 15) hx hb dX7_predict_16 (by decide) ?_
    refine va_calli (va_runS (As := [.int b, .int 0, .int 15]) (rest := []) ⟨hx, hb, hml, hown, hts⟩ (c7_isBetween l hA (va_up σ 16 u) b 0 15 ) (va_cwS 3 hts gX7_predict_X7_isBetween rfl rfl rfl hd_X7_isBetweenS ⟨Nat.le_of_ble_eq_true rfl, Nat.le_of_ble_eq_true rfl⟩) ⟨hp_blind, hp_pre hK hN hP⟩ rfl rfl hl.1 rfl (lv_room (Nat.le_of_ble_eq_true rfl)) dX7_predict_18 ⟨Nat.zero_le _, Nat.zero_le _⟩) hS (fun _ _ h => h) (fun _ h => h) (fun r18 _ t H locs ht hvm hw9 hB hz1 hk1 hS => ?_)
    have hP := ho_at ht hB
    obtain ⟨eq18, hb_r18⟩ := hw9
    have hF := bnd_s eq18 hF
    refine lv_if_eq (tgt := 45) hx hb dX7_predict_21 (by decide) (fun c21 => ?_) (fun c21 => ?_)
    · have hF := ift c21 hF
      refine lv_aload_n hx hb dX7_predict_45 rfl (lv_at hl 0 rfl) ?_
      refine lv_iconst (v := 2) hx hb dX7_predict_46 (by decide) ?_
      refine va_calli (va_runV (As := [.int 2]) (rest := []) ⟨hx, hb, hml, hown, hts⟩ (c7_fails l hA σ u 2 hO) (cwV 1 hts gX7_predict_X7_fails rfl rfl rfl hd_X7_failsV ⟨Nat.le_of_ble_eq_true rfl, Nat.le_of_ble_eq_true rfl⟩) ⟨hp_blind, va_recv hK hP (ci := 9) (q0 := 279) rfl c_279, hp_pre hK hN hP⟩ rfl rfl hl.1 rfl (lv_room (Nat.le_of_ble_eq_true rfl)) dX7_predict_47 ⟨Nat.zero_le _, Nat.zero_le _⟩) hS (fun _ _ h => h) (fun _ h => h) (fun r47 u9 t H locs ht hvm hw9 hB hz1 hk1 hS => ?_)
      have hP := ho_at ht hB
      obtain ⟨eq47, ok9⟩ := hw9
      obtain ⟨u47, e_u47⟩ : ∃ z, z = u9 := ⟨_, rfl⟩
      rw [← e_u47] at hP eq47 ok9
      have hO := ok9
      have hF := bnd2_s eq47 hF
      exact W.iret (v := r47) hx hb hr (fun t ht hW => ⟨⟨r47, u47, rfl, ⟨hF.trans hFF, hO⟩, ho_of ht hP⟩, hS.F ht⟩) hS.2.2 dX7_predict_50
    · have hF := iff_ c21 hF
      refine lv_iload_n hx hb dX7_predict_24 rfl (lv_at hl 3 rfl) ?_
      refine lv_iconst (v := 1) hx hb dX7_predict_25 (by decide) ?_
      refine lv_bipush (v := 40) hx hb dX7_predict_26 (by decide) ?_
      refine va_calli (va_runS (As := [.int c1, .int 1, .int 40]) (rest := []) ⟨hx, hb, hml, hown, hts⟩ (c7_isBetween l hA (va_up σ 16 u) c1 1 40 ) (va_cwS 3 hts gX7_predict_X7_isBetween rfl rfl rfl hd_X7_isBetweenS ⟨Nat.le_of_ble_eq_true rfl, Nat.le_of_ble_eq_true rfl⟩) ⟨hp_blind, hp_pre hK hN hP⟩ rfl rfl hl.1 rfl (lv_room (Nat.le_of_ble_eq_true rfl)) dX7_predict_28 ⟨Nat.zero_le _, Nat.zero_le _⟩) hS (fun _ _ h => h) (fun _ h => h) (fun r28 _ t H locs ht hvm hw9 hB hz1 hk1 hS => ?_)
      have hP := ho_at ht hB
      obtain ⟨eq28, hb_r28⟩ := hw9
      have hF := bnd_s eq28 hF
      refine lv_if_eq (tgt := 45) hx hb dX7_predict_31 (by decide) (fun c31 => ?_) (fun c31 => ?_)
      · have hF := ift c31 hF
        refine lv_aload_n hx hb dX7_predict_45 rfl (lv_at hl 0 rfl) ?_
        refine lv_iconst (v := 2) hx hb dX7_predict_46 (by decide) ?_
        refine va_calli (va_runV (As := [.int 2]) (rest := []) ⟨hx, hb, hml, hown, hts⟩ (c7_fails l hA σ u 2 hO) (cwV 1 hts gX7_predict_X7_fails rfl rfl rfl hd_X7_failsV ⟨Nat.le_of_ble_eq_true rfl, Nat.le_of_ble_eq_true rfl⟩) ⟨hp_blind, va_recv hK hP (ci := 9) (q0 := 279) rfl c_279, hp_pre hK hN hP⟩ rfl rfl hl.1 rfl (lv_room (Nat.le_of_ble_eq_true rfl)) dX7_predict_47 ⟨Nat.zero_le _, Nat.zero_le _⟩) hS (fun _ _ h => h) (fun _ h => h) (fun r47 u9 t H locs ht hvm hw9 hB hz1 hk1 hS => ?_)
        have hP := ho_at ht hB
        obtain ⟨eq47, ok9⟩ := hw9
        obtain ⟨u47, e_u47⟩ : ∃ z, z = u9 := ⟨_, rfl⟩
        rw [← e_u47] at hP eq47 ok9
        have hO := ok9
        have hF := bnd2_s eq47 hF
        exact W.iret (v := r47) hx hb hr (fun t ht hW => ⟨⟨r47, u47, rfl, ⟨hF.trans hFF, hO⟩, ho_of ht hP⟩, hS.F ht⟩) hS.2.2 dX7_predict_50
      · have hF := iff_ c31 hF
        refine lv_iload hx hb dX7_predict_34 (lv_at hl 4 rfl) ?_
        refine lv_iconst (v := 0) hx hb dX7_predict_36 (by decide) ?_
        refine lv_bipush (v := 6) hx hb dX7_predict_37 (by decide) ?_
        refine va_calli (va_runS (As := [.int d, .int 0, .int 6]) (rest := []) ⟨hx, hb, hml, hown, hts⟩ (c7_isBetween l hA (va_up σ 16 u) d 0 6 ) (va_cwS 3 hts gX7_predict_X7_isBetween rfl rfl rfl hd_X7_isBetweenS ⟨Nat.le_of_ble_eq_true rfl, Nat.le_of_ble_eq_true rfl⟩) ⟨hp_blind, hp_pre hK hN hP⟩ rfl rfl hl.1 rfl (lv_room (Nat.le_of_ble_eq_true rfl)) dX7_predict_39 ⟨Nat.zero_le _, Nat.zero_le _⟩) hS (fun _ _ h => h) (fun _ h => h) (fun r39 _ t H locs ht hvm hw9 hB hz1 hk1 hS => ?_)
        have hP := ho_at ht hB
        obtain ⟨eq39, hb_r39⟩ := hw9
        have hF := bnd_s eq39 hF
        refine lv_if_ne (tgt := 51) hx hb dX7_predict_42 (by decide) (fun c42 => ?_) (fun c42 => ?_)
        · have hF := iff_ c42 hF
          have hwd : vp_in d 24 := btw_in eq39 c42 (by decide)
          refine lv_aload_n hx hb dX7_predict_51 rfl (lv_at hl 0 rfl) ?_
          refine lv_iconst (v := 0) hx hb dX7_predict_52 (by decide) ?_
          refine pput16 hx hb hts inX7 tyX7 tyX7_ok nmX7 hown hK hP hA hS (j := 279) (by decide) (by decide) rfl rfl 0 (by decide) (hts (.fieldLink RX7 45 "TileRunnersModel" "thrown" "I") (List.mem_of_getElem? (i := 1) rfl)) (fun _ h9 => h9) rfl (tyX7_ok 0 (by decide)) rfl rfl (Nat.le_of_ble_eq_true rfl) (490) (by decide) (setM_0) dX7_predict_53 (fun u9 H locs eu9 hP hS => ?_)
          obtain ⟨u53, e_u53⟩ : ∃ z, z = u9 := ⟨_, rfl⟩
          rw [← e_u53] at hP eu9
          have hF := bnd_s eu9 hF
          have hO := okM_up eu9 hO (by omega) (by omega) (by omega)
          refine lv_aload_n hx hb dX7_predict_56 rfl (lv_at hl 0 rfl) ?_
          refine va_get (D := D) (ci := 9) (C := RX7) (T := TX7) (N := 17) hx hb hts inX7 hown hK hP (279) c_279 rfl 1 (by decide) (hts (.fieldLink RX7 7 "TileRunnersModel" "world" "[I") (List.mem_of_getElem? (i := 2) rfl)) (fun _ h9 => h9) rfl dX7_predict_57 ?_
          refine lv_iconst (v := 0) hx hb dX7_predict_60 (by decide) ?_
          refine lv_aload_n hx hb dX7_predict_61 rfl (lv_at hl 0 rfl) ?_
          refine va_get (D := D) (ci := 9) (C := RX7) (T := TX7) (N := 17) hx hb hts inX7 hown hK hP (279) c_279 rfl 5 (by decide) (hts (.fieldLink RX7 22 "TileRunnersModel" "spare" "[I") (List.mem_of_getElem? (i := 3) rfl)) (fun _ h9 => h9) rfl dX7_predict_62 ?_
          refine lv_iconst (v := 0) hx hb dX7_predict_65 (by decide) ?_
          refine va_callv (va_runS (As := [.ref (ad (280)), .int 0, .ref (ad (284)), .int 0]) (rest := []) ⟨hx, hb, hml, hown, hts⟩ (c7_copies l hA σ u53 280 480 0 (by decide) (fun _ _ => rfl) (fun k9 hk9 => by unfold own16; repeat first | rw [if_pos (by omega)] | rw [if_neg (by omega)]) 0 284 480 600 (by decide) (fun _ _ => rfl) (fun k9 hk9 => by unfold own16; repeat first | rw [if_pos (by omega)] | rw [if_neg (by omega)]) 0 c480 c480) (va_cwS 4 hts gX7_predict_X7_copies rfl rfl rfl hd_X7_copiesS ⟨Nat.le_of_ble_eq_true rfl, Nat.le_of_ble_eq_true rfl⟩) ⟨hp_blind, hp_pre hK hN hP⟩ rfl rfl hl.1 rfl (lv_room (Nat.le_of_ble_eq_true rfl)) dX7_predict_66 ⟨Nat.zero_le _, Nat.zero_le _⟩) hS (fun _ _ h => h) (fun _ h => h) (fun u9 t H locs ht hvm hw9 hB hz1 hk1 hS => ?_)
          have hP := ho_at ht hB
          have eq66 := hw9
          obtain ⟨u66, e_u66⟩ : ∃ z, z = u9 := ⟨_, rfl⟩
          rw [← e_u66] at hP eq66
          have hO := ok_ws eq66 hO
          have hF := bnd_s eq66 hF
          refine lv_aload_n hx hb dX7_predict_69 rfl (lv_at hl 0 rfl) ?_
          refine lv_iload_n hx hb dX7_predict_70 rfl (lv_at hl 1 rfl) ?_
          refine lv_bipush (v := 9) hx hb dX7_predict_71 (by decide) ?_
          refine lv_iload_n hx hb dX7_predict_73 rfl (lv_at hl 2 rfl) ?_
          refine va_callv (va_runV (As := [.int a, .int 9, .int b]) (rest := []) ⟨hx, hb, hml, hown, hts⟩ (c7_sets l hA σ u66 a 9 b hO (vp_in_iff.mpr (by decide)) hba) (cwV 3 hts gX7_predict_X7_sets rfl rfl rfl hd_X7_setsV ⟨Nat.le_of_ble_eq_true rfl, Nat.le_of_ble_eq_true rfl⟩) ⟨hp_blind, va_recv hK hP (ci := 9) (q0 := 279) rfl c_279, hp_pre hK hN hP⟩ rfl rfl hl.1 rfl (lv_room (Nat.le_of_ble_eq_true rfl)) dX7_predict_74 ⟨Nat.zero_le _, Nat.zero_le _⟩) hS (fun _ _ h => h) (fun _ h => h) (fun u9 t H locs ht hvm hw9 hB hz1 hk1 hS => ?_)
          have hP := ho_at ht hB
          obtain ⟨eq74, ok9⟩ := hw9
          obtain ⟨u74, e_u74⟩ : ∃ z, z = u9 := ⟨_, rfl⟩
          rw [← e_u74] at hP eq74 ok9
          have hO := ok9
          have hF := bnd_s eq74 hF
          refine lv_iconst (v := 0) hx hb dX7_predict_77 (by decide) ?_
          refine lv_istore (lv' := [(5, .int 0), (0, .ref (ad (279))), (1, .int a), (2, .int b), (3, .int c1), (4, .int d)]) hx hb dX7_predict_78 hl (by decide) rfl (fun ls hl => ?_)
          have L80 : ∀ (n80 : Nat) (w5_80 : Int32) (u_80 : (Nat → Int32)) (H : Heap) (locs : List Loc) (ls : Array Slot), (c1.toInt - w5_80.toInt).toNat < n80 → okM u_80 → va_P D vwCl (pool G ad (va_up σ 16 u_80)) H → va_S (AA B0) s.heap H locs → lv_has ls 6 [(5, .int w5_80), (0, .ref (ad (279))), (1, .int a), (3, .int c1), (4, .int d)] → f7_predict_L80 a c1 d n80 w5_80 u_80 = FF → W p l e (headSpec wsX7_predict { frames := 13, cells := 0, slots := 0, locals := 300 }).room s m ([.ref (ad (279)), .int a, .int b, .int c1, .int d] : List Value).toArray below meth c H locs 0 0 (MQ below (va_Qi (fun (r : Int32) (z : Nat → Int32) => (r, z) = f7_predict u a b c1 d ∧ okM z) (fun (z : Nat → Int32) => Ho D G ad (va_up σ 16 z)) (AA B0)) ([.ref (ad (279)), .int a, .int b, .int c1, .int d] : List Value).toArray s 0 0 (AA B0)) (F0 m 80 ls []) := by
            intro n80
            induction n80 with
            | zero => intro w5_80 u_80 H locs ls hm; exact absurd hm (Nat.not_lt_zero _)
            | succ n80 ih80 =>
              intro w5_80 u_80 H locs ls hm80 hO hP hS hl hF
              rw [f7_predict_L80] at hF
              refine lv_iload hx hb dX7_predict_80 (lv_at hl 0 rfl) ?_
              refine lv_iload_n hx hb dX7_predict_82 rfl (lv_at hl 3 rfl) ?_
              refine lv_icmp_ge (tgt := 96) hx hb dX7_predict_83 (by decide) (fun c83 => ?_) (fun c83 => ?_)
              · have hF := ift c83 hF
                refine lv_aload_n hx hb dX7_predict_96 rfl (lv_at hl 1 rfl) ?_
                refine lv_iload_n hx hb dX7_predict_97 rfl (lv_at hl 2 rfl) ?_
                refine lv_iload hx hb dX7_predict_98 (lv_at hl 4 rfl) ?_
                refine va_calli (va_runV (As := [.int a, .int d]) (rest := []) ⟨hx, hb, hml, hown, hts⟩ (c7_of l hA σ u_80 a d hwd hba) (cwV 2 hts gX7_predict_X7_of rfl rfl rfl hd_X7_ofV ⟨Nat.le_of_ble_eq_true rfl, Nat.le_of_ble_eq_true rfl⟩) ⟨hp_blind, va_recv hK hP (ci := 9) (q0 := 279) rfl c_279, hp_pre hK hN hP⟩ rfl rfl hl.1 rfl (lv_room (Nat.le_of_ble_eq_true rfl)) dX7_predict_100 ⟨Nat.zero_le _, Nat.zero_le _⟩) hS (fun _ _ h => h) (fun _ h => h) (fun r100 _ t H locs ht hvm hw9 hB hz1 hk1 hS => ?_)
                have hP := ho_at ht hB
                have eq100 := hw9
                have hF := bnd_s eq100 hF
                refine lv_istore (lv' := [(5, .int r100), (0, .ref (ad (279))), (1, .int a), (3, .int c1), (4, .int d)]) hx hb dX7_predict_103 hl (by decide) rfl (fun ls hl => ?_)
                refine lv_aload_n hx hb dX7_predict_105 rfl (lv_at hl 1 rfl) ?_
                refine va_get (D := D) (ci := 9) (C := RX7) (T := TX7) (N := 17) hx hb hts inX7 hown hK hP (279) c_279 rfl 5 (by decide) (hts (.fieldLink RX7 22 "TileRunnersModel" "spare" "[I") (List.mem_of_getElem? (i := 3) rfl)) (fun _ h9 => h9) rfl dX7_predict_106 ?_
                refine lv_iconst (v := 0) hx hb dX7_predict_109 (by decide) ?_
                refine lv_aload_n hx hb dX7_predict_110 rfl (lv_at hl 1 rfl) ?_
                refine va_get (D := D) (ci := 9) (C := RX7) (T := TX7) (N := 17) hx hb hts inX7 hown hK hP (279) c_279 rfl 1 (by decide) (hts (.fieldLink RX7 7 "TileRunnersModel" "world" "[I") (List.mem_of_getElem? (i := 2) rfl)) (fun _ h9 => h9) rfl dX7_predict_111 ?_
                refine lv_iconst (v := 0) hx hb dX7_predict_114 (by decide) ?_
                refine va_callv (va_runS (As := [.ref (ad (284)), .int 0, .ref (ad (280)), .int 0]) (rest := []) ⟨hx, hb, hml, hown, hts⟩ (c7_copies l hA σ u_80 284 480 600 (by decide) (fun _ _ => rfl) (fun k9 hk9 => by unfold own16; repeat first | rw [if_pos (by omega)] | rw [if_neg (by omega)]) 0 280 480 0 (by decide) (fun _ _ => rfl) (fun k9 hk9 => by unfold own16; repeat first | rw [if_pos (by omega)] | rw [if_neg (by omega)]) 0 c480 c480) (va_cwS 4 hts gX7_predict_X7_copies rfl rfl rfl hd_X7_copiesS ⟨Nat.le_of_ble_eq_true rfl, Nat.le_of_ble_eq_true rfl⟩) ⟨hp_blind, hp_pre hK hN hP⟩ rfl rfl hl.1 rfl (lv_room (Nat.le_of_ble_eq_true rfl)) dX7_predict_115 ⟨Nat.zero_le _, Nat.zero_le _⟩) hS (fun _ _ h => h) (fun _ h => h) (fun u9 t H locs ht hvm hw9 hB hz1 hk1 hS => ?_)
                have hP := ho_at ht hB
                have eq115 := hw9
                obtain ⟨u115, e_u115⟩ : ∃ z, z = u9 := ⟨_, rfl⟩
                rw [← e_u115] at hP eq115
                have hO := ok_sw eq115 hO
                have hF := bnd_s eq115 hF
                refine lv_iload hx hb dX7_predict_118 (lv_at hl 0 rfl) ?_
                exact W.iret (v := r100) hx hb hr (fun t ht hW => ⟨⟨r100, u115, rfl, ⟨hF.trans hFF, hO⟩, ho_of ht hP⟩, hS.F ht⟩) hS.2.2 dX7_predict_120
              · have hF := iff_ c83 hF
                refine lv_aload_n hx hb dX7_predict_86 rfl (lv_at hl 1 rfl) ?_
                refine va_callv (va_runV (As := []) (rest := []) ⟨hx, hb, hml, hown, hts⟩ (c7_goesTick l hA σ u_80  hO) (cwV 0 hts gX7_predict_X7_goesTick rfl rfl rfl hd_X7_goesTickV ⟨Nat.le_of_ble_eq_true rfl, Nat.le_of_ble_eq_true rfl⟩) ⟨hp_blind, va_recv hK hP (ci := 9) (q0 := 279) rfl c_279, hp_pre hK hN hP⟩ rfl rfl hl.1 rfl (lv_room (Nat.le_of_ble_eq_true rfl)) dX7_predict_87 ⟨Nat.zero_le _, Nat.zero_le _⟩) hS (fun _ _ h => h) (fun _ h => h) (fun u9 t H locs ht hvm hw9 hB hz1 hk1 hS => ?_)
                have hP := ho_at ht hB
                obtain ⟨eq87, ok9⟩ := hw9
                obtain ⟨u87, e_u87⟩ : ∃ z, z = u9 := ⟨_, rfl⟩
                rw [← e_u87] at hP eq87 ok9
                have hO := ok9
                have hF := bnd_s eq87 hF
                obtain ⟨v5_90, e_v5_90⟩ : ∃ z : Int32, z = w5_80 + 1 := ⟨_, rfl⟩
                have hF := bnd_s e_v5_90 hF
                refine lv_iinc (v := v5_90) (lv' := [(5, .int v5_90), (0, .ref (ad (279))), (1, .int a), (3, .int c1), (4, .int d)]) hx hb dX7_predict_90 hl (k := 0) rfl (by rw [e_v5_90]; rfl) (by decide) rfl (fun ls hl => ?_)
                refine lv_goto (tgt := 80) hx hb dX7_predict_93 (by decide) ?_
                exact ih80 v5_90 u87 _ _ ls (ms_s (dec_up (nle_lt c83) e_v5_90) hm80) hO hP hS (lv_sub hl [0, 1, 2, 3, 4] rfl) hF
          exact L80 BIG 0 u74 _ _ ls (big_up _ _) hO hP hS (lv_sub hl [0, 1, 2, 4, 5] rfl) hF
        · have hF := ift c42 hF
          refine lv_aload_n hx hb dX7_predict_45 rfl (lv_at hl 0 rfl) ?_
          refine lv_iconst (v := 2) hx hb dX7_predict_46 (by decide) ?_
          refine va_calli (va_runV (As := [.int 2]) (rest := []) ⟨hx, hb, hml, hown, hts⟩ (c7_fails l hA σ u 2 hO) (cwV 1 hts gX7_predict_X7_fails rfl rfl rfl hd_X7_failsV ⟨Nat.le_of_ble_eq_true rfl, Nat.le_of_ble_eq_true rfl⟩) ⟨hp_blind, va_recv hK hP (ci := 9) (q0 := 279) rfl c_279, hp_pre hK hN hP⟩ rfl rfl hl.1 rfl (lv_room (Nat.le_of_ble_eq_true rfl)) dX7_predict_47 ⟨Nat.zero_le _, Nat.zero_le _⟩) hS (fun _ _ h => h) (fun _ h => h) (fun r47 u9 t H locs ht hvm hw9 hB hz1 hk1 hS => ?_)
          have hP := ho_at ht hB
          obtain ⟨eq47, ok9⟩ := hw9
          obtain ⟨u47, e_u47⟩ : ∃ z, z = u9 := ⟨_, rfl⟩
          rw [← e_u47] at hP eq47 ok9
          have hO := ok9
          have hF := bnd2_s eq47 hF
          exact W.iret (v := r47) hx hb hr (fun t ht hW => ⟨⟨r47, u47, rfl, ⟨hF.trans hFF, hO⟩, ho_of ht hP⟩, hS.F ht⟩) hS.2.2 dX7_predict_50
  · have hF := ift c5 hF
    refine lv_aload_n hx hb dX7_predict_8 rfl (lv_at hl 0 rfl) ?_
    refine lv_iconst (v := 1) hx hb dX7_predict_9 (by decide) ?_
    refine va_calli (va_runV (As := [.int 1]) (rest := []) ⟨hx, hb, hml, hown, hts⟩ (c7_fails l hA σ u 1 hO) (cwV 1 hts gX7_predict_X7_fails rfl rfl rfl hd_X7_failsV ⟨Nat.le_of_ble_eq_true rfl, Nat.le_of_ble_eq_true rfl⟩) ⟨hp_blind, va_recv hK hP (ci := 9) (q0 := 279) rfl c_279, hp_pre hK hN hP⟩ rfl rfl hl.1 rfl (lv_room (Nat.le_of_ble_eq_true rfl)) dX7_predict_10 ⟨Nat.zero_le _, Nat.zero_le _⟩) hS (fun _ _ h => h) (fun _ h => h) (fun r10 u9 t H locs ht hvm hw9 hB hz1 hk1 hS => ?_)
    have hP := ho_at ht hB
    obtain ⟨eq10, ok9⟩ := hw9
    obtain ⟨u10, e_u10⟩ : ∃ z, z = u9 := ⟨_, rfl⟩
    rw [← e_u10] at hP eq10 ok9
    have hO := ok9
    have hF := bnd2_s eq10 hF
    exact W.iret (v := r10) hx hb hr (fun t ht hW => ⟨⟨r10, u10, rfl, ⟨hF.trans hFF, hO⟩, ho_of ht hP⟩, hS.F ht⟩) hS.2.2 dX7_predict_13
theorem hd_X7_predictV : yX7_predict.cls = RX7 ∧ yX7_predict.cls ≠ "java/lang/invoke/MethodHandle" ∧ yX7_predict.cls ≠ "java/lang/invoke/VarHandle" ∧ (parseMethodDescriptor yX7_predict.desc).map (fun d => d.parameters.length) = some 4 := by decide +kernel
set_option maxHeartbeats 4000000 in
set_option maxRecDepth 100000 in
theorem c7_apex (l : Launch) {D : va_G} {G : CY} {ad : Nat → Nat} {B0 : Nat} (hA : adOK B0 ad) (σ : Nat → Nat → Int32) (u : Nat → Int32) (a : Int32) (b : Int32) (c1 : Int32) (hO : okM u) : Met l yX7_apex wsX7_apex { frames := 13, cells := 0, slots := 0, locals := 300 } (va_Pc [.ref (ad (279)), .int a, .int b, .int c1] (Hp D G ad (va_up σ 16 u))) (va_Qi (fun (r : Int32) (z : Nat → Int32) => (r, z) = f7_apex u a b c1 ∧ okM z) (fun (z : Nat → Int32) => Ho D G ad (va_up σ 16 z)) (AA B0)) 0 0 (AA B0) := by
  refine Met.ofW (cc := cX7_apex) (maxL := 6) (ret := (some .int)) (by decide) rfl ?_
  intro p e s m args below meth c s₁ B hml hv
  obtain ⟨rfl, hP, hK, hN⟩ := hv
  have hx := B.exec
  have hb := B.bytes
  have hr := B.returns
  have hts := atoms_spec (ws := wsX7_apex) B.pre
  have hown : s.vm.findClass RX7 = some m.cls := findClass_of_methodNamed B.named
  have hlocks := B.notSynchronized
  have inX7 : ∀ w ∈ wsX70, w ∈ wsX7_apex := (fun w h => List.mem_cons_of_mem _ (List.mem_append_left _ (List.mem_append_right _ h)))
  have hP : va_P D vwCl (pool G ad (va_up σ 16 u)) s.heap := hP
  have hS : va_S (AA B0) s.heap s.heap [] := va_S.rf
  have hl := lv_entry ([.ref (ad (279)), .int a, .int b, .int c1]) (n := 6) (Nat.le_of_ble_eq_true rfl)
  rw [lg_entry_eq]
  generalize (lg_sl ([.ref (ad (279)), .int a, .int b, .int c1]) ++ List.replicate (6 - (lg_sl ([.ref (ad (279)), .int a, .int b, .int c1])).length) Slot.unset).toArray = ls at hl ⊢
  have hl : lv_has ls 6 [(0, .ref (ad (279))), (1, .int a), (2, .int b), (3, .int c1)] := hl
  obtain ⟨FF, hFF⟩ : ∃ z, z = f7_apex u a b c1 := ⟨_, rfl⟩
  have hF := hFF.symm
  rw [f7_apex] at hF
  refine lv_aload_n hx hb dX7_apex_0 rfl (lv_at hl 0 rfl) ?_
  refine lv_iload_n hx hb dX7_apex_1 rfl (lv_at hl 1 rfl) ?_
  refine va_calli (va_runV (As := [.int a]) (rest := []) ⟨hx, hb, hml, hown, hts⟩ (c7_isBody l hA σ u a ) (cwV 1 hts gX7_apex_X7_isBody rfl rfl rfl hd_X7_isBodyV ⟨Nat.le_of_ble_eq_true rfl, Nat.le_of_ble_eq_true rfl⟩) ⟨hp_blind, va_recv hK hP (ci := 9) (q0 := 279) rfl c_279, hp_pre hK hN hP⟩ rfl rfl hl.1 rfl (lv_room (Nat.le_of_ble_eq_true rfl)) dX7_apex_2 ⟨Nat.zero_le _, Nat.zero_le _⟩) hS (fun _ _ h => h) (fun _ h => h) (fun r2 _ t H locs ht hvm hw9 hB hz1 hk1 hS => ?_)
  have hP := ho_at ht hB
  obtain ⟨eq2, hb_r2⟩ := hw9
  have hF := bnd_s eq2 hF
  refine lv_if_ne (tgt := 14) hx hb dX7_apex_5 (by decide) (fun c5 => ?_) (fun c5 => ?_)
  · have hF := iff_ c5 hF
    have hba := body_in hO.1 eq2 c5
    refine lv_iload_n hx hb dX7_apex_14 rfl (lv_at hl 2 rfl) ?_
    refine lv_iconst (v := 0) hx hb dX7_apex_15 (by decide) ?_
    refine lv_bipush (v := 15) hx hb dX7_apex_16 (by decide) ?_
    refine va_calli (va_runS (As := [.int b, .int 0, .int 15]) (rest := []) ⟨hx, hb, hml, hown, hts⟩ (c7_isBetween l hA (va_up σ 16 u) b 0 15 ) (va_cwS 3 hts gX7_apex_X7_isBetween rfl rfl rfl hd_X7_isBetweenS ⟨Nat.le_of_ble_eq_true rfl, Nat.le_of_ble_eq_true rfl⟩) ⟨hp_blind, hp_pre hK hN hP⟩ rfl rfl hl.1 rfl (lv_room (Nat.le_of_ble_eq_true rfl)) dX7_apex_18 ⟨Nat.zero_le _, Nat.zero_le _⟩) hS (fun _ _ h => h) (fun _ h => h) (fun r18 _ t H locs ht hvm hw9 hB hz1 hk1 hS => ?_)
    have hP := ho_at ht hB
    obtain ⟨eq18, hb_r18⟩ := hw9
    have hF := bnd_s eq18 hF
    refine lv_if_eq (tgt := 34) hx hb dX7_apex_21 (by decide) (fun c21 => ?_) (fun c21 => ?_)
    · have hF := ift c21 hF
      refine lv_aload_n hx hb dX7_apex_34 rfl (lv_at hl 0 rfl) ?_
      refine lv_iconst (v := 2) hx hb dX7_apex_35 (by decide) ?_
      refine va_calli (va_runV (As := [.int 2]) (rest := []) ⟨hx, hb, hml, hown, hts⟩ (c7_fails l hA σ u 2 hO) (cwV 1 hts gX7_apex_X7_fails rfl rfl rfl hd_X7_failsV ⟨Nat.le_of_ble_eq_true rfl, Nat.le_of_ble_eq_true rfl⟩) ⟨hp_blind, va_recv hK hP (ci := 9) (q0 := 279) rfl c_279, hp_pre hK hN hP⟩ rfl rfl hl.1 rfl (lv_room (Nat.le_of_ble_eq_true rfl)) dX7_apex_36 ⟨Nat.zero_le _, Nat.zero_le _⟩) hS (fun _ _ h => h) (fun _ h => h) (fun r36 u9 t H locs ht hvm hw9 hB hz1 hk1 hS => ?_)
      have hP := ho_at ht hB
      obtain ⟨eq36, ok9⟩ := hw9
      obtain ⟨u36, e_u36⟩ : ∃ z, z = u9 := ⟨_, rfl⟩
      rw [← e_u36] at hP eq36 ok9
      have hO := ok9
      have hF := bnd2_s eq36 hF
      exact W.iret (v := r36) hx hb hr (fun t ht hW => ⟨⟨r36, u36, rfl, ⟨hF.trans hFF, hO⟩, ho_of ht hP⟩, hS.F ht⟩) hS.2.2 dX7_apex_39
    · have hF := iff_ c21 hF
      refine lv_iload_n hx hb dX7_apex_24 rfl (lv_at hl 3 rfl) ?_
      refine lv_iconst (v := 1) hx hb dX7_apex_25 (by decide) ?_
      refine lv_bipush (v := 40) hx hb dX7_apex_26 (by decide) ?_
      refine va_calli (va_runS (As := [.int c1, .int 1, .int 40]) (rest := []) ⟨hx, hb, hml, hown, hts⟩ (c7_isBetween l hA (va_up σ 16 u) c1 1 40 ) (va_cwS 3 hts gX7_apex_X7_isBetween rfl rfl rfl hd_X7_isBetweenS ⟨Nat.le_of_ble_eq_true rfl, Nat.le_of_ble_eq_true rfl⟩) ⟨hp_blind, hp_pre hK hN hP⟩ rfl rfl hl.1 rfl (lv_room (Nat.le_of_ble_eq_true rfl)) dX7_apex_28 ⟨Nat.zero_le _, Nat.zero_le _⟩) hS (fun _ _ h => h) (fun _ h => h) (fun r28 _ t H locs ht hvm hw9 hB hz1 hk1 hS => ?_)
      have hP := ho_at ht hB
      obtain ⟨eq28, hb_r28⟩ := hw9
      have hF := bnd_s eq28 hF
      refine lv_if_ne (tgt := 40) hx hb dX7_apex_31 (by decide) (fun c31 => ?_) (fun c31 => ?_)
      · have hF := iff_ c31 hF
        refine lv_aload_n hx hb dX7_apex_40 rfl (lv_at hl 0 rfl) ?_
        refine lv_iconst (v := 0) hx hb dX7_apex_41 (by decide) ?_
        refine pput16 hx hb hts inX7 tyX7 tyX7_ok nmX7 hown hK hP hA hS (j := 279) (by decide) (by decide) rfl rfl 0 (by decide) (hts (.fieldLink RX7 45 "TileRunnersModel" "thrown" "I") (List.mem_of_getElem? (i := 1) rfl)) (fun _ h9 => h9) rfl (tyX7_ok 0 (by decide)) rfl rfl (Nat.le_of_ble_eq_true rfl) (490) (by decide) (setM_0) dX7_apex_42 (fun u9 H locs eu9 hP hS => ?_)
        obtain ⟨u42, e_u42⟩ : ∃ z, z = u9 := ⟨_, rfl⟩
        rw [← e_u42] at hP eu9
        have hF := bnd_s eu9 hF
        have hO := okM_up eu9 hO (by omega) (by omega) (by omega)
        refine lv_aload_n hx hb dX7_apex_45 rfl (lv_at hl 0 rfl) ?_
        refine va_get (D := D) (ci := 9) (C := RX7) (T := TX7) (N := 17) hx hb hts inX7 hown hK hP (279) c_279 rfl 1 (by decide) (hts (.fieldLink RX7 7 "TileRunnersModel" "world" "[I") (List.mem_of_getElem? (i := 2) rfl)) (fun _ h9 => h9) rfl dX7_apex_46 ?_
        refine lv_iconst (v := 0) hx hb dX7_apex_49 (by decide) ?_
        refine lv_aload_n hx hb dX7_apex_50 rfl (lv_at hl 0 rfl) ?_
        refine va_get (D := D) (ci := 9) (C := RX7) (T := TX7) (N := 17) hx hb hts inX7 hown hK hP (279) c_279 rfl 5 (by decide) (hts (.fieldLink RX7 22 "TileRunnersModel" "spare" "[I") (List.mem_of_getElem? (i := 3) rfl)) (fun _ h9 => h9) rfl dX7_apex_51 ?_
        refine lv_iconst (v := 0) hx hb dX7_apex_54 (by decide) ?_
        refine va_callv (va_runS (As := [.ref (ad (280)), .int 0, .ref (ad (284)), .int 0]) (rest := []) ⟨hx, hb, hml, hown, hts⟩ (c7_copies l hA σ u42 280 480 0 (by decide) (fun _ _ => rfl) (fun k9 hk9 => by unfold own16; repeat first | rw [if_pos (by omega)] | rw [if_neg (by omega)]) 0 284 480 600 (by decide) (fun _ _ => rfl) (fun k9 hk9 => by unfold own16; repeat first | rw [if_pos (by omega)] | rw [if_neg (by omega)]) 0 c480 c480) (va_cwS 4 hts gX7_apex_X7_copies rfl rfl rfl hd_X7_copiesS ⟨Nat.le_of_ble_eq_true rfl, Nat.le_of_ble_eq_true rfl⟩) ⟨hp_blind, hp_pre hK hN hP⟩ rfl rfl hl.1 rfl (lv_room (Nat.le_of_ble_eq_true rfl)) dX7_apex_55 ⟨Nat.zero_le _, Nat.zero_le _⟩) hS (fun _ _ h => h) (fun _ h => h) (fun u9 t H locs ht hvm hw9 hB hz1 hk1 hS => ?_)
        have hP := ho_at ht hB
        have eq55 := hw9
        obtain ⟨u55, e_u55⟩ : ∃ z, z = u9 := ⟨_, rfl⟩
        rw [← e_u55] at hP eq55
        have hO := ok_ws eq55 hO
        have hF := bnd_s eq55 hF
        refine lv_aload_n hx hb dX7_apex_58 rfl (lv_at hl 0 rfl) ?_
        refine lv_iload_n hx hb dX7_apex_59 rfl (lv_at hl 1 rfl) ?_
        refine lv_iconst (v := 1) hx hb dX7_apex_60 (by decide) ?_
        refine va_calli (va_runV (As := [.int a, .int 1]) (rest := []) ⟨hx, hb, hml, hown, hts⟩ (c7_of l hA σ u55 a 1 (vp_in_iff.mpr (by decide)) hba) (cwV 2 hts gX7_apex_X7_of rfl rfl rfl hd_X7_ofV ⟨Nat.le_of_ble_eq_true rfl, Nat.le_of_ble_eq_true rfl⟩) ⟨hp_blind, va_recv hK hP (ci := 9) (q0 := 279) rfl c_279, hp_pre hK hN hP⟩ rfl rfl hl.1 rfl (lv_room (Nat.le_of_ble_eq_true rfl)) dX7_apex_61 ⟨Nat.zero_le _, Nat.zero_le _⟩) hS (fun _ _ h => h) (fun _ h => h) (fun r61 _ t H locs ht hvm hw9 hB hz1 hk1 hS => ?_)
        have hP := ho_at ht hB
        have eq61 := hw9
        have hF := bnd_s eq61 hF
        refine lv_istore (lv' := [(4, .int r61), (0, .ref (ad (279))), (1, .int a), (2, .int b), (3, .int c1)]) hx hb dX7_apex_64 hl (by decide) rfl (fun ls hl => ?_)
        refine lv_aload_n hx hb dX7_apex_66 rfl (lv_at hl 1 rfl) ?_
        refine lv_iload_n hx hb dX7_apex_67 rfl (lv_at hl 2 rfl) ?_
        refine lv_bipush (v := 9) hx hb dX7_apex_68 (by decide) ?_
        refine lv_iload_n hx hb dX7_apex_70 rfl (lv_at hl 3 rfl) ?_
        refine va_callv (va_runV (As := [.int a, .int 9, .int b]) (rest := []) ⟨hx, hb, hml, hown, hts⟩ (c7_sets l hA σ u55 a 9 b hO (vp_in_iff.mpr (by decide)) hba) (cwV 3 hts gX7_apex_X7_sets rfl rfl rfl hd_X7_setsV ⟨Nat.le_of_ble_eq_true rfl, Nat.le_of_ble_eq_true rfl⟩) ⟨hp_blind, va_recv hK hP (ci := 9) (q0 := 279) rfl c_279, hp_pre hK hN hP⟩ rfl rfl hl.1 rfl (lv_room (Nat.le_of_ble_eq_true rfl)) dX7_apex_71 ⟨Nat.zero_le _, Nat.zero_le _⟩) hS (fun _ _ h => h) (fun _ h => h) (fun u9 t H locs ht hvm hw9 hB hz1 hk1 hS => ?_)
        have hP := ho_at ht hB
        obtain ⟨eq71, ok9⟩ := hw9
        obtain ⟨u71, e_u71⟩ : ∃ z, z = u9 := ⟨_, rfl⟩
        rw [← e_u71] at hP eq71 ok9
        have hO := ok9
        have hF := bnd_s eq71 hF
        refine lv_iconst (v := 0) hx hb dX7_apex_74 (by decide) ?_
        refine lv_istore (lv' := [(5, .int 0), (4, .int r61), (0, .ref (ad (279))), (1, .int a), (2, .int b), (3, .int c1)]) hx hb dX7_apex_75 hl (by decide) rfl (fun ls hl => ?_)
        have L77 : ∀ (n77 : Nat) (w5_77 : Int32) (w4_77 : Int32) (u_77 : (Nat → Int32)) (H : Heap) (locs : List Loc) (ls : Array Slot), (c1.toInt - w5_77.toInt).toNat < n77 → okM u_77 → va_P D vwCl (pool G ad (va_up σ 16 u_77)) H → va_S (AA B0) s.heap H locs → lv_has ls 6 [(5, .int w5_77), (4, .int w4_77), (0, .ref (ad (279))), (1, .int a), (3, .int c1)] → f7_apex_L77 a c1 n77 w5_77 w4_77 u_77 = FF → W p l e (headSpec wsX7_apex { frames := 13, cells := 0, slots := 0, locals := 300 }).room s m ([.ref (ad (279)), .int a, .int b, .int c1] : List Value).toArray below meth c H locs 0 0 (MQ below (va_Qi (fun (r : Int32) (z : Nat → Int32) => (r, z) = f7_apex u a b c1 ∧ okM z) (fun (z : Nat → Int32) => Ho D G ad (va_up σ 16 z)) (AA B0)) ([.ref (ad (279)), .int a, .int b, .int c1] : List Value).toArray s 0 0 (AA B0)) (F0 m 77 ls []) := by
          intro n77
          induction n77 with
          | zero => intro w5_77 w4_77 u_77 H locs ls hm; exact absurd hm (Nat.not_lt_zero _)
          | succ n77 ih77 =>
            intro w5_77 w4_77 u_77 H locs ls hm77 hO hP hS hl hF
            rw [f7_apex_L77] at hF
            refine lv_iload hx hb dX7_apex_77 (lv_at hl 0 rfl) ?_
            refine lv_iload_n hx hb dX7_apex_79 rfl (lv_at hl 4 rfl) ?_
            refine lv_icmp_ge (tgt := 117) hx hb dX7_apex_80 (by decide) (fun c80 => ?_) (fun c80 => ?_)
            · have hF := ift c80 hF
              refine lv_aload_n hx hb dX7_apex_117 rfl (lv_at hl 2 rfl) ?_
              refine va_get (D := D) (ci := 9) (C := RX7) (T := TX7) (N := 17) hx hb hts inX7 hown hK hP (279) c_279 rfl 5 (by decide) (hts (.fieldLink RX7 22 "TileRunnersModel" "spare" "[I") (List.mem_of_getElem? (i := 3) rfl)) (fun _ h9 => h9) rfl dX7_apex_118 ?_
              refine lv_iconst (v := 0) hx hb dX7_apex_121 (by decide) ?_
              refine lv_aload_n hx hb dX7_apex_122 rfl (lv_at hl 2 rfl) ?_
              refine va_get (D := D) (ci := 9) (C := RX7) (T := TX7) (N := 17) hx hb hts inX7 hown hK hP (279) c_279 rfl 1 (by decide) (hts (.fieldLink RX7 7 "TileRunnersModel" "world" "[I") (List.mem_of_getElem? (i := 2) rfl)) (fun _ h9 => h9) rfl dX7_apex_123 ?_
              refine lv_iconst (v := 0) hx hb dX7_apex_126 (by decide) ?_
              refine va_callv (va_runS (As := [.ref (ad (284)), .int 0, .ref (ad (280)), .int 0]) (rest := []) ⟨hx, hb, hml, hown, hts⟩ (c7_copies l hA σ u_77 284 480 600 (by decide) (fun _ _ => rfl) (fun k9 hk9 => by unfold own16; repeat first | rw [if_pos (by omega)] | rw [if_neg (by omega)]) 0 280 480 0 (by decide) (fun _ _ => rfl) (fun k9 hk9 => by unfold own16; repeat first | rw [if_pos (by omega)] | rw [if_neg (by omega)]) 0 c480 c480) (va_cwS 4 hts gX7_apex_X7_copies rfl rfl rfl hd_X7_copiesS ⟨Nat.le_of_ble_eq_true rfl, Nat.le_of_ble_eq_true rfl⟩) ⟨hp_blind, hp_pre hK hN hP⟩ rfl rfl hl.1 rfl (lv_room (Nat.le_of_ble_eq_true rfl)) dX7_apex_127 ⟨Nat.zero_le _, Nat.zero_le _⟩) hS (fun _ _ h => h) (fun _ h => h) (fun u9 t H locs ht hvm hw9 hB hz1 hk1 hS => ?_)
              have hP := ho_at ht hB
              have eq127 := hw9
              obtain ⟨u127, e_u127⟩ : ∃ z, z = u9 := ⟨_, rfl⟩
              rw [← e_u127] at hP eq127
              have hO := ok_sw eq127 hO
              have hF := bnd_s eq127 hF
              refine lv_iload hx hb dX7_apex_130 (lv_at hl 1 rfl) ?_
              exact W.iret (v := w4_77) hx hb hr (fun t ht hW => ⟨⟨w4_77, u127, rfl, ⟨hF.trans hFF, hO⟩, ho_of ht hP⟩, hS.F ht⟩) hS.2.2 dX7_apex_132
            · have hF := iff_ c80 hF
              refine lv_aload_n hx hb dX7_apex_83 rfl (lv_at hl 2 rfl) ?_
              refine va_callv (va_runV (As := []) (rest := []) ⟨hx, hb, hml, hown, hts⟩ (c7_goesTick l hA σ u_77  hO) (cwV 0 hts gX7_apex_X7_goesTick rfl rfl rfl hd_X7_goesTickV ⟨Nat.le_of_ble_eq_true rfl, Nat.le_of_ble_eq_true rfl⟩) ⟨hp_blind, va_recv hK hP (ci := 9) (q0 := 279) rfl c_279, hp_pre hK hN hP⟩ rfl rfl hl.1 rfl (lv_room (Nat.le_of_ble_eq_true rfl)) dX7_apex_84 ⟨Nat.zero_le _, Nat.zero_le _⟩) hS (fun _ _ h => h) (fun _ h => h) (fun u9 t H locs ht hvm hw9 hB hz1 hk1 hS => ?_)
              have hP := ho_at ht hB
              obtain ⟨eq84, ok9⟩ := hw9
              obtain ⟨u84, e_u84⟩ : ∃ z, z = u9 := ⟨_, rfl⟩
              rw [← e_u84] at hP eq84 ok9
              have hO := ok9
              have hF := bnd_s eq84 hF
              refine lv_aload_n hx hb dX7_apex_87 rfl (lv_at hl 2 rfl) ?_
              refine lv_iload_n hx hb dX7_apex_88 rfl (lv_at hl 3 rfl) ?_
              refine lv_iconst (v := 1) hx hb dX7_apex_89 (by decide) ?_
              refine va_calli (va_runV (As := [.int a, .int 1]) (rest := []) ⟨hx, hb, hml, hown, hts⟩ (c7_of l hA σ u84 a 1 (vp_in_iff.mpr (by decide)) hba) (cwV 2 hts gX7_apex_X7_of rfl rfl rfl hd_X7_ofV ⟨Nat.le_of_ble_eq_true rfl, Nat.le_of_ble_eq_true rfl⟩) ⟨hp_blind, va_recv hK hP (ci := 9) (q0 := 279) rfl c_279, hp_pre hK hN hP⟩ rfl rfl hl.1 rfl (lv_room (Nat.le_of_ble_eq_true rfl)) dX7_apex_90 ⟨Nat.zero_le _, Nat.zero_le _⟩) hS (fun _ _ h => h) (fun _ h => h) (fun r90 _ t H locs ht hvm hw9 hB hz1 hk1 hS => ?_)
              have hP := ho_at ht hB
              have eq90 := hw9
              have hF := bnd_s eq90 hF
              refine lv_iload hx hb dX7_apex_93 (lv_at hl 1 rfl) ?_
              have J109 : ∀ (t0_109 : Int32) (H : Heap) (locs : List Loc) (ls : Array Slot), va_P D vwCl (pool G ad (va_up σ 16 u84)) H → va_S (AA B0) s.heap H locs → lv_has ls 6 [(5, .int w5_77), (0, .ref (ad (279))), (1, .int a), (3, .int c1)] → f7_apex_b109 (f7_apex_L77 a c1 n77) w5_77 u84 t0_109 = FF → W p l e (headSpec wsX7_apex { frames := 13, cells := 0, slots := 0, locals := 300 }).room s m ([.ref (ad (279)), .int a, .int b, .int c1] : List Value).toArray below meth c H locs 0 0 (MQ below (va_Qi (fun (r : Int32) (z : Nat → Int32) => (r, z) = f7_apex u a b c1 ∧ okM z) (fun (z : Nat → Int32) => Ho D G ad (va_up σ 16 z)) (AA B0)) ([.ref (ad (279)), .int a, .int b, .int c1] : List Value).toArray s 0 0 (AA B0)) (F0 m 109 ls [.int t0_109]) := by
                intro t0_109 H locs ls hP hS hl hF
                rw [f7_apex_b109] at hF
                refine lv_istore (lv' := [(4, .int t0_109), (5, .int w5_77), (0, .ref (ad (279))), (1, .int a), (3, .int c1)]) hx hb dX7_apex_109 hl (by decide) rfl (fun ls hl => ?_)
                obtain ⟨v5_111, e_v5_111⟩ : ∃ z : Int32, z = w5_77 + 1 := ⟨_, rfl⟩
                have hF := bnd_s e_v5_111 hF
                refine lv_iinc (v := v5_111) (lv' := [(5, .int v5_111), (4, .int t0_109), (0, .ref (ad (279))), (1, .int a), (3, .int c1)]) hx hb dX7_apex_111 hl (k := 1) rfl (by rw [e_v5_111]; rfl) (by decide) rfl (fun ls hl => ?_)
                refine lv_goto (tgt := 77) hx hb dX7_apex_114 (by decide) ?_
                exact ih77 v5_111 t0_109 u84 _ _ ls (ms_s (dec_up (nle_lt c80) e_v5_111) hm77) hO hP hS (lv_sub hl [0, 1, 2, 3, 4] rfl) hF
              refine lv_icmp_le (tgt := 107) hx hb dX7_apex_95 (by decide) (fun c95 => ?_) (fun c95 => ?_)
              · have hF := ift c95 hF
                refine lv_iload hx hb dX7_apex_107 (lv_at hl 1 rfl) ?_
                exact J109 w4_77 _ _ ls hP hS (lv_sub hl [0, 2, 3, 4] rfl) hF
              · have hF := iff_ c95 hF
                refine lv_aload_n hx hb dX7_apex_98 rfl (lv_at hl 2 rfl) ?_
                refine lv_iload_n hx hb dX7_apex_99 rfl (lv_at hl 3 rfl) ?_
                refine lv_iconst (v := 1) hx hb dX7_apex_100 (by decide) ?_
                refine va_calli (va_runV (As := [.int a, .int 1]) (rest := []) ⟨hx, hb, hml, hown, hts⟩ (c7_of l hA σ u84 a 1 (vp_in_iff.mpr (by decide)) hba) (cwV 2 hts gX7_apex_X7_of rfl rfl rfl hd_X7_ofV ⟨Nat.le_of_ble_eq_true rfl, Nat.le_of_ble_eq_true rfl⟩) ⟨hp_blind, va_recv hK hP (ci := 9) (q0 := 279) rfl c_279, hp_pre hK hN hP⟩ rfl rfl hl.1 rfl (lv_room (Nat.le_of_ble_eq_true rfl)) dX7_apex_101 ⟨Nat.zero_le _, Nat.zero_le _⟩) hS (fun _ _ h => h) (fun _ h => h) (fun r101 _ t H locs ht hvm hw9 hB hz1 hk1 hS => ?_)
                have hP := ho_at ht hB
                have eq101 := hw9
                have hF := bnd_s eq101 hF
                refine lv_goto (tgt := 109) hx hb dX7_apex_104 (by decide) ?_
                exact J109 r101 _ _ ls hP hS (lv_sub hl [0, 2, 3, 4] rfl) hF
        exact L77 BIG 0 r61 u71 _ _ ls (big_up _ _) hO hP hS (lv_sub hl [0, 1, 2, 3, 5] rfl) hF
      · have hF := ift c31 hF
        refine lv_aload_n hx hb dX7_apex_34 rfl (lv_at hl 0 rfl) ?_
        refine lv_iconst (v := 2) hx hb dX7_apex_35 (by decide) ?_
        refine va_calli (va_runV (As := [.int 2]) (rest := []) ⟨hx, hb, hml, hown, hts⟩ (c7_fails l hA σ u 2 hO) (cwV 1 hts gX7_apex_X7_fails rfl rfl rfl hd_X7_failsV ⟨Nat.le_of_ble_eq_true rfl, Nat.le_of_ble_eq_true rfl⟩) ⟨hp_blind, va_recv hK hP (ci := 9) (q0 := 279) rfl c_279, hp_pre hK hN hP⟩ rfl rfl hl.1 rfl (lv_room (Nat.le_of_ble_eq_true rfl)) dX7_apex_36 ⟨Nat.zero_le _, Nat.zero_le _⟩) hS (fun _ _ h => h) (fun _ h => h) (fun r36 u9 t H locs ht hvm hw9 hB hz1 hk1 hS => ?_)
        have hP := ho_at ht hB
        obtain ⟨eq36, ok9⟩ := hw9
        obtain ⟨u36, e_u36⟩ : ∃ z, z = u9 := ⟨_, rfl⟩
        rw [← e_u36] at hP eq36 ok9
        have hO := ok9
        have hF := bnd2_s eq36 hF
        exact W.iret (v := r36) hx hb hr (fun t ht hW => ⟨⟨r36, u36, rfl, ⟨hF.trans hFF, hO⟩, ho_of ht hP⟩, hS.F ht⟩) hS.2.2 dX7_apex_39
  · have hF := ift c5 hF
    refine lv_aload_n hx hb dX7_apex_8 rfl (lv_at hl 0 rfl) ?_
    refine lv_iconst (v := 1) hx hb dX7_apex_9 (by decide) ?_
    refine va_calli (va_runV (As := [.int 1]) (rest := []) ⟨hx, hb, hml, hown, hts⟩ (c7_fails l hA σ u 1 hO) (cwV 1 hts gX7_apex_X7_fails rfl rfl rfl hd_X7_failsV ⟨Nat.le_of_ble_eq_true rfl, Nat.le_of_ble_eq_true rfl⟩) ⟨hp_blind, va_recv hK hP (ci := 9) (q0 := 279) rfl c_279, hp_pre hK hN hP⟩ rfl rfl hl.1 rfl (lv_room (Nat.le_of_ble_eq_true rfl)) dX7_apex_10 ⟨Nat.zero_le _, Nat.zero_le _⟩) hS (fun _ _ h => h) (fun _ h => h) (fun r10 u9 t H locs ht hvm hw9 hB hz1 hk1 hS => ?_)
    have hP := ho_at ht hB
    obtain ⟨eq10, ok9⟩ := hw9
    obtain ⟨u10, e_u10⟩ : ∃ z, z = u9 := ⟨_, rfl⟩
    rw [← e_u10] at hP eq10 ok9
    have hO := ok9
    have hF := bnd2_s eq10 hF
    exact W.iret (v := r10) hx hb hr (fun t ht hW => ⟨⟨r10, u10, rfl, ⟨hF.trans hFF, hO⟩, ho_of ht hP⟩, hS.F ht⟩) hS.2.2 dX7_apex_13
theorem hd_X7_apexV : yX7_apex.cls = RX7 ∧ yX7_apex.cls ≠ "java/lang/invoke/MethodHandle" ∧ yX7_apex.cls ≠ "java/lang/invoke/VarHandle" ∧ (parseMethodDescriptor yX7_apex.desc).map (fun d => d.parameters.length) = some 3 := by decide +kernel
set_option maxHeartbeats 4000000 in
set_option maxRecDepth 100000 in
theorem c7_statistic (l : Launch) {D : va_G} {G : CY} {ad : Nat → Nat} {B0 : Nat} (hA : adOK B0 ad) (σ : Nat → Nat → Int32) (u : Nat → Int32) (a : Int32) (b : Int32) (hO : okM u) : Met l yX7_statistic wsX7_statistic { frames := 1, cells := 0, slots := 0, locals := 22 } (va_Pc [.ref (ad (279)), .int a, .int b] (Hp D G ad (va_up σ 16 u))) (va_Qi (fun (r : Int32) (z : Nat → Int32) => (r, z) = f7_statistic u a b ∧ okM z) (fun (z : Nat → Int32) => Ho D G ad (va_up σ 16 z)) (AA B0)) 0 0 (AA B0) := by
  refine Met.ofW (cc := cX7_statistic) (maxL := 3) (ret := (some .int)) (by decide) rfl ?_
  intro p e s m args below meth c s₁ B hml hv
  obtain ⟨rfl, hP, hK, hN⟩ := hv
  have hx := B.exec
  have hb := B.bytes
  have hr := B.returns
  have hts := atoms_spec (ws := wsX7_statistic) B.pre
  have hown : s.vm.findClass RX7 = some m.cls := findClass_of_methodNamed B.named
  have hlocks := B.notSynchronized
  have inX7 : ∀ w ∈ wsX70, w ∈ wsX7_statistic := (fun w h => List.mem_cons_of_mem _ (List.mem_append_left _ (List.mem_append_right _ h)))
  have hP : va_P D vwCl (pool G ad (va_up σ 16 u)) s.heap := hP
  have hS : va_S (AA B0) s.heap s.heap [] := va_S.rf
  have hl := lv_entry ([.ref (ad (279)), .int a, .int b]) (n := 3) (Nat.le_of_ble_eq_true rfl)
  rw [lg_entry_eq]
  generalize (lg_sl ([.ref (ad (279)), .int a, .int b]) ++ List.replicate (3 - (lg_sl ([.ref (ad (279)), .int a, .int b])).length) Slot.unset).toArray = ls at hl ⊢
  have hl : lv_has ls 3 [(0, .ref (ad (279))), (1, .int a), (2, .int b)] := hl
  obtain ⟨FF, hFF⟩ : ∃ z, z = f7_statistic u a b := ⟨_, rfl⟩
  have hF := hFF.symm
  rw [f7_statistic] at hF
  refine lv_aload_n hx hb dX7_statistic_0 rfl (lv_at hl 0 rfl) ?_
  refine lv_iload_n hx hb dX7_statistic_1 rfl (lv_at hl 1 rfl) ?_
  refine va_calli (va_runV (As := [.int a]) (rest := []) ⟨hx, hb, hml, hown, hts⟩ (c7_isBody l hA σ u a ) (cwV 1 hts gX7_statistic_X7_isBody rfl rfl rfl hd_X7_isBodyV ⟨Nat.le_of_ble_eq_true rfl, Nat.le_of_ble_eq_true rfl⟩) ⟨hp_blind, va_recv hK hP (ci := 9) (q0 := 279) rfl c_279, hp_pre hK hN hP⟩ rfl rfl hl.1 rfl (lv_room (Nat.le_of_ble_eq_true rfl)) dX7_statistic_2 ⟨Nat.zero_le _, Nat.zero_le _⟩) hS (fun _ _ h => h) (fun _ h => h) (fun r2 _ t H locs ht hvm hw9 hB hz1 hk1 hS => ?_)
  have hP := ho_at ht hB
  obtain ⟨eq2, hb_r2⟩ := hw9
  have hF := bnd_s eq2 hF
  refine lv_if_ne (tgt := 14) hx hb dX7_statistic_5 (by decide) (fun c5 => ?_) (fun c5 => ?_)
  · have hF := iff_ c5 hF
    have hba := body_in hO.1 eq2 c5
    refine lv_iload_n hx hb dX7_statistic_14 rfl (lv_at hl 2 rfl) ?_
    refine lv_iconst (v := 0) hx hb dX7_statistic_15 (by decide) ?_
    refine lv_bipush (v := 6) hx hb dX7_statistic_16 (by decide) ?_
    refine va_calli (va_runS (As := [.int b, .int 0, .int 6]) (rest := []) ⟨hx, hb, hml, hown, hts⟩ (c7_isBetween l hA (va_up σ 16 u) b 0 6 ) (va_cwS 3 hts gX7_statistic_X7_isBetween rfl rfl rfl hd_X7_isBetweenS ⟨Nat.le_of_ble_eq_true rfl, Nat.le_of_ble_eq_true rfl⟩) ⟨hp_blind, hp_pre hK hN hP⟩ rfl rfl hl.1 rfl (lv_room (Nat.le_of_ble_eq_true rfl)) dX7_statistic_18 ⟨Nat.zero_le _, Nat.zero_le _⟩) hS (fun _ _ h => h) (fun _ h => h) (fun r18 _ t H locs ht hvm hw9 hB hz1 hk1 hS => ?_)
    have hP := ho_at ht hB
    obtain ⟨eq18, hb_r18⟩ := hw9
    have hF := bnd_s eq18 hF
    refine lv_if_ne (tgt := 30) hx hb dX7_statistic_21 (by decide) (fun c21 => ?_) (fun c21 => ?_)
    · have hF := iff_ c21 hF
      refine lv_aload_n hx hb dX7_statistic_30 rfl (lv_at hl 0 rfl) ?_
      refine lv_iconst (v := 0) hx hb dX7_statistic_31 (by decide) ?_
      refine pput16 hx hb hts inX7 tyX7 tyX7_ok nmX7 hown hK hP hA hS (j := 279) (by decide) (by decide) rfl rfl 0 (by decide) (hts (.fieldLink RX7 45 "TileRunnersModel" "thrown" "I") (List.mem_of_getElem? (i := 1) rfl)) (fun _ h9 => h9) rfl (tyX7_ok 0 (by decide)) rfl rfl (Nat.le_of_ble_eq_true rfl) (490) (by decide) (setM_0) dX7_statistic_32 (fun u9 H locs eu9 hP hS => ?_)
      obtain ⟨u32, e_u32⟩ : ∃ z, z = u9 := ⟨_, rfl⟩
      rw [← e_u32] at hP eu9
      have hF := bnd_s eu9 hF
      have hO := okM_up eu9 hO (by omega) (by omega) (by omega)
      refine lv_aload_n hx hb dX7_statistic_35 rfl (lv_at hl 0 rfl) ?_
      refine lv_iload_n hx hb dX7_statistic_36 rfl (lv_at hl 1 rfl) ?_
      refine lv_bipush (v := 14) hx hb dX7_statistic_37 (by decide) ?_
      refine lv_iload_n hx hb dX7_statistic_39 rfl (lv_at hl 2 rfl) ?_
      refine lv_iadd hx hb dX7_statistic_40 ?_
      refine va_calli (va_runV (As := [.int a, .int (14 + b)]) (rest := []) ⟨hx, hb, hml, hown, hts⟩ (c7_of l hA σ u32 a (14 + b) (stat_in eq18 c21) hba) (cwV 2 hts gX7_statistic_X7_of rfl rfl rfl hd_X7_ofV ⟨Nat.le_of_ble_eq_true rfl, Nat.le_of_ble_eq_true rfl⟩) ⟨hp_blind, va_recv hK hP (ci := 9) (q0 := 279) rfl c_279, hp_pre hK hN hP⟩ rfl rfl hl.1 rfl (lv_room (Nat.le_of_ble_eq_true rfl)) dX7_statistic_41 ⟨Nat.zero_le _, Nat.zero_le _⟩) hS (fun _ _ h => h) (fun _ h => h) (fun r41 _ t H locs ht hvm hw9 hB hz1 hk1 hS => ?_)
      have hP := ho_at ht hB
      have eq41 := hw9
      have hF := bnd_s eq41 hF
      exact W.iret (v := r41) hx hb hr (fun t ht hW => ⟨⟨r41, u32, rfl, ⟨hF.trans hFF, hO⟩, ho_of ht hP⟩, hS.F ht⟩) hS.2.2 dX7_statistic_44
    · have hF := ift c21 hF
      refine lv_aload_n hx hb dX7_statistic_24 rfl (lv_at hl 0 rfl) ?_
      refine lv_iconst (v := 2) hx hb dX7_statistic_25 (by decide) ?_
      refine va_calli (va_runV (As := [.int 2]) (rest := []) ⟨hx, hb, hml, hown, hts⟩ (c7_fails l hA σ u 2 hO) (cwV 1 hts gX7_statistic_X7_fails rfl rfl rfl hd_X7_failsV ⟨Nat.le_of_ble_eq_true rfl, Nat.le_of_ble_eq_true rfl⟩) ⟨hp_blind, va_recv hK hP (ci := 9) (q0 := 279) rfl c_279, hp_pre hK hN hP⟩ rfl rfl hl.1 rfl (lv_room (Nat.le_of_ble_eq_true rfl)) dX7_statistic_26 ⟨Nat.zero_le _, Nat.zero_le _⟩) hS (fun _ _ h => h) (fun _ h => h) (fun r26 u9 t H locs ht hvm hw9 hB hz1 hk1 hS => ?_)
      have hP := ho_at ht hB
      obtain ⟨eq26, ok9⟩ := hw9
      obtain ⟨u26, e_u26⟩ : ∃ z, z = u9 := ⟨_, rfl⟩
      rw [← e_u26] at hP eq26 ok9
      have hO := ok9
      have hF := bnd2_s eq26 hF
      exact W.iret (v := r26) hx hb hr (fun t ht hW => ⟨⟨r26, u26, rfl, ⟨hF.trans hFF, hO⟩, ho_of ht hP⟩, hS.F ht⟩) hS.2.2 dX7_statistic_29
  · have hF := ift c5 hF
    refine lv_aload_n hx hb dX7_statistic_8 rfl (lv_at hl 0 rfl) ?_
    refine lv_iconst (v := 1) hx hb dX7_statistic_9 (by decide) ?_
    refine va_calli (va_runV (As := [.int 1]) (rest := []) ⟨hx, hb, hml, hown, hts⟩ (c7_fails l hA σ u 1 hO) (cwV 1 hts gX7_statistic_X7_fails rfl rfl rfl hd_X7_failsV ⟨Nat.le_of_ble_eq_true rfl, Nat.le_of_ble_eq_true rfl⟩) ⟨hp_blind, va_recv hK hP (ci := 9) (q0 := 279) rfl c_279, hp_pre hK hN hP⟩ rfl rfl hl.1 rfl (lv_room (Nat.le_of_ble_eq_true rfl)) dX7_statistic_10 ⟨Nat.zero_le _, Nat.zero_le _⟩) hS (fun _ _ h => h) (fun _ h => h) (fun r10 u9 t H locs ht hvm hw9 hB hz1 hk1 hS => ?_)
    have hP := ho_at ht hB
    obtain ⟨eq10, ok9⟩ := hw9
    obtain ⟨u10, e_u10⟩ : ∃ z, z = u9 := ⟨_, rfl⟩
    rw [← e_u10] at hP eq10 ok9
    have hO := ok9
    have hF := bnd2_s eq10 hF
    exact W.iret (v := r10) hx hb hr (fun t ht hW => ⟨⟨r10, u10, rfl, ⟨hF.trans hFF, hO⟩, ho_of ht hP⟩, hS.F ht⟩) hS.2.2 dX7_statistic_13
theorem hd_X7_statisticV : yX7_statistic.cls = RX7 ∧ yX7_statistic.cls ≠ "java/lang/invoke/MethodHandle" ∧ yX7_statistic.cls ≠ "java/lang/invoke/VarHandle" ∧ (parseMethodDescriptor yX7_statistic.desc).map (fun d => d.parameters.length) = some 2 := by decide +kernel
set_option maxHeartbeats 4000000 in
set_option maxRecDepth 100000 in
theorem c7_append (l : Launch) {D : va_G} {G : CY} {ad : Nat → Nat} {B0 : Nat} (hA : adOK B0 ad) (σ : Nat → Nat → Int32) (u : Nat → Int32) (a : Int32) (hO : okM u) : Met l yX7_append wsX7_append { frames := 0, cells := 0, slots := 0, locals := 0 } (va_Pc [.ref (ad (279)), .int a] (Hp D G ad (va_up σ 16 u))) (va_Qv (fun (z : Nat → Int32) => z = f7_append u a ∧ okM z) (fun (z : Nat → Int32) => Ho D G ad (va_up σ 16 z)) (AA B0)) 0 0 (AA B0) := by
  refine Met.ofW (cc := cX7_append) (maxL := 2) (ret := none) (by decide) rfl ?_
  intro p e s m args below meth c s₁ B hml hv
  obtain ⟨rfl, hP, hK, hN⟩ := hv
  have hx := B.exec
  have hb := B.bytes
  have hr := B.returns
  have hts := atoms_spec (ws := wsX7_append) B.pre
  have hown : s.vm.findClass RX7 = some m.cls := findClass_of_methodNamed B.named
  have hlocks := B.notSynchronized
  have inX7 : ∀ w ∈ wsX70, w ∈ wsX7_append := (fun w h => List.mem_cons_of_mem _ (List.mem_append_left _ (List.mem_append_right _ h)))
  have hP : va_P D vwCl (pool G ad (va_up σ 16 u)) s.heap := hP
  have hS : va_S (AA B0) s.heap s.heap [] := va_S.rf
  have hl := lv_entry ([.ref (ad (279)), .int a]) (n := 2) (Nat.le_of_ble_eq_true rfl)
  rw [lg_entry_eq]
  generalize (lg_sl ([.ref (ad (279)), .int a]) ++ List.replicate (2 - (lg_sl ([.ref (ad (279)), .int a])).length) Slot.unset).toArray = ls at hl ⊢
  have hl : lv_has ls 2 [(0, .ref (ad (279))), (1, .int a)] := hl
  obtain ⟨FF, hFF⟩ : ∃ z, z = f7_append u a := ⟨_, rfl⟩
  have hF := hFF.symm
  rw [f7_append] at hF
  refine lv_aload_n hx hb dX7_append_0 rfl (lv_at hl 0 rfl) ?_
  refine lv_aload_n hx hb dX7_append_1 rfl (lv_at hl 0 rfl) ?_
  refine va_get (D := D) (ci := 9) (C := RX7) (T := TX7) (N := 17) hx hb hts inX7 hown hK hP (279) c_279 rfl 13 (by decide) (hts (.fieldLink RX7 246 "TileRunnersModel" "length" "I") (List.mem_of_getElem? (i := 1) rfl)) (fun _ h9 => h9) rfl dX7_append_2 ?_
  refine lv_bipush (v := 40) hx hb dX7_append_5 (by decide) ?_
  have J15 : ∀ (t0_15 : Int32) (H : Heap) (locs : List Loc) (ls : Array Slot), t0_15 = (if (u 493) = 40 then 1 else 0) → bl t0_15 → va_P D vwCl (pool G ad (va_up σ 16 u)) H → va_S (AA B0) s.heap H locs → lv_has ls 2 [(0, .ref (ad (279))), (1, .int a)] → f7_append_b15 u a t0_15 = FF → W p l e (headSpec wsX7_append { frames := 0, cells := 0, slots := 0, locals := 0 }).room s m ([.ref (ad (279)), .int a] : List Value).toArray below meth c H locs 0 0 (MQ below (va_Qv (fun (z : Nat → Int32) => z = f7_append u a ∧ okM z) (fun (z : Nat → Int32) => Ho D G ad (va_up σ 16 z)) (AA B0)) ([.ref (ad (279)), .int a] : List Value).toArray s 0 0 (AA B0)) (F0 m 15 ls [.int t0_15, .ref (ad (279))]) := by
    intro t0_15 H locs ls ht15 hb_t0_15 hP hS hl hF
    rw [f7_append_b15] at hF
    refine pput16 hx hb hts inX7 tyX7 tyX7_ok nmX7 hown hK hP hA hS (j := 279) (by decide) (by decide) rfl rfl 0 (by decide) (hts (.fieldLink RX7 45 "TileRunnersModel" "thrown" "I") (List.mem_of_getElem? (i := 2) rfl)) (fun _ h9 => h9) rfl (tyX7_ok 0 (by decide)) rfl rfl (Nat.le_of_ble_eq_true rfl) (490) (by decide) (setM_0) dX7_append_15 (fun u9 H locs eu9 hP hS => ?_)
    obtain ⟨u15, e_u15⟩ : ∃ z, z = u9 := ⟨_, rfl⟩
    rw [← e_u15] at hP eu9
    have hF := bnd_s eu9 hF
    have eq15 := eu9
    have hO := okM_up eu9 hO (by omega) (by omega) (by omega)
    refine lv_aload_n hx hb dX7_append_18 rfl (lv_at hl 0 rfl) ?_
    refine va_get (D := D) (ci := 9) (C := RX7) (T := TX7) (N := 17) hx hb hts inX7 hown hK hP (279) c_279 rfl 0 (by decide) (hts (.fieldLink RX7 45 "TileRunnersModel" "thrown" "I") (List.mem_of_getElem? (i := 2) rfl)) (fun _ h9 => h9) rfl dX7_append_19 ?_
    refine lv_if_le (tgt := 26) hx hb dX7_append_22 (by decide) (fun c22 => ?_) (fun c22 => ?_)
    · have hF := ift c22 hF
      have hl9 : ¬ (u15 493) = 40 := by intro q; rw [eq15, va_up_ne _ _ (by decide)] at q; rw [if_pos q] at ht15; rw [eq15, va_up_self, ht15] at c22; exact absurd c22 (by decide)
      have hlv := len_in hO hl9
      refine lv_aload_n hx hb dX7_append_26 rfl (lv_at hl 0 rfl) ?_
      refine va_get (D := D) (ci := 9) (C := RX7) (T := TX7) (N := 17) hx hb hts inX7 hown hK hP (279) c_279 rfl 10 (by decide) (hts (.fieldLink RX7 31 "TileRunnersModel" "text" "[C") (List.mem_of_getElem? (i := 3) rfl)) (fun _ h9 => h9) rfl dX7_append_27 ?_
      refine lv_aload_n hx hb dX7_append_30 rfl (lv_at hl 0 rfl) ?_
      refine va_get (D := D) (ci := 9) (C := RX7) (T := TX7) (N := 17) hx hb hts inX7 hown hK hP (279) c_279 rfl 13 (by decide) (hts (.fieldLink RX7 246 "TileRunnersModel" "length" "I") (List.mem_of_getElem? (i := 1) rfl)) (fun _ h9 => h9) rfl dX7_append_31 ?_
      refine lv_iload_n hx hb dX7_append_34 rfl (lv_at hl 1 rfl) ?_
      have hin9 : vp_in (u15 493) 40 := hlv
      refine pcst16 (n := 40) (o := 500) (t := 500+(u15 493).toNatClampNeg) hx hb hK hP hA hS (j := 287) (by decide) (by decide) (fun _ _ => rfl) (fun k9 hk9 => by unfold own16; repeat first | rw [if_pos (by omega)] | rw [if_neg (by omega)]) hin9 rfl dX7_append_35 (fun u9 H locs eu9 hP hS => ?_)
      have hlt9 := in_lt hin9
      obtain ⟨u35, e_u35⟩ : ∃ z, z = u9 := ⟨_, rfl⟩
      rw [← e_u35] at hP eu9
      have hF := bnd_s eu9 hF
      have eq35 := eu9
      have hO := okM_up eu9 hO (by omega) (by omega) (by omega)
      refine lv_aload_n hx hb dX7_append_36 rfl (lv_at hl 0 rfl) ?_
      refine lv_dup hx hb dX7_append_37 rfl ?_
      refine va_get (D := D) (ci := 9) (C := RX7) (T := TX7) (N := 17) hx hb hts inX7 hown hK hP (279) c_279 rfl 13 (by decide) (hts (.fieldLink RX7 246 "TileRunnersModel" "length" "I") (List.mem_of_getElem? (i := 1) rfl)) (fun _ h9 => h9) rfl dX7_append_38 ?_
      refine lv_iconst (v := 1) hx hb dX7_append_41 (by decide) ?_
      refine lv_iadd hx hb dX7_append_42 ?_
      refine pput16 hx hb hts inX7 tyX7 tyX7_ok nmX7 hown hK hP hA hS (j := 279) (by decide) (by decide) rfl rfl 13 (by decide) (hts (.fieldLink RX7 246 "TileRunnersModel" "length" "I") (List.mem_of_getElem? (i := 1) rfl)) (fun _ h9 => h9) rfl (tyX7_ok 13 (by decide)) rfl rfl (Nat.le_of_ble_eq_true rfl) (493) (by decide) (setM_13) dX7_append_43 (fun u9 H locs eu9 hP hS => ?_)
      obtain ⟨u43, e_u43⟩ : ∃ z, z = u9 := ⟨_, rfl⟩
      rw [← e_u43] at hP eu9
      have hF := bnd_s eu9 hF
      have eq43 := eu9
      have hO := okM_493 eu9 hO (by rw [eq35, va_up_ne _ _ (by omega)]; exact at_inc hlv)
      exact W.vret hx hb hr (fun t ht hW => ⟨⟨u43, rfl, ⟨hF.trans hFF, hO⟩, ho_of ht hP⟩, hS.F ht⟩) hS.2.2 dX7_append_46
    · have hF := iff_ c22 hF
      exact W.vret hx hb hr (fun t ht hW => ⟨⟨u15, rfl, ⟨hF.trans hFF, hO⟩, ho_of ht hP⟩, hS.F ht⟩) hS.2.2 dX7_append_25
  refine lv_icmp_ne (tgt := 14) hx hb dX7_append_7 (by decide) (fun c7 => ?_) (fun c7 => ?_)
  · have hF := iff_ c7 hF
    refine lv_iconst (v := 0) hx hb dX7_append_14 (by decide) ?_
    exact J15 0 _ _ ls (if_neg c7).symm bl0 hP hS (lv_sub hl [0, 1] rfl) hF
  · have hF := ift c7 hF
    refine lv_iconst (v := 1) hx hb dX7_append_10 (by decide) ?_
    refine lv_goto (tgt := 15) hx hb dX7_append_11 (by decide) ?_
    exact J15 1 _ _ ls (if_pos c7).symm bl1 hP hS (lv_sub hl [0, 1] rfl) hF
theorem hd_X7_appendV : yX7_append.cls = RX7 ∧ yX7_append.cls ≠ "java/lang/invoke/MethodHandle" ∧ yX7_append.cls ≠ "java/lang/invoke/VarHandle" ∧ (parseMethodDescriptor yX7_append.desc).map (fun d => d.parameters.length) = some 1 := by decide +kernel
set_option maxHeartbeats 4000000 in
set_option maxRecDepth 100000 in
theorem c7_kindOf (l : Launch) {D : va_G} {G : CY} {ad : Nat → Nat} {B0 : Nat} (hA : adOK B0 ad) (σ : Nat → Nat → Int32) (a : Int32) : Met l yX7_kindOf wsX7_kindOf { frames := 0, cells := 0, slots := 0, locals := 0 } (va_Pc [.int a] (Hp D G ad σ)) (va_Qi (fun (r : Int32) (_ : Unit) => r = f7_kindOf a) (fun (_ : Unit) => Ho D G ad σ) (AA B0)) 0 0 (AA B0) := by
  refine Met.ofW (cc := cX7_kindOf) (maxL := 1) (ret := (some .int)) (by decide) rfl ?_
  intro p e s m args below meth c s₁ B hml hv
  obtain ⟨rfl, hP, hK, hN⟩ := hv
  have hx := B.exec
  have hb := B.bytes
  have hr := B.returns
  have hts := atoms_spec (ws := wsX7_kindOf) B.pre
  have hown : s.vm.findClass RX7 = some m.cls := findClass_of_methodNamed B.named
  have hlocks := B.notSynchronized
  have hP : va_P D vwCl (pool G ad σ) s.heap := hP
  have hS : va_S (AA B0) s.heap s.heap [] := va_S.rf
  have hl := lv_entry ([.int a]) (n := 1) (Nat.le_of_ble_eq_true rfl)
  rw [lg_entry_eq]
  generalize (lg_sl ([.int a]) ++ List.replicate (1 - (lg_sl ([.int a])).length) Slot.unset).toArray = ls at hl ⊢
  have hl : lv_has ls 1 [(0, .int a)] := hl
  obtain ⟨FF, hFF⟩ : ∃ z, z = f7_kindOf a := ⟨_, rfl⟩
  have hF := hFF.symm
  rw [f7_kindOf] at hF
  refine lv_iload_n hx hb dX7_kindOf_0 rfl (lv_at hl 0 rfl) ?_
  by_cases k1_35 : a = 35
  · have hF := ift k1_35 hF
    refine lv_lookup (tgt := 102) (off := 101) hx hb dX7_kindOf_1 (by decide) (by rw [k1_35]; rfl) (by decide) ?_
    refine lv_iconst (v := 1) hx hb dX7_kindOf_102 (by decide) ?_
    exact W.iret (v := 1) hx hb hr (fun t ht hW => ⟨⟨1, (), rfl, hF.trans hFF, ho_of ht hP⟩, hS.F ht⟩) hS.2.2 dX7_kindOf_103
  have hF := iff_ k1_35 hF
  by_cases k1_46 : a = 46
  · have hF := ift k1_46 hF
    refine lv_lookup (tgt := 100) (off := 99) hx hb dX7_kindOf_1 (by decide) (by rw [k1_46]; rfl) (by decide) ?_
    refine lv_iconst (v := 0) hx hb dX7_kindOf_100 (by decide) ?_
    exact W.iret (v := 0) hx hb hr (fun t ht hW => ⟨⟨0, (), rfl, hF.trans hFF, ho_of ht hP⟩, hS.F ht⟩) hS.2.2 dX7_kindOf_101
  have hF := iff_ k1_46 hF
  by_cases k1_47 : a = 47
  · have hF := ift k1_47 hF
    refine lv_lookup (tgt := 106) (off := 105) hx hb dX7_kindOf_1 (by decide) (by rw [k1_47]; rfl) (by decide) ?_
    refine lv_iconst (v := 3) hx hb dX7_kindOf_106 (by decide) ?_
    exact W.iret (v := 3) hx hb hr (fun t ht hW => ⟨⟨3, (), rfl, hF.trans hFF, ho_of ht hP⟩, hS.F ht⟩) hS.2.2 dX7_kindOf_107
  have hF := iff_ k1_47 hF
  by_cases k1_60 : a = 60
  · have hF := ift k1_60 hF
    refine lv_lookup (tgt := 115) (off := 114) hx hb dX7_kindOf_1 (by decide) (by rw [k1_60]; rfl) (by decide) ?_
    refine lv_bipush (v := 7) hx hb dX7_kindOf_115 (by decide) ?_
    exact W.iret (v := 7) hx hb hr (fun t ht hW => ⟨⟨7, (), rfl, hF.trans hFF, ho_of ht hP⟩, hS.F ht⟩) hS.2.2 dX7_kindOf_117
  have hF := iff_ k1_60 hF
  by_cases k1_61 : a = 61
  · have hF := ift k1_61 hF
    refine lv_lookup (tgt := 104) (off := 103) hx hb dX7_kindOf_1 (by decide) (by rw [k1_61]; rfl) (by decide) ?_
    refine lv_iconst (v := 2) hx hb dX7_kindOf_104 (by decide) ?_
    exact W.iret (v := 2) hx hb hr (fun t ht hW => ⟨⟨2, (), rfl, hF.trans hFF, ho_of ht hP⟩, hS.F ht⟩) hS.2.2 dX7_kindOf_105
  have hF := iff_ k1_61 hF
  by_cases k1_62 : a = 62
  · have hF := ift k1_62 hF
    refine lv_lookup (tgt := 112) (off := 111) hx hb dX7_kindOf_1 (by decide) (by rw [k1_62]; rfl) (by decide) ?_
    refine lv_bipush (v := 6) hx hb dX7_kindOf_112 (by decide) ?_
    exact W.iret (v := 6) hx hb hr (fun t ht hW => ⟨⟨6, (), rfl, hF.trans hFF, ho_of ht hP⟩, hS.F ht⟩) hS.2.2 dX7_kindOf_114
  have hF := iff_ k1_62 hF
  by_cases k1_92 : a = 92
  · have hF := ift k1_92 hF
    refine lv_lookup (tgt := 108) (off := 107) hx hb dX7_kindOf_1 (by decide) (by rw [k1_92]; rfl) (by decide) ?_
    refine lv_iconst (v := 4) hx hb dX7_kindOf_108 (by decide) ?_
    exact W.iret (v := 4) hx hb hr (fun t ht hW => ⟨⟨4, (), rfl, hF.trans hFF, ho_of ht hP⟩, hS.F ht⟩) hS.2.2 dX7_kindOf_109
  have hF := iff_ k1_92 hF
  by_cases k1_94 : a = 94
  · have hF := ift k1_94 hF
    refine lv_lookup (tgt := 118) (off := 117) hx hb dX7_kindOf_1 (by decide) (by rw [k1_94]; rfl) (by decide) ?_
    refine lv_bipush (v := 8) hx hb dX7_kindOf_118 (by decide) ?_
    exact W.iret (v := 8) hx hb hr (fun t ht hW => ⟨⟨8, (), rfl, hF.trans hFF, ho_of ht hP⟩, hS.F ht⟩) hS.2.2 dX7_kindOf_120
  have hF := iff_ k1_94 hF
  by_cases k1_105 : a = 105
  · have hF := ift k1_105 hF
    refine lv_lookup (tgt := 110) (off := 109) hx hb dX7_kindOf_1 (by decide) (by rw [k1_105]; rfl) (by decide) ?_
    refine lv_iconst (v := 5) hx hb dX7_kindOf_110 (by decide) ?_
    exact W.iret (v := 5) hx hb hr (fun t ht hW => ⟨⟨5, (), rfl, hF.trans hFF, ho_of ht hP⟩, hS.F ht⟩) hS.2.2 dX7_kindOf_111
  have hF := iff_ k1_105 hF
  by_cases k1_111 : a = 111
  · have hF := ift k1_111 hF
    refine lv_lookup (tgt := 124) (off := 123) hx hb dX7_kindOf_1 (by decide) (by rw [k1_111]; rfl) (by decide) ?_
    refine lv_bipush (v := 10) hx hb dX7_kindOf_124 (by decide) ?_
    exact W.iret (v := 10) hx hb hr (fun t ht hW => ⟨⟨10, (), rfl, hF.trans hFF, ho_of ht hP⟩, hS.F ht⟩) hS.2.2 dX7_kindOf_126
  have hF := iff_ k1_111 hF
  by_cases k1_120 : a = 120
  · have hF := ift k1_120 hF
    refine lv_lookup (tgt := 121) (off := 120) hx hb dX7_kindOf_1 (by decide) (by rw [k1_120]; rfl) (by decide) ?_
    refine lv_bipush (v := 9) hx hb dX7_kindOf_121 (by decide) ?_
    exact W.iret (v := 9) hx hb hr (fun t ht hW => ⟨⟨9, (), rfl, hF.trans hFF, ho_of ht hP⟩, hS.F ht⟩) hS.2.2 dX7_kindOf_123
  have hF := iff_ k1_120 hF
  refine lv_lookup (tgt := 127) (off := 126) hx hb dX7_kindOf_1 (by decide) ((lv_osw (k := 35) k1_35 rfl).trans ((lv_osw (k := 46) k1_46 rfl).trans ((lv_osw (k := 47) k1_47 rfl).trans ((lv_osw (k := 60) k1_60 rfl).trans ((lv_osw (k := 61) k1_61 rfl).trans ((lv_osw (k := 62) k1_62 rfl).trans ((lv_osw (k := 92) k1_92 rfl).trans ((lv_osw (k := 94) k1_94 rfl).trans ((lv_osw (k := 105) k1_105 rfl).trans ((lv_osw (k := 111) k1_111 rfl).trans ((lv_osw (k := 120) k1_120 rfl).trans rfl))))))))))) (by decide) ?_
  refine lv_iconst (v := (-1)) hx hb dX7_kindOf_127 (by decide) ?_
  exact W.iret (v := (-1)) hx hb hr (fun t ht hW => ⟨⟨(-1), (), rfl, hF.trans hFF, ho_of ht hP⟩, hS.F ht⟩) hS.2.2 dX7_kindOf_128
theorem hd_X7_kindOfS : yX7_kindOf.cls ≠ "java/lang/invoke/MethodHandle" ∧ yX7_kindOf.cls ≠ "java/lang/invoke/VarHandle" ∧ (parseMethodDescriptor yX7_kindOf.desc).map (fun d => d.parameters.length) = some 1 := by decide +kernel
set_option maxHeartbeats 4000000 in
set_option maxRecDepth 100000 in
theorem c7_keysFor (l : Launch) {D : va_G} {G : CY} {ad : Nat → Nat} {B0 : Nat} (hA : adOK B0 ad) (σ : Nat → Nat → Int32) (a : Int32) : Met l yX7_keysFor wsX7_keysFor { frames := 0, cells := 0, slots := 0, locals := 0 } (va_Pc [.int a] (Hp D G ad σ)) (va_Qi (fun (r : Int32) (_ : Unit) => r = f7_keysFor a) (fun (_ : Unit) => Ho D G ad σ) (AA B0)) 0 0 (AA B0) := by
  refine Met.ofW (cc := cX7_keysFor) (maxL := 1) (ret := (some .int)) (by decide) rfl ?_
  intro p e s m args below meth c s₁ B hml hv
  obtain ⟨rfl, hP, hK, hN⟩ := hv
  have hx := B.exec
  have hb := B.bytes
  have hr := B.returns
  have hts := atoms_spec (ws := wsX7_keysFor) B.pre
  have hown : s.vm.findClass RX7 = some m.cls := findClass_of_methodNamed B.named
  have hlocks := B.notSynchronized
  have hP : va_P D vwCl (pool G ad σ) s.heap := hP
  have hS : va_S (AA B0) s.heap s.heap [] := va_S.rf
  have hl := lv_entry ([.int a]) (n := 1) (Nat.le_of_ble_eq_true rfl)
  rw [lg_entry_eq]
  generalize (lg_sl ([.int a]) ++ List.replicate (1 - (lg_sl ([.int a])).length) Slot.unset).toArray = ls at hl ⊢
  have hl : lv_has ls 1 [(0, .int a)] := hl
  obtain ⟨FF, hFF⟩ : ∃ z, z = f7_keysFor a := ⟨_, rfl⟩
  have hF := hFF.symm
  rw [f7_keysFor] at hF
  refine lv_iload_n hx hb dX7_keysFor_0 rfl (lv_at hl 0 rfl) ?_
  by_cases k1_68 : a = 68
  · have hF := ift k1_68 hF
    refine lv_lookup (tgt := 92) (off := 91) hx hb dX7_keysFor_1 (by decide) (by rw [k1_68]; rfl) (by decide) ?_
    refine lv_bipush (v := 12) hx hb dX7_keysFor_92 (by decide) ?_
    exact W.iret (v := 12) hx hb hr (fun t ht hW => ⟨⟨12, (), rfl, hF.trans hFF, ho_of ht hP⟩, hS.F ht⟩) hS.2.2 dX7_keysFor_94
  have hF := iff_ k1_68 hF
  by_cases k1_76 : a = 76
  · have hF := ift k1_76 hF
    refine lv_lookup (tgt := 87) (off := 86) hx hb dX7_keysFor_1 (by decide) (by rw [k1_76]; rfl) (by decide) ?_
    refine lv_iconst (v := 5) hx hb dX7_keysFor_87 (by decide) ?_
    exact W.iret (v := 5) hx hb hr (fun t ht hW => ⟨⟨5, (), rfl, hF.trans hFF, ho_of ht hP⟩, hS.F ht⟩) hS.2.2 dX7_keysFor_88
  have hF := iff_ k1_76 hF
  by_cases k1_82 : a = 82
  · have hF := ift k1_82 hF
    refine lv_lookup (tgt := 89) (off := 88) hx hb dX7_keysFor_1 (by decide) (by rw [k1_82]; rfl) (by decide) ?_
    refine lv_bipush (v := 6) hx hb dX7_keysFor_89 (by decide) ?_
    exact W.iret (v := 6) hx hb hr (fun t ht hW => ⟨⟨6, (), rfl, hF.trans hFF, ho_of ht hP⟩, hS.F ht⟩) hS.2.2 dX7_keysFor_91
  have hF := iff_ k1_82 hF
  by_cases k1_100 : a = 100
  · have hF := ift k1_100 hF
    refine lv_lookup (tgt := 84) (off := 83) hx hb dX7_keysFor_1 (by decide) (by rw [k1_100]; rfl) (by decide) ?_
    refine lv_bipush (v := 8) hx hb dX7_keysFor_84 (by decide) ?_
    exact W.iret (v := 8) hx hb hr (fun t ht hW => ⟨⟨8, (), rfl, hF.trans hFF, ho_of ht hP⟩, hS.F ht⟩) hS.2.2 dX7_keysFor_86
  have hF := iff_ k1_100 hF
  by_cases k1_106 : a = 106
  · have hF := ift k1_106 hF
    refine lv_lookup (tgt := 82) (off := 81) hx hb dX7_keysFor_1 (by decide) (by rw [k1_106]; rfl) (by decide) ?_
    refine lv_iconst (v := 4) hx hb dX7_keysFor_82 (by decide) ?_
    exact W.iret (v := 4) hx hb hr (fun t ht hW => ⟨⟨4, (), rfl, hF.trans hFF, ho_of ht hP⟩, hS.F ht⟩) hS.2.2 dX7_keysFor_83
  have hF := iff_ k1_106 hF
  by_cases k1_108 : a = 108
  · have hF := ift k1_108 hF
    refine lv_lookup (tgt := 78) (off := 77) hx hb dX7_keysFor_1 (by decide) (by rw [k1_108]; rfl) (by decide) ?_
    refine lv_iconst (v := 1) hx hb dX7_keysFor_78 (by decide) ?_
    exact W.iret (v := 1) hx hb hr (fun t ht hW => ⟨⟨1, (), rfl, hF.trans hFF, ho_of ht hP⟩, hS.F ht⟩) hS.2.2 dX7_keysFor_79
  have hF := iff_ k1_108 hF
  by_cases k1_110 : a = 110
  · have hF := ift k1_110 hF
    refine lv_lookup (tgt := 76) (off := 75) hx hb dX7_keysFor_1 (by decide) (by rw [k1_110]; rfl) (by decide) ?_
    refine lv_iconst (v := 0) hx hb dX7_keysFor_76 (by decide) ?_
    exact W.iret (v := 0) hx hb hr (fun t ht hW => ⟨⟨0, (), rfl, hF.trans hFF, ho_of ht hP⟩, hS.F ht⟩) hS.2.2 dX7_keysFor_77
  have hF := iff_ k1_110 hF
  by_cases k1_114 : a = 114
  · have hF := ift k1_114 hF
    refine lv_lookup (tgt := 80) (off := 79) hx hb dX7_keysFor_1 (by decide) (by rw [k1_114]; rfl) (by decide) ?_
    refine lv_iconst (v := 2) hx hb dX7_keysFor_80 (by decide) ?_
    exact W.iret (v := 2) hx hb hr (fun t ht hW => ⟨⟨2, (), rfl, hF.trans hFF, ho_of ht hP⟩, hS.F ht⟩) hS.2.2 dX7_keysFor_81
  have hF := iff_ k1_114 hF
  refine lv_lookup (tgt := 95) (off := 94) hx hb dX7_keysFor_1 (by decide) ((lv_osw (k := 68) k1_68 rfl).trans ((lv_osw (k := 76) k1_76 rfl).trans ((lv_osw (k := 82) k1_82 rfl).trans ((lv_osw (k := 100) k1_100 rfl).trans ((lv_osw (k := 106) k1_106 rfl).trans ((lv_osw (k := 108) k1_108 rfl).trans ((lv_osw (k := 110) k1_110 rfl).trans ((lv_osw (k := 114) k1_114 rfl).trans rfl)))))))) (by decide) ?_
  refine lv_iconst (v := (-1)) hx hb dX7_keysFor_95 (by decide) ?_
  exact W.iret (v := (-1)) hx hb hr (fun t ht hW => ⟨⟨(-1), (), rfl, hF.trans hFF, ho_of ht hP⟩, hS.F ht⟩) hS.2.2 dX7_keysFor_96
theorem hd_X7_keysForS : yX7_keysFor.cls ≠ "java/lang/invoke/MethodHandle" ∧ yX7_keysFor.cls ≠ "java/lang/invoke/VarHandle" ∧ (parseMethodDescriptor yX7_keysFor.desc).map (fun d => d.parameters.length) = some 1 := by decide +kernel
set_option maxHeartbeats 4000000 in
set_option maxRecDepth 100000 in
theorem c7_areTiles (l : Launch) {D : va_G} {G : CY} {ad : Nat → Nat} {B0 : Nat} (hA : adOK B0 ad) (σ : Nat → Nat → Int32) (u : Nat → Int32) (a : Int32) (hO : okM u) (hn : 0 ≤ a.toInt ∧ a.toInt ≤ 40) : Met l yX7_areTiles wsX7_areTiles { frames := 1, cells := 0, slots := 0, locals := 20 } (va_Pc [.ref (ad (279)), .int a] (Hp D G ad (va_up σ 16 u))) (va_Qi (fun (r : Int32) (z : Nat → Int32) => (r, z) = f7_areTiles u a ∧ okM z ∧ bl r) (fun (z : Nat → Int32) => Ho D G ad (va_up σ 16 z)) (AA B0)) 0 0 (AA B0) := by
  refine Met.ofW (cc := cX7_areTiles) (maxL := 2) (ret := (some .boolean)) (by decide) rfl ?_
  intro p e s m args below meth c s₁ B hml hv
  obtain ⟨rfl, hP, hK, hN⟩ := hv
  have hx := B.exec
  have hb := B.bytes
  have hr := B.returns
  have hts := atoms_spec (ws := wsX7_areTiles) B.pre
  have hown : s.vm.findClass RX7 = some m.cls := findClass_of_methodNamed B.named
  have hlocks := B.notSynchronized
  have inX7 : ∀ w ∈ wsX70, w ∈ wsX7_areTiles := (fun w h => List.mem_cons_of_mem _ (List.mem_append_left _ (List.mem_append_right _ h)))
  have hP : va_P D vwCl (pool G ad (va_up σ 16 u)) s.heap := hP
  have hS : va_S (AA B0) s.heap s.heap [] := va_S.rf
  have hl := lv_entry ([.ref (ad (279)), .int a]) (n := 2) (Nat.le_of_ble_eq_true rfl)
  rw [lg_entry_eq]
  generalize (lg_sl ([.ref (ad (279)), .int a]) ++ List.replicate (2 - (lg_sl ([.ref (ad (279)), .int a])).length) Slot.unset).toArray = ls at hl ⊢
  have hl : lv_has ls 2 [(0, .ref (ad (279))), (1, .int a)] := hl
  obtain ⟨FF, hFF⟩ : ∃ z, z = f7_areTiles u a := ⟨_, rfl⟩
  have hF := hFF.symm
  rw [f7_areTiles] at hF
  refine lv_aload_n hx hb dX7_areTiles_0 rfl (lv_at hl 0 rfl) ?_
  refine lv_iconst (v := 0) hx hb dX7_areTiles_1 (by decide) ?_
  refine pput16 hx hb hts inX7 tyX7 tyX7_ok nmX7 hown hK hP hA hS (j := 279) (by decide) (by decide) rfl rfl 14 (by decide) (hts (.fieldLink RX7 249 "TileRunnersModel" "at" "I") (List.mem_of_getElem? (i := 1) rfl)) (fun _ h9 => h9) rfl (tyX7_ok 14 (by decide)) rfl rfl (Nat.le_of_ble_eq_true rfl) (494) (by decide) (setM_14) dX7_areTiles_2 (fun u9 H locs eu9 hP hS => ?_)
  obtain ⟨u2, e_u2⟩ : ∃ z, z = u9 := ⟨_, rfl⟩
  rw [← e_u2] at hP eu9
  have hF := bnd_s eu9 hF
  have eq2 := eu9
  have hO := okM_494 eu9 hO (by decide)
  have L5 : ∀ (n5 : Nat) (u_5 : (Nat → Int32)) (H : Heap) (locs : List Loc) (ls : Array Slot), (a.toInt - (u_5 494).toInt).toNat < n5 → okM u_5 → va_P D vwCl (pool G ad (va_up σ 16 u_5)) H → va_S (AA B0) s.heap H locs → lv_has ls 2 [(0, .ref (ad (279))), (1, .int a)] → f7_areTiles_L5 a n5 u_5 = FF → W p l e (headSpec wsX7_areTiles { frames := 1, cells := 0, slots := 0, locals := 20 }).room s m ([.ref (ad (279)), .int a] : List Value).toArray below meth c H locs 0 0 (MQ below (va_Qi (fun (r : Int32) (z : Nat → Int32) => (r, z) = f7_areTiles u a ∧ okM z ∧ bl r) (fun (z : Nat → Int32) => Ho D G ad (va_up σ 16 z)) (AA B0)) ([.ref (ad (279)), .int a] : List Value).toArray s 0 0 (AA B0)) (F0 m 5 ls []) := by
    intro n5
    induction n5 with
    | zero => intro u_5 H locs ls hm; exact absurd hm (Nat.not_lt_zero _)
    | succ n5 ih5 =>
      intro u_5 H locs ls hm5 hO hP hS hl hF
      rw [f7_areTiles_L5] at hF
      refine lv_aload_n hx hb dX7_areTiles_5 rfl (lv_at hl 0 rfl) ?_
      refine va_get (D := D) (ci := 9) (C := RX7) (T := TX7) (N := 17) hx hb hts inX7 hown hK hP (279) c_279 rfl 14 (by decide) (hts (.fieldLink RX7 249 "TileRunnersModel" "at" "I") (List.mem_of_getElem? (i := 1) rfl)) (fun _ h9 => h9) rfl dX7_areTiles_6 ?_
      refine lv_iload_n hx hb dX7_areTiles_9 rfl (lv_at hl 1 rfl) ?_
      have J50 : ∀  (H : Heap) (locs : List Loc) (ls : Array Slot), va_P D vwCl (pool G ad (va_up σ 16 u_5)) H → va_S (AA B0) s.heap H locs → lv_has ls 2 [(0, .ref (ad (279))), (1, .int a)] → f7_areTiles_b50 a u_5  = FF → W p l e (headSpec wsX7_areTiles { frames := 1, cells := 0, slots := 0, locals := 20 }).room s m ([.ref (ad (279)), .int a] : List Value).toArray below meth c H locs 0 0 (MQ below (va_Qi (fun (r : Int32) (z : Nat → Int32) => (r, z) = f7_areTiles u a ∧ okM z ∧ bl r) (fun (z : Nat → Int32) => Ho D G ad (va_up σ 16 z)) (AA B0)) ([.ref (ad (279)), .int a] : List Value).toArray s 0 0 (AA B0)) (F0 m 50 ls []) := by
        intro  H locs ls hP hS hl hF
        rw [f7_areTiles_b50] at hF
        refine lv_aload_n hx hb dX7_areTiles_50 rfl (lv_at hl 0 rfl) ?_
        refine va_get (D := D) (ci := 9) (C := RX7) (T := TX7) (N := 17) hx hb hts inX7 hown hK hP (279) c_279 rfl 14 (by decide) (hts (.fieldLink RX7 249 "TileRunnersModel" "at" "I") (List.mem_of_getElem? (i := 1) rfl)) (fun _ h9 => h9) rfl dX7_areTiles_51 ?_
        refine lv_if_le (tgt := 69) hx hb dX7_areTiles_54 (by decide) (fun c54 => ?_) (fun c54 => ?_)
        · have hF := ift c54 hF
          refine lv_iconst (v := 0) hx hb dX7_areTiles_69 (by decide) ?_
          exact W.zret (v := 0) hx hb hr (bl_nar bl0) (fun t ht hW => ⟨⟨0, u_5, rfl, ⟨hF.trans hFF, hO, bl0⟩, ho_of ht hP⟩, hS.F ht⟩) hS.2.2 dX7_areTiles_70
        · have hF := iff_ c54 hF
          refine lv_aload_n hx hb dX7_areTiles_57 rfl (lv_at hl 0 rfl) ?_
          refine va_get (D := D) (ci := 9) (C := RX7) (T := TX7) (N := 17) hx hb hts inX7 hown hK hP (279) c_279 rfl 14 (by decide) (hts (.fieldLink RX7 249 "TileRunnersModel" "at" "I") (List.mem_of_getElem? (i := 1) rfl)) (fun _ h9 => h9) rfl dX7_areTiles_58 ?_
          refine lv_iload_n hx hb dX7_areTiles_61 rfl (lv_at hl 1 rfl) ?_
          refine lv_icmp_ne (tgt := 69) hx hb dX7_areTiles_62 (by decide) (fun c62 => ?_) (fun c62 => ?_)
          · have hF := iff_ c62 hF
            refine lv_iconst (v := 0) hx hb dX7_areTiles_69 (by decide) ?_
            exact W.zret (v := 0) hx hb hr (bl_nar bl0) (fun t ht hW => ⟨⟨0, u_5, rfl, ⟨hF.trans hFF, hO, bl0⟩, ho_of ht hP⟩, hS.F ht⟩) hS.2.2 dX7_areTiles_70
          · have hF := ift c62 hF
            refine lv_iconst (v := 1) hx hb dX7_areTiles_65 (by decide) ?_
            refine lv_goto (tgt := 70) hx hb dX7_areTiles_66 (by decide) ?_
            exact W.zret (v := 1) hx hb hr (bl_nar bl1) (fun t ht hW => ⟨⟨1, u_5, rfl, ⟨hF.trans hFF, hO, bl1⟩, ho_of ht hP⟩, hS.F ht⟩) hS.2.2 dX7_areTiles_70
      refine lv_icmp_ge (tgt := 50) hx hb dX7_areTiles_10 (by decide) (fun c10 => ?_) (fun c10 => ?_)
      · have hF := ift c10 hF
        exact J50  _ _ ls hP hS (lv_sub hl [0, 1] rfl) hF
      · have hF := iff_ c10 hF
        refine lv_aload_n hx hb dX7_areTiles_13 rfl (lv_at hl 0 rfl) ?_
        refine va_get (D := D) (ci := 9) (C := RX7) (T := TX7) (N := 17) hx hb hts inX7 hown hK hP (279) c_279 rfl 14 (by decide) (hts (.fieldLink RX7 249 "TileRunnersModel" "at" "I") (List.mem_of_getElem? (i := 1) rfl)) (fun _ h9 => h9) rfl dX7_areTiles_14 ?_
        refine lv_bipush (v := 24) hx hb dX7_areTiles_17 (by decide) ?_
        refine lv_icmp_ge (tgt := 50) hx hb dX7_areTiles_19 (by decide) (fun c19 => ?_) (fun c19 => ?_)
        · have hF := ift c19 hF
          exact J50  _ _ ls hP hS (lv_sub hl [0, 1] rfl) hF
        · have hF := iff_ c19 hF
          have hat : vp_in (u_5 494) 40 := at_in hO (nle_lt c10) hn
          refine lv_aload_n hx hb dX7_areTiles_22 rfl (lv_at hl 0 rfl) ?_
          refine va_get (D := D) (ci := 9) (C := RX7) (T := TX7) (N := 17) hx hb hts inX7 hown hK hP (279) c_279 rfl 10 (by decide) (hts (.fieldLink RX7 31 "TileRunnersModel" "text" "[C") (List.mem_of_getElem? (i := 2) rfl)) (fun _ h9 => h9) rfl dX7_areTiles_23 ?_
          refine lv_aload_n hx hb dX7_areTiles_26 rfl (lv_at hl 0 rfl) ?_
          refine va_get (D := D) (ci := 9) (C := RX7) (T := TX7) (N := 17) hx hb hts inX7 hown hK hP (279) c_279 rfl 14 (by decide) (hts (.fieldLink RX7 249 "TileRunnersModel" "at" "I") (List.mem_of_getElem? (i := 1) rfl)) (fun _ h9 => h9) rfl dX7_areTiles_27 ?_
          refine pcald (n := 40) (o := 500) (t := 500+(u_5 494).toNatClampNeg) (i := (u_5 494)) hx hb hK hP c_287 hat rfl dX7_areTiles_30 ?_
          refine va_calli (va_runS (As := [.int (u_5 (500+(u_5 494).toNatClampNeg))]) (rest := []) ⟨hx, hb, hml, hown, hts⟩ (c7_kindOf l hA (va_up σ 16 u_5) (u_5 (500+(u_5 494).toNatClampNeg)) ) (va_cwS 1 hts gX7_areTiles_X7_kindOf rfl rfl rfl hd_X7_kindOfS ⟨Nat.le_of_ble_eq_true rfl, Nat.le_of_ble_eq_true rfl⟩) ⟨hp_blind, hp_pre hK hN hP⟩ rfl rfl hl.1 rfl (lv_room (Nat.le_of_ble_eq_true rfl)) dX7_areTiles_31 ⟨Nat.zero_le _, Nat.zero_le _⟩) hS (fun _ _ h => h) (fun _ h => h) (fun r31 _ t H locs ht hvm hw9 hB hz1 hk1 hS => ?_)
          have hP := ho_at ht hB
          have eq31 := hw9
          have hF := bnd_s eq31 hF
          refine lv_if_lt (tgt := 50) hx hb dX7_areTiles_34 (by decide) (fun c34 => ?_) (fun c34 => ?_)
          · have hF := ift c34 hF
            exact J50  _ _ ls hP hS (lv_sub hl [0, 1] rfl) hF
          · have hF := iff_ c34 hF
            refine lv_aload_n hx hb dX7_areTiles_37 rfl (lv_at hl 0 rfl) ?_
            refine lv_dup hx hb dX7_areTiles_38 rfl ?_
            refine va_get (D := D) (ci := 9) (C := RX7) (T := TX7) (N := 17) hx hb hts inX7 hown hK hP (279) c_279 rfl 14 (by decide) (hts (.fieldLink RX7 249 "TileRunnersModel" "at" "I") (List.mem_of_getElem? (i := 1) rfl)) (fun _ h9 => h9) rfl dX7_areTiles_39 ?_
            refine lv_iconst (v := 1) hx hb dX7_areTiles_42 (by decide) ?_
            refine lv_iadd hx hb dX7_areTiles_43 ?_
            refine pput16 hx hb hts inX7 tyX7 tyX7_ok nmX7 hown hK hP hA hS (j := 279) (by decide) (by decide) rfl rfl 14 (by decide) (hts (.fieldLink RX7 249 "TileRunnersModel" "at" "I") (List.mem_of_getElem? (i := 1) rfl)) (fun _ h9 => h9) rfl (tyX7_ok 14 (by decide)) rfl rfl (Nat.le_of_ble_eq_true rfl) (494) (by decide) (setM_14) dX7_areTiles_44 (fun u9 H locs eu9 hP hS => ?_)
            obtain ⟨u44, e_u44⟩ : ∃ z, z = u9 := ⟨_, rfl⟩
            rw [← e_u44] at hP eu9
            have hF := bnd_s eu9 hF
            have eq44 := eu9
            have hO := okM_494 eu9 hO (at_inc hat)
            refine lv_goto (tgt := 5) hx hb dX7_areTiles_47 (by decide) ?_
            exact ih5 u44 _ _ ls (ms_s (dec_up (nle_lt c10) (by rw [eq44, va_up_self])) hm5) hO hP hS (lv_sub hl [0, 1] rfl) hF
  exact L5 BIG u2 _ _ ls (big_up _ _) hO hP hS (lv_sub hl [0, 1] rfl) hF
theorem hd_X7_areTilesV : yX7_areTiles.cls = RX7 ∧ yX7_areTiles.cls ≠ "java/lang/invoke/MethodHandle" ∧ yX7_areTiles.cls ≠ "java/lang/invoke/VarHandle" ∧ (parseMethodDescriptor yX7_areTiles.desc).map (fun d => d.parameters.length) = some 1 := by decide +kernel
set_option maxHeartbeats 4000000 in
set_option maxRecDepth 100000 in
theorem c7_isDigit (l : Launch) {D : va_G} {G : CY} {ad : Nat → Nat} {B0 : Nat} (hA : adOK B0 ad) (σ : Nat → Nat → Int32) (u : Nat → Int32) (a : Int32) (hO : okM u) (hn : 0 ≤ a.toInt ∧ a.toInt ≤ 40) : Met l yX7_isDigit wsX7_isDigit { frames := 0, cells := 0, slots := 0, locals := 0 } (va_Pc [.ref (ad (279)), .int a] (Hp D G ad (va_up σ 16 u))) (va_Qi (fun (r : Int32) (_ : Unit) => r = f7_isDigit u a ∧ bl r) (fun (_ : Unit) => Ho D G ad (va_up σ 16 u)) (AA B0)) 0 0 (AA B0) := by
  refine Met.ofW (cc := cX7_isDigit) (maxL := 2) (ret := (some .boolean)) (by decide) rfl ?_
  intro p e s m args below meth c s₁ B hml hv
  obtain ⟨rfl, hP, hK, hN⟩ := hv
  have hx := B.exec
  have hb := B.bytes
  have hr := B.returns
  have hts := atoms_spec (ws := wsX7_isDigit) B.pre
  have hown : s.vm.findClass RX7 = some m.cls := findClass_of_methodNamed B.named
  have hlocks := B.notSynchronized
  have inX7 : ∀ w ∈ wsX70, w ∈ wsX7_isDigit := (fun w h => List.mem_cons_of_mem _ (List.mem_append_left _ (List.mem_append_right _ h)))
  have hP : va_P D vwCl (pool G ad (va_up σ 16 u)) s.heap := hP
  have hS : va_S (AA B0) s.heap s.heap [] := va_S.rf
  have hl := lv_entry ([.ref (ad (279)), .int a]) (n := 2) (Nat.le_of_ble_eq_true rfl)
  rw [lg_entry_eq]
  generalize (lg_sl ([.ref (ad (279)), .int a]) ++ List.replicate (2 - (lg_sl ([.ref (ad (279)), .int a])).length) Slot.unset).toArray = ls at hl ⊢
  have hl : lv_has ls 2 [(0, .ref (ad (279))), (1, .int a)] := hl
  obtain ⟨FF, hFF⟩ : ∃ z, z = f7_isDigit u a := ⟨_, rfl⟩
  have hF := hFF.symm
  rw [f7_isDigit] at hF
  refine lv_aload_n hx hb dX7_isDigit_0 rfl (lv_at hl 0 rfl) ?_
  refine va_get (D := D) (ci := 9) (C := RX7) (T := TX7) (N := 17) hx hb hts inX7 hown hK hP (279) c_279 rfl 14 (by decide) (hts (.fieldLink RX7 249 "TileRunnersModel" "at" "I") (List.mem_of_getElem? (i := 1) rfl)) (fun _ h9 => h9) rfl dX7_isDigit_1 ?_
  refine lv_iload_n hx hb dX7_isDigit_4 rfl (lv_at hl 1 rfl) ?_
  refine lv_icmp_ge (tgt := 40) hx hb dX7_isDigit_5 (by decide) (fun c5 => ?_) (fun c5 => ?_)
  · have hF := ift c5 hF
    refine lv_iconst (v := 0) hx hb dX7_isDigit_40 (by decide) ?_
    exact W.zret (v := 0) hx hb hr (bl_nar bl0) (fun t ht hW => ⟨⟨0, (), rfl, ⟨hF.trans hFF, bl0⟩, ho_of ht hP⟩, hS.F ht⟩) hS.2.2 dX7_isDigit_41
  · have hF := iff_ c5 hF
    refine lv_aload_n hx hb dX7_isDigit_8 rfl (lv_at hl 0 rfl) ?_
    refine va_get (D := D) (ci := 9) (C := RX7) (T := TX7) (N := 17) hx hb hts inX7 hown hK hP (279) c_279 rfl 10 (by decide) (hts (.fieldLink RX7 31 "TileRunnersModel" "text" "[C") (List.mem_of_getElem? (i := 2) rfl)) (fun _ h9 => h9) rfl dX7_isDigit_9 ?_
    refine lv_aload_n hx hb dX7_isDigit_12 rfl (lv_at hl 0 rfl) ?_
    refine va_get (D := D) (ci := 9) (C := RX7) (T := TX7) (N := 17) hx hb hts inX7 hown hK hP (279) c_279 rfl 14 (by decide) (hts (.fieldLink RX7 249 "TileRunnersModel" "at" "I") (List.mem_of_getElem? (i := 1) rfl)) (fun _ h9 => h9) rfl dX7_isDigit_13 ?_
    refine pcald (n := 40) (o := 500) (t := 500+(u 494).toNatClampNeg) (i := (u 494)) hx hb hK hP c_287 (at_in hO (nle_lt c5) hn) rfl dX7_isDigit_16 ?_
    refine lv_bipush (v := 48) hx hb dX7_isDigit_17 (by decide) ?_
    refine lv_icmp_lt (tgt := 40) hx hb dX7_isDigit_19 (by decide) (fun c19 => ?_) (fun c19 => ?_)
    · have hF := ift c19 hF
      refine lv_iconst (v := 0) hx hb dX7_isDigit_40 (by decide) ?_
      exact W.zret (v := 0) hx hb hr (bl_nar bl0) (fun t ht hW => ⟨⟨0, (), rfl, ⟨hF.trans hFF, bl0⟩, ho_of ht hP⟩, hS.F ht⟩) hS.2.2 dX7_isDigit_41
    · have hF := iff_ c19 hF
      refine lv_aload_n hx hb dX7_isDigit_22 rfl (lv_at hl 0 rfl) ?_
      refine va_get (D := D) (ci := 9) (C := RX7) (T := TX7) (N := 17) hx hb hts inX7 hown hK hP (279) c_279 rfl 10 (by decide) (hts (.fieldLink RX7 31 "TileRunnersModel" "text" "[C") (List.mem_of_getElem? (i := 2) rfl)) (fun _ h9 => h9) rfl dX7_isDigit_23 ?_
      refine lv_aload_n hx hb dX7_isDigit_26 rfl (lv_at hl 0 rfl) ?_
      refine va_get (D := D) (ci := 9) (C := RX7) (T := TX7) (N := 17) hx hb hts inX7 hown hK hP (279) c_279 rfl 14 (by decide) (hts (.fieldLink RX7 249 "TileRunnersModel" "at" "I") (List.mem_of_getElem? (i := 1) rfl)) (fun _ h9 => h9) rfl dX7_isDigit_27 ?_
      refine pcald (n := 40) (o := 500) (t := 500+(u 494).toNatClampNeg) (i := (u 494)) hx hb hK hP c_287 (at_in hO (nle_lt c5) hn) rfl dX7_isDigit_30 ?_
      refine lv_bipush (v := 57) hx hb dX7_isDigit_31 (by decide) ?_
      refine lv_icmp_gt (tgt := 40) hx hb dX7_isDigit_33 (by decide) (fun c33 => ?_) (fun c33 => ?_)
      · have hF := ift c33 hF
        refine lv_iconst (v := 0) hx hb dX7_isDigit_40 (by decide) ?_
        exact W.zret (v := 0) hx hb hr (bl_nar bl0) (fun t ht hW => ⟨⟨0, (), rfl, ⟨hF.trans hFF, bl0⟩, ho_of ht hP⟩, hS.F ht⟩) hS.2.2 dX7_isDigit_41
      · have hF := iff_ c33 hF
        refine lv_iconst (v := 1) hx hb dX7_isDigit_36 (by decide) ?_
        refine lv_goto (tgt := 41) hx hb dX7_isDigit_37 (by decide) ?_
        exact W.zret (v := 1) hx hb hr (bl_nar bl1) (fun t ht hW => ⟨⟨1, (), rfl, ⟨hF.trans hFF, bl1⟩, ho_of ht hP⟩, hS.F ht⟩) hS.2.2 dX7_isDigit_41
theorem hd_X7_isDigitV : yX7_isDigit.cls = RX7 ∧ yX7_isDigit.cls ≠ "java/lang/invoke/MethodHandle" ∧ yX7_isDigit.cls ≠ "java/lang/invoke/VarHandle" ∧ (parseMethodDescriptor yX7_isDigit.desc).map (fun d => d.parameters.length) = some 1 := by decide +kernel
set_option maxHeartbeats 4000000 in
set_option maxRecDepth 100000 in
theorem c7_readTiles (l : Launch) {D : va_G} {G : CY} {ad : Nat → Nat} {B0 : Nat} (hA : adOK B0 ad) (σ : Nat → Nat → Int32) (u : Nat → Int32) (a : Int32) (b : Int32) (hO : okM u) : Met l yX7_readTiles wsX7_readTiles { frames := 6, cells := 0, slots := 0, locals := 134 } (va_Pc [.ref (ad (279)), .int a, .int b] (Hp D G ad (va_up σ 16 u))) (va_Qi (fun (r : Int32) (z : Nat → Int32) => (r, z) = f7_readTiles u a b ∧ okM z) (fun (z : Nat → Int32) => Ho D G ad (va_up σ 16 z)) (AA B0)) 0 0 (AA B0) := by
  refine Met.ofW (cc := cX7_readTiles) (maxL := 6) (ret := (some .int)) (by decide) rfl ?_
  intro p e s m args below meth c s₁ B hml hv
  obtain ⟨rfl, hP, hK, hN⟩ := hv
  have hx := B.exec
  have hb := B.bytes
  have hr := B.returns
  have hts := atoms_spec (ws := wsX7_readTiles) B.pre
  have hown : s.vm.findClass RX7 = some m.cls := findClass_of_methodNamed B.named
  have hlocks := B.notSynchronized
  have inX7 : ∀ w ∈ wsX70, w ∈ wsX7_readTiles := (fun w h => List.mem_cons_of_mem _ (List.mem_append_left _ (List.mem_append_right _ h)))
  have hP : va_P D vwCl (pool G ad (va_up σ 16 u)) s.heap := hP
  have hS : va_S (AA B0) s.heap s.heap [] := va_S.rf
  have hl := lv_entry ([.ref (ad (279)), .int a, .int b]) (n := 6) (Nat.le_of_ble_eq_true rfl)
  rw [lg_entry_eq]
  generalize (lg_sl ([.ref (ad (279)), .int a, .int b]) ++ List.replicate (6 - (lg_sl ([.ref (ad (279)), .int a, .int b])).length) Slot.unset).toArray = ls at hl ⊢
  have hl : lv_has ls 6 [(0, .ref (ad (279))), (1, .int a), (2, .int b)] := hl
  obtain ⟨FF, hFF⟩ : ∃ z, z = f7_readTiles u a b := ⟨_, rfl⟩
  have hF := hFF.symm
  rw [f7_readTiles] at hF
  refine lv_aload_n hx hb dX7_readTiles_0 rfl (lv_at hl 0 rfl) ?_
  refine va_get (D := D) (ci := 9) (C := RX7) (T := TX7) (N := 17) hx hb hts inX7 hown hK hP (279) c_279 rfl 13 (by decide) (hts (.fieldLink RX7 246 "TileRunnersModel" "length" "I") (List.mem_of_getElem? (i := 1) rfl)) (fun _ h9 => h9) rfl dX7_readTiles_1 ?_
  refine lv_topi (fun v3_4 e_v3_4 => ?_)
  have hF := bnd_s e_v3_4 hF
  refine lv_istore_n (lv' := [(3, .int v3_4), (0, .ref (ad (279))), (1, .int a), (2, .int b)]) hx hb dX7_readTiles_4 rfl hl (by decide) rfl (fun ls hl => ?_)
  have hn3 : 0 ≤ v3_4.toInt ∧ v3_4.toInt ≤ 40 := by rw [e_v3_4]; exact hO.2.2.1
  refine lv_aload_n hx hb dX7_readTiles_5 rfl (lv_at hl 1 rfl) ?_
  refine lv_iconst (v := 0) hx hb dX7_readTiles_6 (by decide) ?_
  refine pput16 hx hb hts inX7 tyX7 tyX7_ok nmX7 hown hK hP hA hS (j := 279) (by decide) (by decide) rfl rfl 13 (by decide) (hts (.fieldLink RX7 246 "TileRunnersModel" "length" "I") (List.mem_of_getElem? (i := 1) rfl)) (fun _ h9 => h9) rfl (tyX7_ok 13 (by decide)) rfl rfl (Nat.le_of_ble_eq_true rfl) (493) (by decide) (setM_13) dX7_readTiles_7 (fun u9 H locs eu9 hP hS => ?_)
  obtain ⟨u7, e_u7⟩ : ∃ z, z = u9 := ⟨_, rfl⟩
  rw [← e_u7] at hP eu9
  have hF := bnd_s eu9 hF
  have hO := okM_493 eu9 hO (by decide)
  refine lv_iload_n hx hb dX7_readTiles_10 rfl (lv_at hl 2 rfl) ?_
  refine lv_iload_n hx hb dX7_readTiles_11 rfl (lv_at hl 3 rfl) ?_
  refine va_calli (va_runS (As := [.int a, .int b]) (rest := []) ⟨hx, hb, hml, hown, hts⟩ (c7_isTile l hA (va_up σ 16 u7) a b ) (va_cwS 2 hts gX7_readTiles_X7_isTile rfl rfl rfl hd_X7_isTileS ⟨Nat.le_of_ble_eq_true rfl, Nat.le_of_ble_eq_true rfl⟩) ⟨hp_blind, hp_pre hK hN hP⟩ rfl rfl hl.1 rfl (lv_room (Nat.le_of_ble_eq_true rfl)) dX7_readTiles_12 ⟨Nat.zero_le _, Nat.zero_le _⟩) hS (fun _ _ h => h) (fun _ h => h) (fun r12 _ t H locs ht hvm hw9 hB hz1 hk1 hS => ?_)
  have hP := ho_at ht hB
  obtain ⟨eq12, hb_r12⟩ := hw9
  have hF := bnd_s eq12 hF
  refine lv_if_ne (tgt := 24) hx hb dX7_readTiles_15 (by decide) (fun c15 => ?_) (fun c15 => ?_)
  · have hF := iff_ c15 hF
    have htl := tile_in eq12 c15
    refine lv_aload_n hx hb dX7_readTiles_24 rfl (lv_at hl 1 rfl) ?_
    refine lv_iload_n hx hb dX7_readTiles_25 rfl (lv_at hl 0 rfl) ?_
    refine va_calli (va_runV (As := [.int v3_4]) (rest := []) ⟨hx, hb, hml, hown, hts⟩ (c7_areTiles l hA σ u7 v3_4 hO hn3) (cwV 1 hts gX7_readTiles_X7_areTiles rfl rfl rfl hd_X7_areTilesV ⟨Nat.le_of_ble_eq_true rfl, Nat.le_of_ble_eq_true rfl⟩) ⟨hp_blind, va_recv hK hP (ci := 9) (q0 := 279) rfl c_279, hp_pre hK hN hP⟩ rfl rfl hl.1 rfl (lv_room (Nat.le_of_ble_eq_true rfl)) dX7_readTiles_26 ⟨Nat.zero_le _, Nat.zero_le _⟩) hS (fun _ _ h => h) (fun _ h => h) (fun r26 u9 t H locs ht hvm hw9 hB hz1 hk1 hS => ?_)
    have hP := ho_at ht hB
    obtain ⟨eq26, ok9, hb_r26⟩ := hw9
    obtain ⟨u26, e_u26⟩ : ∃ z, z = u9 := ⟨_, rfl⟩
    rw [← e_u26] at hP eq26 ok9
    have hO := ok9
    have hF := bnd2_s eq26 hF
    refine lv_istore (lv' := [(4, .int r26), (3, .int v3_4), (0, .ref (ad (279))), (1, .int a), (2, .int b)]) hx hb dX7_readTiles_29 hl (by decide) rfl (fun ls hl => ?_)
    refine lv_aload_n hx hb dX7_readTiles_31 rfl (lv_at hl 2 rfl) ?_
    refine lv_iload hx hb dX7_readTiles_32 (lv_at hl 0 rfl) ?_
    have J45 : ∀ (t0_45 : Int32) (H : Heap) (locs : List Loc) (ls : Array Slot), va_P D vwCl (pool G ad (va_up σ 16 u26)) H → va_S (AA B0) s.heap H locs → lv_has ls 6 [(4, .int r26), (3, .int v3_4), (0, .ref (ad (279))), (1, .int a), (2, .int b)] → f7_readTiles_b45 a b v3_4 r26 u26 t0_45 = FF → W p l e (headSpec wsX7_readTiles { frames := 6, cells := 0, slots := 0, locals := 134 }).room s m ([.ref (ad (279)), .int a, .int b] : List Value).toArray below meth c H locs 0 0 (MQ below (va_Qi (fun (r : Int32) (z : Nat → Int32) => (r, z) = f7_readTiles u a b ∧ okM z) (fun (z : Nat → Int32) => Ho D G ad (va_up σ 16 z)) (AA B0)) ([.ref (ad (279)), .int a, .int b] : List Value).toArray s 0 0 (AA B0)) (F0 m 45 ls [.int t0_45, .ref (ad (279))]) := by
      intro t0_45 H locs ls hP hS hl hF
      rw [f7_readTiles_b45] at hF
      refine pput16 hx hb hts inX7 tyX7 tyX7_ok nmX7 hown hK hP hA hS (j := 279) (by decide) (by decide) rfl rfl 16 (by decide) (hts (.fieldLink RX7 41 "TileRunnersModel" "faultAt" "I") (List.mem_of_getElem? (i := 3) rfl)) (fun _ h9 => h9) rfl (tyX7_ok 16 (by decide)) rfl rfl (Nat.le_of_ble_eq_true rfl) (496) (by decide) (setM_16) dX7_readTiles_45 (fun u9 H locs eu9 hP hS => ?_)
      obtain ⟨u45, e_u45⟩ : ∃ z, z = u9 := ⟨_, rfl⟩
      rw [← e_u45] at hP eu9
      have hF := bnd_s eu9 hF
      have hO := okM_up eu9 hO (by omega) (by omega) (by omega)
      refine lv_iload hx hb dX7_readTiles_48 (lv_at hl 0 rfl) ?_
      refine lv_if_ne (tgt := 59) hx hb dX7_readTiles_50 (by decide) (fun c50 => ?_) (fun c50 => ?_)
      · have hF := iff_ c50 hF
        refine lv_iload_n hx hb dX7_readTiles_59 rfl (lv_at hl 1 rfl) ?_
        refine lv_bipush (v := 24) hx hb dX7_readTiles_60 (by decide) ?_
        refine lv_iload_n hx hb dX7_readTiles_62 rfl (lv_at hl 3 rfl) ?_
        refine lv_isub hx hb dX7_readTiles_63 ?_
        refine lv_icmp_le (tgt := 73) hx hb dX7_readTiles_64 (by decide) (fun c64 => ?_) (fun c64 => ?_)
        · have hF := ift c64 hF
          refine lv_aload_n hx hb dX7_readTiles_73 rfl (lv_at hl 2 rfl) ?_
          refine va_get (D := D) (ci := 9) (C := RX7) (T := TX7) (N := 17) hx hb hts inX7 hown hK hP (279) c_279 rfl 1 (by decide) (hts (.fieldLink RX7 7 "TileRunnersModel" "world" "[I") (List.mem_of_getElem? (i := 4) rfl)) (fun _ h9 => h9) rfl dX7_readTiles_74 ?_
          refine lv_iconst (v := 0) hx hb dX7_readTiles_77 (by decide) ?_
          refine lv_aload_n hx hb dX7_readTiles_78 rfl (lv_at hl 2 rfl) ?_
          refine va_get (D := D) (ci := 9) (C := RX7) (T := TX7) (N := 17) hx hb hts inX7 hown hK hP (279) c_279 rfl 5 (by decide) (hts (.fieldLink RX7 22 "TileRunnersModel" "spare" "[I") (List.mem_of_getElem? (i := 5) rfl)) (fun _ h9 => h9) rfl dX7_readTiles_79 ?_
          refine lv_iconst (v := 0) hx hb dX7_readTiles_82 (by decide) ?_
          refine va_callv (va_runS (As := [.ref (ad (280)), .int 0, .ref (ad (284)), .int 0]) (rest := []) ⟨hx, hb, hml, hown, hts⟩ (c7_copies l hA σ u45 280 480 0 (by decide) (fun _ _ => rfl) (fun k9 hk9 => by unfold own16; repeat first | rw [if_pos (by omega)] | rw [if_neg (by omega)]) 0 284 480 600 (by decide) (fun _ _ => rfl) (fun k9 hk9 => by unfold own16; repeat first | rw [if_pos (by omega)] | rw [if_neg (by omega)]) 0 c480 c480) (va_cwS 4 hts gX7_readTiles_X7_copies rfl rfl rfl hd_X7_copiesS ⟨Nat.le_of_ble_eq_true rfl, Nat.le_of_ble_eq_true rfl⟩) ⟨hp_blind, hp_pre hK hN hP⟩ rfl rfl hl.1 rfl (lv_room (Nat.le_of_ble_eq_true rfl)) dX7_readTiles_83 ⟨Nat.zero_le _, Nat.zero_le _⟩) hS (fun _ _ h => h) (fun _ h => h) (fun u9 t H locs ht hvm hw9 hB hz1 hk1 hS => ?_)
          have hP := ho_at ht hB
          have eq83 := hw9
          obtain ⟨u83, e_u83⟩ : ∃ z, z = u9 := ⟨_, rfl⟩
          rw [← e_u83] at hP eq83
          have hO := ok_ws eq83 hO
          have hF := bnd_s eq83 hF
          refine lv_iconst (v := 0) hx hb dX7_readTiles_86 (by decide) ?_
          refine lv_istore (lv' := [(5, .int 0), (4, .int r26), (3, .int v3_4), (0, .ref (ad (279))), (1, .int a), (2, .int b)]) hx hb dX7_readTiles_87 hl (by decide) rfl (fun ls hl => ?_)
          have L89 : ∀ (n89 : Nat) (w5_89 : Int32) (u_89 : (Nat → Int32)) (H : Heap) (locs : List Loc) (ls : Array Slot), (v3_4.toInt - w5_89.toInt).toNat < n89 → 0 ≤ w5_89 → okM u_89 → va_P D vwCl (pool G ad (va_up σ 16 u_89)) H → va_S (AA B0) s.heap H locs → lv_has ls 6 [(5, .int w5_89), (3, .int v3_4), (0, .ref (ad (279))), (1, .int a), (2, .int b)] → f7_readTiles_L89 a b v3_4 n89 w5_89 u_89 = FF → W p l e (headSpec wsX7_readTiles { frames := 6, cells := 0, slots := 0, locals := 134 }).room s m ([.ref (ad (279)), .int a, .int b] : List Value).toArray below meth c H locs 0 0 (MQ below (va_Qi (fun (r : Int32) (z : Nat → Int32) => (r, z) = f7_readTiles u a b ∧ okM z) (fun (z : Nat → Int32) => Ho D G ad (va_up σ 16 z)) (AA B0)) ([.ref (ad (279)), .int a, .int b] : List Value).toArray s 0 0 (AA B0)) (F0 m 89 ls []) := by
            intro n89
            induction n89 with
            | zero => intro w5_89 u_89 H locs ls hm; exact absurd hm (Nat.not_lt_zero _)
            | succ n89 ih89 =>
              intro w5_89 u_89 H locs ls hm89 h5 hO hP hS hl hF
              rw [f7_readTiles_L89] at hF
              refine lv_iload hx hb dX7_readTiles_89 (lv_at hl 0 rfl) ?_
              refine lv_iload_n hx hb dX7_readTiles_91 rfl (lv_at hl 1 rfl) ?_
              refine lv_icmp_ge (tgt := 125) hx hb dX7_readTiles_92 (by decide) (fun c92 => ?_) (fun c92 => ?_)
              · have hF := ift c92 hF
                refine lv_aload_n hx hb dX7_readTiles_125 rfl (lv_at hl 2 rfl) ?_
                refine va_calli (va_runV (As := []) (rest := []) ⟨hx, hb, hml, hown, hts⟩ (c7_isAnyBlocked l hA σ u_89  hO) (cwV 0 hts gX7_readTiles_X7_isAnyBlocked rfl rfl rfl hd_X7_isAnyBlockedV ⟨Nat.le_of_ble_eq_true rfl, Nat.le_of_ble_eq_true rfl⟩) ⟨hp_blind, va_recv hK hP (ci := 9) (q0 := 279) rfl c_279, hp_pre hK hN hP⟩ rfl rfl hl.1 rfl (lv_room (Nat.le_of_ble_eq_true rfl)) dX7_readTiles_126 ⟨Nat.zero_le _, Nat.zero_le _⟩) hS (fun _ _ h => h) (fun _ h => h) (fun r126 _ t H locs ht hvm hw9 hB hz1 hk1 hS => ?_)
                have hP := ho_at ht hB
                obtain ⟨eq126, hb_r126⟩ := hw9
                have hF := bnd_s eq126 hF
                refine lv_if_eq (tgt := 151) hx hb dX7_readTiles_129 (by decide) (fun c129 => ?_) (fun c129 => ?_)
                · have hF := ift c129 hF
                  refine lv_aload_n hx hb dX7_readTiles_151 rfl (lv_at hl 2 rfl) ?_
                  refine lv_iconst (v := 0) hx hb dX7_readTiles_152 (by decide) ?_
                  refine pput16 hx hb hts inX7 tyX7 tyX7_ok nmX7 hown hK hP hA hS (j := 279) (by decide) (by decide) rfl rfl 0 (by decide) (hts (.fieldLink RX7 45 "TileRunnersModel" "thrown" "I") (List.mem_of_getElem? (i := 7) rfl)) (fun _ h9 => h9) rfl (tyX7_ok 0 (by decide)) rfl rfl (Nat.le_of_ble_eq_true rfl) (490) (by decide) (setM_0) dX7_readTiles_153 (fun u9 H locs eu9 hP hS => ?_)
                  obtain ⟨u153, e_u153⟩ : ∃ z, z = u9 := ⟨_, rfl⟩
                  rw [← e_u153] at hP eu9
                  have hF := bnd_s eu9 hF
                  have hO := okM_up eu9 hO (by omega) (by omega) (by omega)
                  refine lv_aload_n hx hb dX7_readTiles_156 rfl (lv_at hl 2 rfl) ?_
                  refine lv_iconst (v := 0) hx hb dX7_readTiles_157 (by decide) ?_
                  refine pput16 hx hb hts inX7 tyX7 tyX7_ok nmX7 hown hK hP hA hS (j := 279) (by decide) (by decide) rfl rfl 8 (by decide) (hts (.fieldLink RX7 208 "TileRunnersModel" "kept" "I") (List.mem_of_getElem? (i := 8) rfl)) (fun _ h9 => h9) rfl (tyX7_ok 8 (by decide)) rfl rfl (Nat.le_of_ble_eq_true rfl) (491) (by decide) (setM_8) dX7_readTiles_158 (fun u9 H locs eu9 hP hS => ?_)
                  obtain ⟨u158, e_u158⟩ : ∃ z, z = u9 := ⟨_, rfl⟩
                  rw [← e_u158] at hP eu9
                  have hF := bnd_s eu9 hF
                  have hO := okM_491 eu9 hO (by decide)
                  refine lv_iload_n hx hb dX7_readTiles_161 rfl (lv_at hl 1 rfl) ?_
                  exact W.iret (v := v3_4) hx hb hr (fun t ht hW => ⟨⟨v3_4, u158, rfl, ⟨hF.trans hFF, hO⟩, ho_of ht hP⟩, hS.F ht⟩) hS.2.2 dX7_readTiles_162
                · have hF := iff_ c129 hF
                  refine lv_aload_n hx hb dX7_readTiles_132 rfl (lv_at hl 2 rfl) ?_
                  refine va_get (D := D) (ci := 9) (C := RX7) (T := TX7) (N := 17) hx hb hts inX7 hown hK hP (279) c_279 rfl 5 (by decide) (hts (.fieldLink RX7 22 "TileRunnersModel" "spare" "[I") (List.mem_of_getElem? (i := 5) rfl)) (fun _ h9 => h9) rfl dX7_readTiles_133 ?_
                  refine lv_iconst (v := 0) hx hb dX7_readTiles_136 (by decide) ?_
                  refine lv_aload_n hx hb dX7_readTiles_137 rfl (lv_at hl 2 rfl) ?_
                  refine va_get (D := D) (ci := 9) (C := RX7) (T := TX7) (N := 17) hx hb hts inX7 hown hK hP (279) c_279 rfl 1 (by decide) (hts (.fieldLink RX7 7 "TileRunnersModel" "world" "[I") (List.mem_of_getElem? (i := 4) rfl)) (fun _ h9 => h9) rfl dX7_readTiles_138 ?_
                  refine lv_iconst (v := 0) hx hb dX7_readTiles_141 (by decide) ?_
                  refine va_callv (va_runS (As := [.ref (ad (284)), .int 0, .ref (ad (280)), .int 0]) (rest := []) ⟨hx, hb, hml, hown, hts⟩ (c7_copies l hA σ u_89 284 480 600 (by decide) (fun _ _ => rfl) (fun k9 hk9 => by unfold own16; repeat first | rw [if_pos (by omega)] | rw [if_neg (by omega)]) 0 280 480 0 (by decide) (fun _ _ => rfl) (fun k9 hk9 => by unfold own16; repeat first | rw [if_pos (by omega)] | rw [if_neg (by omega)]) 0 c480 c480) (va_cwS 4 hts gX7_readTiles_X7_copies rfl rfl rfl hd_X7_copiesS ⟨Nat.le_of_ble_eq_true rfl, Nat.le_of_ble_eq_true rfl⟩) ⟨hp_blind, hp_pre hK hN hP⟩ rfl rfl hl.1 rfl (lv_room (Nat.le_of_ble_eq_true rfl)) dX7_readTiles_142 ⟨Nat.zero_le _, Nat.zero_le _⟩) hS (fun _ _ h => h) (fun _ h => h) (fun u9 t H locs ht hvm hw9 hB hz1 hk1 hS => ?_)
                  have hP := ho_at ht hB
                  have eq142 := hw9
                  obtain ⟨u142, e_u142⟩ : ∃ z, z = u9 := ⟨_, rfl⟩
                  rw [← e_u142] at hP eq142
                  have hO := ok_sw eq142 hO
                  have hF := bnd_s eq142 hF
                  refine lv_aload_n hx hb dX7_readTiles_145 rfl (lv_at hl 2 rfl) ?_
                  refine lv_iconst (v := 3) hx hb dX7_readTiles_146 (by decide) ?_
                  refine va_calli (va_runV (As := [.int 3]) (rest := []) ⟨hx, hb, hml, hown, hts⟩ (c7_fails l hA σ u142 3 hO) (cwV 1 hts gX7_readTiles_X7_fails rfl rfl rfl hd_X7_failsV ⟨Nat.le_of_ble_eq_true rfl, Nat.le_of_ble_eq_true rfl⟩) ⟨hp_blind, va_recv hK hP (ci := 9) (q0 := 279) rfl c_279, hp_pre hK hN hP⟩ rfl rfl hl.1 rfl (lv_room (Nat.le_of_ble_eq_true rfl)) dX7_readTiles_147 ⟨Nat.zero_le _, Nat.zero_le _⟩) hS (fun _ _ h => h) (fun _ h => h) (fun r147 u9 t H locs ht hvm hw9 hB hz1 hk1 hS => ?_)
                  have hP := ho_at ht hB
                  obtain ⟨eq147, ok9⟩ := hw9
                  obtain ⟨u147, e_u147⟩ : ∃ z, z = u9 := ⟨_, rfl⟩
                  rw [← e_u147] at hP eq147 ok9
                  have hO := ok9
                  have hF := bnd2_s eq147 hF
                  exact W.iret (v := r147) hx hb hr (fun t ht hW => ⟨⟨r147, u147, rfl, ⟨hF.trans hFF, hO⟩, ho_of ht hP⟩, hS.F ht⟩) hS.2.2 dX7_readTiles_150
              · have hF := iff_ c92 hF
                have hv5 : vp_in w5_89 40 := in_n h5 (nle_lt c92) hn3.2
                have hlt5 := rt_lt htl c64 h5 (nle_lt c92)
                refine lv_aload_n hx hb dX7_readTiles_95 rfl (lv_at hl 2 rfl) ?_
                refine va_get (D := D) (ci := 9) (C := RX7) (T := TX7) (N := 17) hx hb hts inX7 hown hK hP (279) c_279 rfl 1 (by decide) (hts (.fieldLink RX7 7 "TileRunnersModel" "world" "[I") (List.mem_of_getElem? (i := 4) rfl)) (fun _ h9 => h9) rfl dX7_readTiles_96 ?_
                refine lv_bipush (v := 24) hx hb dX7_readTiles_99 (by decide) ?_
                refine lv_iload_n hx hb dX7_readTiles_101 rfl (lv_at hl 4 rfl) ?_
                refine lv_imul hx hb dX7_readTiles_102 ?_
                refine lv_iload_n hx hb dX7_readTiles_103 rfl (lv_at hl 3 rfl) ?_
                refine lv_iadd hx hb dX7_readTiles_104 ?_
                refine lv_iload hx hb dX7_readTiles_105 (lv_at hl 0 rfl) ?_
                refine lv_iadd hx hb dX7_readTiles_107 ?_
                refine lv_aload_n hx hb dX7_readTiles_108 rfl (lv_at hl 2 rfl) ?_
                refine va_get (D := D) (ci := 9) (C := RX7) (T := TX7) (N := 17) hx hb hts inX7 hown hK hP (279) c_279 rfl 10 (by decide) (hts (.fieldLink RX7 31 "TileRunnersModel" "text" "[C") (List.mem_of_getElem? (i := 6) rfl)) (fun _ h9 => h9) rfl dX7_readTiles_109 ?_
                refine lv_iload hx hb dX7_readTiles_112 (lv_at hl 0 rfl) ?_
                refine pcald (n := 40) (o := 500) (t := 500+w5_89.toNatClampNeg) (i := w5_89) hx hb hK hP c_287 hv5 rfl dX7_readTiles_114 ?_
                refine va_calli (va_runS (As := [.int (u_89 (500+w5_89.toNatClampNeg))]) (rest := [.int (((24 * b) + a) + w5_89), .ref (ad (280))]) ⟨hx, hb, hml, hown, hts⟩ (c7_kindOf l hA (va_up σ 16 u_89) (u_89 (500+w5_89.toNatClampNeg)) ) (va_cwS 1 hts gX7_readTiles_X7_kindOf rfl rfl rfl hd_X7_kindOfS ⟨Nat.le_of_ble_eq_true rfl, Nat.le_of_ble_eq_true rfl⟩) ⟨hp_blind, hp_pre hK hN hP⟩ rfl rfl hl.1 rfl (lv_room (Nat.le_of_ble_eq_true rfl)) dX7_readTiles_115 ⟨Nat.zero_le _, Nat.zero_le _⟩) hS (fun _ _ h => h) (fun _ h => h) (fun r115 _ t H locs ht hvm hw9 hB hz1 hk1 hS => ?_)
                have hP := ho_at ht hB
                have eq115 := hw9
                have hF := bnd_s eq115 hF
                have hin9 : vp_in (((24 * b) + a) + w5_89) 480 := (rt_in htl c64 h5 (nle_lt c92))
                refine past16 (n := 480) (o := 0) (t := (((24 * b) + a) + w5_89).toNatClampNeg) hx hb hK hP hA hS (j := 280) (by decide) (by decide) (fun _ _ => rfl) (fun k9 hk9 => by unfold own16; repeat first | rw [if_pos (by omega)] | rw [if_neg (by omega)]) hin9 (Nat.zero_add _) dX7_readTiles_118 (fun u9 H locs eu9 hP hS => ?_)
                have hlt9 := in_lt hin9
                obtain ⟨u118, e_u118⟩ : ∃ z, z = u9 := ⟨_, rfl⟩
                rw [← e_u118] at hP eu9
                have hF := bnd_s eu9 hF
                have hO := okM_up eu9 hO (by omega) (by omega) (by omega)
                obtain ⟨v5_119, e_v5_119⟩ : ∃ z : Int32, z = w5_89 + 1 := ⟨_, rfl⟩
                have hF := bnd_s e_v5_119 hF
                refine lv_iinc (v := v5_119) (lv' := [(5, .int v5_119), (3, .int v3_4), (0, .ref (ad (279))), (1, .int a), (2, .int b)]) hx hb dX7_readTiles_119 hl (k := 0) rfl (by rw [e_v5_119]; rfl) (by decide) rfl (fun ls hl => ?_)
                refine lv_goto (tgt := 89) hx hb dX7_readTiles_122 (by decide) ?_
                exact ih89 v5_119 u118 _ _ ls (ms_s (dec_up (nle_lt c92) e_v5_119) hm89) (ge0_in hv5 (by decide) e_v5_119) hO hP hS (lv_sub hl [0, 1, 2, 3, 4] rfl) hF
          exact L89 BIG 0 u83 _ _ ls (big_up _ _) le0 hO hP hS (lv_sub hl [0, 2, 3, 4, 5] rfl) hF
        · have hF := iff_ c64 hF
          refine lv_aload_n hx hb dX7_readTiles_67 rfl (lv_at hl 2 rfl) ?_
          refine lv_iconst (v := 3) hx hb dX7_readTiles_68 (by decide) ?_
          refine va_calli (va_runV (As := [.int 3]) (rest := []) ⟨hx, hb, hml, hown, hts⟩ (c7_fails l hA σ u45 3 hO) (cwV 1 hts gX7_readTiles_X7_fails rfl rfl rfl hd_X7_failsV ⟨Nat.le_of_ble_eq_true rfl, Nat.le_of_ble_eq_true rfl⟩) ⟨hp_blind, va_recv hK hP (ci := 9) (q0 := 279) rfl c_279, hp_pre hK hN hP⟩ rfl rfl hl.1 rfl (lv_room (Nat.le_of_ble_eq_true rfl)) dX7_readTiles_69 ⟨Nat.zero_le _, Nat.zero_le _⟩) hS (fun _ _ h => h) (fun _ h => h) (fun r69 u9 t H locs ht hvm hw9 hB hz1 hk1 hS => ?_)
          have hP := ho_at ht hB
          obtain ⟨eq69, ok9⟩ := hw9
          obtain ⟨u69, e_u69⟩ : ∃ z, z = u9 := ⟨_, rfl⟩
          rw [← e_u69] at hP eq69 ok9
          have hO := ok9
          have hF := bnd2_s eq69 hF
          exact W.iret (v := r69) hx hb hr (fun t ht hW => ⟨⟨r69, u69, rfl, ⟨hF.trans hFF, hO⟩, ho_of ht hP⟩, hS.F ht⟩) hS.2.2 dX7_readTiles_72
      · have hF := ift c50 hF
        refine lv_aload_n hx hb dX7_readTiles_53 rfl (lv_at hl 2 rfl) ?_
        refine lv_iconst (v := 2) hx hb dX7_readTiles_54 (by decide) ?_
        refine va_calli (va_runV (As := [.int 2]) (rest := []) ⟨hx, hb, hml, hown, hts⟩ (c7_fails l hA σ u45 2 hO) (cwV 1 hts gX7_readTiles_X7_fails rfl rfl rfl hd_X7_failsV ⟨Nat.le_of_ble_eq_true rfl, Nat.le_of_ble_eq_true rfl⟩) ⟨hp_blind, va_recv hK hP (ci := 9) (q0 := 279) rfl c_279, hp_pre hK hN hP⟩ rfl rfl hl.1 rfl (lv_room (Nat.le_of_ble_eq_true rfl)) dX7_readTiles_55 ⟨Nat.zero_le _, Nat.zero_le _⟩) hS (fun _ _ h => h) (fun _ h => h) (fun r55 u9 t H locs ht hvm hw9 hB hz1 hk1 hS => ?_)
        have hP := ho_at ht hB
        obtain ⟨eq55, ok9⟩ := hw9
        obtain ⟨u55, e_u55⟩ : ∃ z, z = u9 := ⟨_, rfl⟩
        rw [← e_u55] at hP eq55 ok9
        have hO := ok9
        have hF := bnd2_s eq55 hF
        exact W.iret (v := r55) hx hb hr (fun t ht hW => ⟨⟨r55, u55, rfl, ⟨hF.trans hFF, hO⟩, ho_of ht hP⟩, hS.F ht⟩) hS.2.2 dX7_readTiles_58
    refine lv_if_eq (tgt := 41) hx hb dX7_readTiles_34 (by decide) (fun c34 => ?_) (fun c34 => ?_)
    · have hF := ift c34 hF
      refine lv_aload_n hx hb dX7_readTiles_41 rfl (lv_at hl 2 rfl) ?_
      refine va_get (D := D) (ci := 9) (C := RX7) (T := TX7) (N := 17) hx hb hts inX7 hown hK hP (279) c_279 rfl 14 (by decide) (hts (.fieldLink RX7 249 "TileRunnersModel" "at" "I") (List.mem_of_getElem? (i := 2) rfl)) (fun _ h9 => h9) rfl dX7_readTiles_42 ?_
      exact J45 (u26 494) _ _ ls hP hS (lv_sub hl [0, 1, 2, 3, 4] rfl) hF
    · have hF := iff_ c34 hF
      refine lv_iconst (v := (-1)) hx hb dX7_readTiles_37 (by decide) ?_
      refine lv_goto (tgt := 45) hx hb dX7_readTiles_38 (by decide) ?_
      exact J45 (-1) _ _ ls hP hS (lv_sub hl [0, 1, 2, 3, 4] rfl) hF
  · have hF := ift c15 hF
    refine lv_aload_n hx hb dX7_readTiles_18 rfl (lv_at hl 1 rfl) ?_
    refine lv_iconst (v := 1) hx hb dX7_readTiles_19 (by decide) ?_
    refine va_calli (va_runV (As := [.int 1]) (rest := []) ⟨hx, hb, hml, hown, hts⟩ (c7_fails l hA σ u7 1 hO) (cwV 1 hts gX7_readTiles_X7_fails rfl rfl rfl hd_X7_failsV ⟨Nat.le_of_ble_eq_true rfl, Nat.le_of_ble_eq_true rfl⟩) ⟨hp_blind, va_recv hK hP (ci := 9) (q0 := 279) rfl c_279, hp_pre hK hN hP⟩ rfl rfl hl.1 rfl (lv_room (Nat.le_of_ble_eq_true rfl)) dX7_readTiles_20 ⟨Nat.zero_le _, Nat.zero_le _⟩) hS (fun _ _ h => h) (fun _ h => h) (fun r20 u9 t H locs ht hvm hw9 hB hz1 hk1 hS => ?_)
    have hP := ho_at ht hB
    obtain ⟨eq20, ok9⟩ := hw9
    obtain ⟨u20, e_u20⟩ : ∃ z, z = u9 := ⟨_, rfl⟩
    rw [← e_u20] at hP eq20 ok9
    have hO := ok9
    have hF := bnd2_s eq20 hF
    exact W.iret (v := r20) hx hb hr (fun t ht hW => ⟨⟨r20, u20, rfl, ⟨hF.trans hFF, hO⟩, ho_of ht hP⟩, hS.F ht⟩) hS.2.2 dX7_readTiles_23
theorem hd_X7_readTilesV : yX7_readTiles.cls = RX7 ∧ yX7_readTiles.cls ≠ "java/lang/invoke/MethodHandle" ∧ yX7_readTiles.cls ≠ "java/lang/invoke/VarHandle" ∧ (parseMethodDescriptor yX7_readTiles.desc).map (fun d => d.parameters.length) = some 2 := by decide +kernel
set_option maxHeartbeats 4000000 in
set_option maxRecDepth 100000 in
theorem c7_save (l : Launch) {D : va_G} {G : CY} {ad : Nat → Nat} {B0 : Nat} (hA : adOK B0 ad) (σ : Nat → Nat → Int32) (u : Nat → Int32)  (hO : okM u) : Met l yX7_save wsX7_save { frames := 1, cells := 0, slots := 0, locals := 24 } (va_Pc [.ref (ad (279))] (Hp D G ad (va_up σ 16 u))) (va_Qv (fun (z : Nat → Int32) => z = f7_save u ∧ okM z) (fun (z : Nat → Int32) => Ho D G ad (va_up σ 16 z)) (AA B0)) 0 0 (AA B0) := by
  refine Met.ofW (cc := cX7_save) (maxL := 2) (ret := none) (by decide) rfl ?_
  intro p e s m args below meth c s₁ B hml hv
  obtain ⟨rfl, hP, hK, hN⟩ := hv
  have hx := B.exec
  have hb := B.bytes
  have hr := B.returns
  have hts := atoms_spec (ws := wsX7_save) B.pre
  have hown : s.vm.findClass RX7 = some m.cls := findClass_of_methodNamed B.named
  have hlocks := B.notSynchronized
  have inX7 : ∀ w ∈ wsX70, w ∈ wsX7_save := (fun w h => List.mem_cons_of_mem _ (List.mem_append_left _ (List.mem_append_right _ h)))
  have hP : va_P D vwCl (pool G ad (va_up σ 16 u)) s.heap := hP
  have hS : va_S (AA B0) s.heap s.heap [] := va_S.rf
  have hl := lv_entry ([.ref (ad (279))]) (n := 2) (Nat.le_of_ble_eq_true rfl)
  rw [lg_entry_eq]
  generalize (lg_sl ([.ref (ad (279))]) ++ List.replicate (2 - (lg_sl ([.ref (ad (279))])).length) Slot.unset).toArray = ls at hl ⊢
  have hl : lv_has ls 2 [(0, .ref (ad (279)))] := hl
  obtain ⟨FF, hFF⟩ : ∃ z, z = f7_save u := ⟨_, rfl⟩
  have hF := hFF.symm
  rw [f7_save] at hF
  refine lv_aload_n hx hb dX7_save_0 rfl (lv_at hl 0 rfl) ?_
  refine lv_iconst (v := 0) hx hb dX7_save_1 (by decide) ?_
  refine pput16 hx hb hts inX7 tyX7 tyX7_ok nmX7 hown hK hP hA hS (j := 279) (by decide) (by decide) rfl rfl 0 (by decide) (hts (.fieldLink RX7 45 "TileRunnersModel" "thrown" "I") (List.mem_of_getElem? (i := 1) rfl)) (fun _ h9 => h9) rfl (tyX7_ok 0 (by decide)) rfl rfl (Nat.le_of_ble_eq_true rfl) (490) (by decide) (setM_0) dX7_save_2 (fun u9 H locs eu9 hP hS => ?_)
  obtain ⟨u2, e_u2⟩ : ∃ z, z = u9 := ⟨_, rfl⟩
  rw [← e_u2] at hP eu9
  have hF := bnd_s eu9 hF
  have hO := okM_up eu9 hO (by omega) (by omega) (by omega)
  refine lv_aload_n hx hb dX7_save_5 rfl (lv_at hl 0 rfl) ?_
  refine lv_iconst (v := 1) hx hb dX7_save_6 (by decide) ?_
  refine pput16 hx hb hts inX7 tyX7 tyX7_ok nmX7 hown hK hP hA hS (j := 279) (by decide) (by decide) rfl rfl 9 (by decide) (hts (.fieldLink RX7 271 "TileRunnersModel" "isSaved" "Z") (List.mem_of_getElem? (i := 2) rfl)) (fun _ h9 => h9) rfl (tyX7_ok 9 (by decide)) (bl_nar bl1) (bl_fit bl1) (Nat.le_of_ble_eq_true rfl) (492) (by decide) (setM_9 (bl_nb bl1)) dX7_save_7 (fun u9 H locs eu9 hP hS => ?_)
  obtain ⟨u7, e_u7⟩ : ∃ z, z = u9 := ⟨_, rfl⟩
  rw [← e_u7] at hP eu9
  have hF := bnd_s eu9 hF
  have hO := okM_up eu9 hO (by omega) (by omega) (by omega)
  refine lv_aload_n hx hb dX7_save_10 rfl (lv_at hl 0 rfl) ?_
  refine va_get (D := D) (ci := 9) (C := RX7) (T := TX7) (N := 17) hx hb hts inX7 hown hK hP (279) c_279 rfl 1 (by decide) (hts (.fieldLink RX7 7 "TileRunnersModel" "world" "[I") (List.mem_of_getElem? (i := 3) rfl)) (fun _ h9 => h9) rfl dX7_save_11 ?_
  refine lv_iconst (v := 0) hx hb dX7_save_14 (by decide) ?_
  refine lv_aload_n hx hb dX7_save_15 rfl (lv_at hl 0 rfl) ?_
  refine va_get (D := D) (ci := 9) (C := RX7) (T := TX7) (N := 17) hx hb hts inX7 hown hK hP (279) c_279 rfl 6 (by decide) (hts (.fieldLink RX7 25 "TileRunnersModel" "saved" "[I") (List.mem_of_getElem? (i := 4) rfl)) (fun _ h9 => h9) rfl dX7_save_16 ?_
  refine lv_iconst (v := 0) hx hb dX7_save_19 (by decide) ?_
  refine va_callv (va_runS (As := [.ref (ad (280)), .int 0, .ref (ad (285)), .int 0]) (rest := []) ⟨hx, hb, hml, hown, hts⟩ (c7_copies l hA σ u7 280 480 0 (by decide) (fun _ _ => rfl) (fun k9 hk9 => by unfold own16; repeat first | rw [if_pos (by omega)] | rw [if_neg (by omega)]) 0 285 480 1100 (by decide) (fun _ _ => rfl) (fun k9 hk9 => by unfold own16; repeat first | rw [if_pos (by omega)] | rw [if_neg (by omega)]) 0 c480 c480) (va_cwS 4 hts gX7_save_X7_copies rfl rfl rfl hd_X7_copiesS ⟨Nat.le_of_ble_eq_true rfl, Nat.le_of_ble_eq_true rfl⟩) ⟨hp_blind, hp_pre hK hN hP⟩ rfl rfl hl.1 rfl (lv_room (Nat.le_of_ble_eq_true rfl)) dX7_save_20 ⟨Nat.zero_le _, Nat.zero_le _⟩) hS (fun _ _ h => h) (fun _ h => h) (fun u9 t H locs ht hvm hw9 hB hz1 hk1 hS => ?_)
  have hP := ho_at ht hB
  have eq20 := hw9
  obtain ⟨u20, e_u20⟩ : ∃ z, z = u9 := ⟨_, rfl⟩
  rw [← e_u20] at hP eq20
  have hO := ok_wv eq20 hO
  have hF := bnd_s eq20 hF
  refine lv_iconst (v := 0) hx hb dX7_save_23 (by decide) ?_
  refine lv_istore_n (lv' := [(1, .int 0), (0, .ref (ad (279)))]) hx hb dX7_save_24 rfl hl (by decide) rfl (fun ls hl => ?_)
  have L25 : ∀ (n25 : Nat) (w1_25 : Int32) (u_25 : (Nat → Int32)) (H : Heap) (locs : List Loc) (ls : Array Slot), ((4 : Int32).toInt - w1_25.toInt).toNat < n25 → 0 ≤ w1_25 → okM u_25 → va_P D vwCl (pool G ad (va_up σ 16 u_25)) H → va_S (AA B0) s.heap H locs → lv_has ls 2 [(1, .int w1_25), (0, .ref (ad (279)))] → f7_save_L25 n25 w1_25 u_25 = FF → W p l e (headSpec wsX7_save { frames := 1, cells := 0, slots := 0, locals := 24 }).room s m ([.ref (ad (279))] : List Value).toArray below meth c H locs 0 0 (MQ below (va_Qv (fun (z : Nat → Int32) => z = f7_save u ∧ okM z) (fun (z : Nat → Int32) => Ho D G ad (va_up σ 16 z)) (AA B0)) ([.ref (ad (279))] : List Value).toArray s 0 0 (AA B0)) (F0 m 25 ls []) := by
    intro n25
    induction n25 with
    | zero => intro w1_25 u_25 H locs ls hm; exact absurd hm (Nat.not_lt_zero _)
    | succ n25 ih25 =>
      intro w1_25 u_25 H locs ls hm25 h1 hO hP hS hl hF
      rw [f7_save_L25] at hF
      refine lv_iload_n hx hb dX7_save_25 rfl (lv_at hl 0 rfl) ?_
      refine lv_iconst (v := 4) hx hb dX7_save_26 (by decide) ?_
      refine lv_icmp_ge (tgt := 48) hx hb dX7_save_27 (by decide) (fun c27 => ?_) (fun c27 => ?_)
      · have hF := ift c27 hF
        exact W.vret hx hb hr (fun t ht hW => ⟨⟨u_25, rfl, ⟨hF.trans hFF, hO⟩, ho_of ht hP⟩, hS.F ht⟩) hS.2.2 dX7_save_48
      · have hF := iff_ c27 hF
        have hv1 : vp_in w1_25 4 := in_n h1 (nle_lt c27) (by decide)
        refine lv_aload_n hx hb dX7_save_30 rfl (lv_at hl 1 rfl) ?_
        refine va_get (D := D) (ci := 9) (C := RX7) (T := TX7) (N := 17) hx hb hts inX7 hown hK hP (279) c_279 rfl 7 (by decide) (hts (.fieldLink RX7 28 "TileRunnersModel" "savedSetting" "[I") (List.mem_of_getElem? (i := 5) rfl)) (fun _ h9 => h9) rfl dX7_save_31 ?_
        refine lv_iload_n hx hb dX7_save_34 rfl (lv_at hl 0 rfl) ?_
        refine lv_aload_n hx hb dX7_save_35 rfl (lv_at hl 1 rfl) ?_
        refine va_get (D := D) (ci := 9) (C := RX7) (T := TX7) (N := 17) hx hb hts inX7 hown hK hP (279) c_279 rfl 2 (by decide) (hts (.fieldLink RX7 13 "TileRunnersModel" "setting" "[I") (List.mem_of_getElem? (i := 6) rfl)) (fun _ h9 => h9) rfl dX7_save_36 ?_
        refine lv_iload_n hx hb dX7_save_39 rfl (lv_at hl 0 rfl) ?_
        refine pald (n := 4) (o := 480) (t := 480+w1_25.toNatClampNeg) (i := w1_25) hx hb hK hP c_281 hv1 rfl dX7_save_40 ?_
        have hin9 : vp_in w1_25 4 := hv1
        refine past16 (n := 4) (o := 580) (t := 580+w1_25.toNatClampNeg) hx hb hK hP hA hS (j := 286) (by decide) (by decide) (fun _ _ => rfl) (fun k9 hk9 => by unfold own16; repeat first | rw [if_pos (by omega)] | rw [if_neg (by omega)]) hin9 rfl dX7_save_41 (fun u9 H locs eu9 hP hS => ?_)
        have hlt9 := in_lt hin9
        obtain ⟨u41, e_u41⟩ : ∃ z, z = u9 := ⟨_, rfl⟩
        rw [← e_u41] at hP eu9
        have hF := bnd_s eu9 hF
        have hO := okM_up eu9 hO (by omega) (by omega) (by omega)
        obtain ⟨v1_42, e_v1_42⟩ : ∃ z : Int32, z = w1_25 + 1 := ⟨_, rfl⟩
        have hF := bnd_s e_v1_42 hF
        refine lv_iinc (v := v1_42) (lv' := [(1, .int v1_42), (0, .ref (ad (279)))]) hx hb dX7_save_42 hl (k := 0) rfl (by rw [e_v1_42]; rfl) (by decide) rfl (fun ls hl => ?_)
        refine lv_goto (tgt := 25) hx hb dX7_save_45 (by decide) ?_
        exact ih25 v1_42 u41 _ _ ls (ms_s (dec_up (nle_lt c27) e_v1_42) hm25) (ge0_i4 hv1 e_v1_42) hO hP hS (lv_sub hl [0, 1] rfl) hF
  exact L25 BIG 0 u20 _ _ ls (big_up _ _) le0 hO hP hS (lv_sub hl [0, 1] rfl) hF
theorem hd_X7_saveV : yX7_save.cls = RX7 ∧ yX7_save.cls ≠ "java/lang/invoke/MethodHandle" ∧ yX7_save.cls ≠ "java/lang/invoke/VarHandle" ∧ (parseMethodDescriptor yX7_save.desc).map (fun d => d.parameters.length) = some 0 := by decide +kernel
set_option maxHeartbeats 4000000 in
set_option maxRecDepth 100000 in
theorem c7_restore (l : Launch) {D : va_G} {G : CY} {ad : Nat → Nat} {B0 : Nat} (hA : adOK B0 ad) (σ : Nat → Nat → Int32) (u : Nat → Int32)  (hO : okM u) : Met l yX7_restore wsX7_restore { frames := 1, cells := 0, slots := 0, locals := 24 } (va_Pc [.ref (ad (279))] (Hp D G ad (va_up σ 16 u))) (va_Qv (fun (z : Nat → Int32) => z = f7_restore u ∧ okM z) (fun (z : Nat → Int32) => Ho D G ad (va_up σ 16 z)) (AA B0)) 0 0 (AA B0) := by
  refine Met.ofW (cc := cX7_restore) (maxL := 2) (ret := none) (by decide) rfl ?_
  intro p e s m args below meth c s₁ B hml hv
  obtain ⟨rfl, hP, hK, hN⟩ := hv
  have hx := B.exec
  have hb := B.bytes
  have hr := B.returns
  have hts := atoms_spec (ws := wsX7_restore) B.pre
  have hown : s.vm.findClass RX7 = some m.cls := findClass_of_methodNamed B.named
  have hlocks := B.notSynchronized
  have inX7 : ∀ w ∈ wsX70, w ∈ wsX7_restore := (fun w h => List.mem_cons_of_mem _ (List.mem_append_left _ (List.mem_append_right _ h)))
  have hP : va_P D vwCl (pool G ad (va_up σ 16 u)) s.heap := hP
  have hS : va_S (AA B0) s.heap s.heap [] := va_S.rf
  have hl := lv_entry ([.ref (ad (279))]) (n := 2) (Nat.le_of_ble_eq_true rfl)
  rw [lg_entry_eq]
  generalize (lg_sl ([.ref (ad (279))]) ++ List.replicate (2 - (lg_sl ([.ref (ad (279))])).length) Slot.unset).toArray = ls at hl ⊢
  have hl : lv_has ls 2 [(0, .ref (ad (279)))] := hl
  obtain ⟨FF, hFF⟩ : ∃ z, z = f7_restore u := ⟨_, rfl⟩
  have hF := hFF.symm
  rw [f7_restore] at hF
  refine lv_aload_n hx hb dX7_restore_0 rfl (lv_at hl 0 rfl) ?_
  refine lv_aload_n hx hb dX7_restore_1 rfl (lv_at hl 0 rfl) ?_
  refine va_get (D := D) (ci := 9) (C := RX7) (T := TX7) (N := 17) hx hb hts inX7 hown hK hP (279) c_279 rfl 9 (by decide) (hts (.fieldLink RX7 271 "TileRunnersModel" "isSaved" "Z") (List.mem_of_getElem? (i := 1) rfl)) (fun _ h9 => h9) rfl dX7_restore_2 ?_
  have J13 : ∀ (t0_13 : Int32) (H : Heap) (locs : List Loc) (ls : Array Slot), bl t0_13 → va_P D vwCl (pool G ad (va_up σ 16 u)) H → va_S (AA B0) s.heap H locs → lv_has ls 2 [(0, .ref (ad (279)))] → f7_restore_b13 u t0_13 = FF → W p l e (headSpec wsX7_restore { frames := 1, cells := 0, slots := 0, locals := 24 }).room s m ([.ref (ad (279))] : List Value).toArray below meth c H locs 0 0 (MQ below (va_Qv (fun (z : Nat → Int32) => z = f7_restore u ∧ okM z) (fun (z : Nat → Int32) => Ho D G ad (va_up σ 16 z)) (AA B0)) ([.ref (ad (279))] : List Value).toArray s 0 0 (AA B0)) (F0 m 13 ls [.int t0_13, .ref (ad (279))]) := by
    intro t0_13 H locs ls hb_t0_13 hP hS hl hF
    rw [f7_restore_b13] at hF
    refine pput16 hx hb hts inX7 tyX7 tyX7_ok nmX7 hown hK hP hA hS (j := 279) (by decide) (by decide) rfl rfl 0 (by decide) (hts (.fieldLink RX7 45 "TileRunnersModel" "thrown" "I") (List.mem_of_getElem? (i := 2) rfl)) (fun _ h9 => h9) rfl (tyX7_ok 0 (by decide)) rfl rfl (Nat.le_of_ble_eq_true rfl) (490) (by decide) (setM_0) dX7_restore_13 (fun u9 H locs eu9 hP hS => ?_)
    obtain ⟨u13, e_u13⟩ : ∃ z, z = u9 := ⟨_, rfl⟩
    rw [← e_u13] at hP eu9
    have hF := bnd_s eu9 hF
    have hO := okM_up eu9 hO (by omega) (by omega) (by omega)
    refine lv_aload_n hx hb dX7_restore_16 rfl (lv_at hl 0 rfl) ?_
    refine va_get (D := D) (ci := 9) (C := RX7) (T := TX7) (N := 17) hx hb hts inX7 hown hK hP (279) c_279 rfl 9 (by decide) (hts (.fieldLink RX7 271 "TileRunnersModel" "isSaved" "Z") (List.mem_of_getElem? (i := 1) rfl)) (fun _ h9 => h9) rfl dX7_restore_17 ?_
    refine lv_if_ne (tgt := 24) hx hb dX7_restore_20 (by decide) (fun c20 => ?_) (fun c20 => ?_)
    · have hF := iff_ c20 hF
      refine lv_aload_n hx hb dX7_restore_24 rfl (lv_at hl 0 rfl) ?_
      refine lv_iconst (v := 0) hx hb dX7_restore_25 (by decide) ?_
      refine pput16 hx hb hts inX7 tyX7 tyX7_ok nmX7 hown hK hP hA hS (j := 279) (by decide) (by decide) rfl rfl 8 (by decide) (hts (.fieldLink RX7 208 "TileRunnersModel" "kept" "I") (List.mem_of_getElem? (i := 3) rfl)) (fun _ h9 => h9) rfl (tyX7_ok 8 (by decide)) rfl rfl (Nat.le_of_ble_eq_true rfl) (491) (by decide) (setM_8) dX7_restore_26 (fun u9 H locs eu9 hP hS => ?_)
      obtain ⟨u26, e_u26⟩ : ∃ z, z = u9 := ⟨_, rfl⟩
      rw [← e_u26] at hP eu9
      have hF := bnd_s eu9 hF
      have hO := okM_491 eu9 hO (by decide)
      refine lv_aload_n hx hb dX7_restore_29 rfl (lv_at hl 0 rfl) ?_
      refine va_get (D := D) (ci := 9) (C := RX7) (T := TX7) (N := 17) hx hb hts inX7 hown hK hP (279) c_279 rfl 6 (by decide) (hts (.fieldLink RX7 25 "TileRunnersModel" "saved" "[I") (List.mem_of_getElem? (i := 4) rfl)) (fun _ h9 => h9) rfl dX7_restore_30 ?_
      refine lv_iconst (v := 0) hx hb dX7_restore_33 (by decide) ?_
      refine lv_aload_n hx hb dX7_restore_34 rfl (lv_at hl 0 rfl) ?_
      refine va_get (D := D) (ci := 9) (C := RX7) (T := TX7) (N := 17) hx hb hts inX7 hown hK hP (279) c_279 rfl 1 (by decide) (hts (.fieldLink RX7 7 "TileRunnersModel" "world" "[I") (List.mem_of_getElem? (i := 5) rfl)) (fun _ h9 => h9) rfl dX7_restore_35 ?_
      refine lv_iconst (v := 0) hx hb dX7_restore_38 (by decide) ?_
      refine va_callv (va_runS (As := [.ref (ad (285)), .int 0, .ref (ad (280)), .int 0]) (rest := []) ⟨hx, hb, hml, hown, hts⟩ (c7_copies l hA σ u26 285 480 1100 (by decide) (fun _ _ => rfl) (fun k9 hk9 => by unfold own16; repeat first | rw [if_pos (by omega)] | rw [if_neg (by omega)]) 0 280 480 0 (by decide) (fun _ _ => rfl) (fun k9 hk9 => by unfold own16; repeat first | rw [if_pos (by omega)] | rw [if_neg (by omega)]) 0 c480 c480) (va_cwS 4 hts gX7_restore_X7_copies rfl rfl rfl hd_X7_copiesS ⟨Nat.le_of_ble_eq_true rfl, Nat.le_of_ble_eq_true rfl⟩) ⟨hp_blind, hp_pre hK hN hP⟩ rfl rfl hl.1 rfl (lv_room (Nat.le_of_ble_eq_true rfl)) dX7_restore_39 ⟨Nat.zero_le _, Nat.zero_le _⟩) hS (fun _ _ h => h) (fun _ h => h) (fun u9 t H locs ht hvm hw9 hB hz1 hk1 hS => ?_)
      have hP := ho_at ht hB
      have eq39 := hw9
      obtain ⟨u39, e_u39⟩ : ∃ z, z = u9 := ⟨_, rfl⟩
      rw [← e_u39] at hP eq39
      have hO := ok_vw eq39 hO
      have hF := bnd_s eq39 hF
      refine lv_iconst (v := 0) hx hb dX7_restore_42 (by decide) ?_
      refine lv_istore_n (lv' := [(1, .int 0), (0, .ref (ad (279)))]) hx hb dX7_restore_43 rfl hl (by decide) rfl (fun ls hl => ?_)
      have L44 : ∀ (n44 : Nat) (w1_44 : Int32) (u_44 : (Nat → Int32)) (H : Heap) (locs : List Loc) (ls : Array Slot), ((4 : Int32).toInt - w1_44.toInt).toNat < n44 → 0 ≤ w1_44 → okM u_44 → va_P D vwCl (pool G ad (va_up σ 16 u_44)) H → va_S (AA B0) s.heap H locs → lv_has ls 2 [(1, .int w1_44), (0, .ref (ad (279)))] → f7_restore_L44 n44 w1_44 u_44 = FF → W p l e (headSpec wsX7_restore { frames := 1, cells := 0, slots := 0, locals := 24 }).room s m ([.ref (ad (279))] : List Value).toArray below meth c H locs 0 0 (MQ below (va_Qv (fun (z : Nat → Int32) => z = f7_restore u ∧ okM z) (fun (z : Nat → Int32) => Ho D G ad (va_up σ 16 z)) (AA B0)) ([.ref (ad (279))] : List Value).toArray s 0 0 (AA B0)) (F0 m 44 ls []) := by
        intro n44
        induction n44 with
        | zero => intro w1_44 u_44 H locs ls hm; exact absurd hm (Nat.not_lt_zero _)
        | succ n44 ih44 =>
          intro w1_44 u_44 H locs ls hm44 h1 hO hP hS hl hF
          rw [f7_restore_L44] at hF
          refine lv_iload_n hx hb dX7_restore_44 rfl (lv_at hl 0 rfl) ?_
          refine lv_iconst (v := 4) hx hb dX7_restore_45 (by decide) ?_
          refine lv_icmp_ge (tgt := 67) hx hb dX7_restore_46 (by decide) (fun c46 => ?_) (fun c46 => ?_)
          · have hF := ift c46 hF
            exact W.vret hx hb hr (fun t ht hW => ⟨⟨u_44, rfl, ⟨hF.trans hFF, hO⟩, ho_of ht hP⟩, hS.F ht⟩) hS.2.2 dX7_restore_67
          · have hF := iff_ c46 hF
            have hv1 : vp_in w1_44 4 := in_n h1 (nle_lt c46) (by decide)
            refine lv_aload_n hx hb dX7_restore_49 rfl (lv_at hl 1 rfl) ?_
            refine va_get (D := D) (ci := 9) (C := RX7) (T := TX7) (N := 17) hx hb hts inX7 hown hK hP (279) c_279 rfl 2 (by decide) (hts (.fieldLink RX7 13 "TileRunnersModel" "setting" "[I") (List.mem_of_getElem? (i := 6) rfl)) (fun _ h9 => h9) rfl dX7_restore_50 ?_
            refine lv_iload_n hx hb dX7_restore_53 rfl (lv_at hl 0 rfl) ?_
            refine lv_aload_n hx hb dX7_restore_54 rfl (lv_at hl 1 rfl) ?_
            refine va_get (D := D) (ci := 9) (C := RX7) (T := TX7) (N := 17) hx hb hts inX7 hown hK hP (279) c_279 rfl 7 (by decide) (hts (.fieldLink RX7 28 "TileRunnersModel" "savedSetting" "[I") (List.mem_of_getElem? (i := 7) rfl)) (fun _ h9 => h9) rfl dX7_restore_55 ?_
            refine lv_iload_n hx hb dX7_restore_58 rfl (lv_at hl 0 rfl) ?_
            refine pald (n := 4) (o := 580) (t := 580+w1_44.toNatClampNeg) (i := w1_44) hx hb hK hP c_286 hv1 rfl dX7_restore_59 ?_
            have hin9 : vp_in w1_44 4 := hv1
            refine past16 (n := 4) (o := 480) (t := 480+w1_44.toNatClampNeg) hx hb hK hP hA hS (j := 281) (by decide) (by decide) (fun _ _ => rfl) (fun k9 hk9 => by unfold own16; repeat first | rw [if_pos (by omega)] | rw [if_neg (by omega)]) hin9 rfl dX7_restore_60 (fun u9 H locs eu9 hP hS => ?_)
            have hlt9 := in_lt hin9
            obtain ⟨u60, e_u60⟩ : ∃ z, z = u9 := ⟨_, rfl⟩
            rw [← e_u60] at hP eu9
            have hF := bnd_s eu9 hF
            have hO := okM_up eu9 hO (by omega) (by omega) (by omega)
            obtain ⟨v1_61, e_v1_61⟩ : ∃ z : Int32, z = w1_44 + 1 := ⟨_, rfl⟩
            have hF := bnd_s e_v1_61 hF
            refine lv_iinc (v := v1_61) (lv' := [(1, .int v1_61), (0, .ref (ad (279)))]) hx hb dX7_restore_61 hl (k := 0) rfl (by rw [e_v1_61]; rfl) (by decide) rfl (fun ls hl => ?_)
            refine lv_goto (tgt := 44) hx hb dX7_restore_64 (by decide) ?_
            exact ih44 v1_61 u60 _ _ ls (ms_s (dec_up (nle_lt c46) e_v1_61) hm44) (ge0_i4 hv1 e_v1_61) hO hP hS (lv_sub hl [0, 1] rfl) hF
      exact L44 BIG 0 u39 _ _ ls (big_up _ _) le0 hO hP hS (lv_sub hl [0, 1] rfl) hF
    · have hF := ift c20 hF
      exact W.vret hx hb hr (fun t ht hW => ⟨⟨u13, rfl, ⟨hF.trans hFF, hO⟩, ho_of ht hP⟩, hS.F ht⟩) hS.2.2 dX7_restore_23
  refine lv_if_eq (tgt := 12) hx hb dX7_restore_5 (by decide) (fun c5 => ?_) (fun c5 => ?_)
  · have hF := ift c5 hF
    refine lv_iconst (v := 1) hx hb dX7_restore_12 (by decide) ?_
    exact J13 1 _ _ ls bl1 hP hS (lv_sub hl [0] rfl) hF
  · have hF := iff_ c5 hF
    refine lv_iconst (v := 0) hx hb dX7_restore_8 (by decide) ?_
    refine lv_goto (tgt := 13) hx hb dX7_restore_9 (by decide) ?_
    exact J13 0 _ _ ls bl0 hP hS (lv_sub hl [0] rfl) hF
theorem hd_X7_restoreV : yX7_restore.cls = RX7 ∧ yX7_restore.cls ≠ "java/lang/invoke/MethodHandle" ∧ yX7_restore.cls ≠ "java/lang/invoke/VarHandle" ∧ (parseMethodDescriptor yX7_restore.desc).map (fun d => d.parameters.length) = some 0 := by decide +kernel
set_option maxHeartbeats 4000000 in
set_option maxRecDepth 100000 in
theorem c7_faultPosition (l : Launch) {D : va_G} {G : CY} {ad : Nat → Nat} {B0 : Nat} (hA : adOK B0 ad) (σ : Nat → Nat → Int32) (u : Nat → Int32)  (hO : okM u) : Met l yX7_faultPosition wsX7_faultPosition { frames := 0, cells := 0, slots := 0, locals := 0 } (va_Pc [.ref (ad (279))] (Hp D G ad (va_up σ 16 u))) (va_Qi (fun (r : Int32) (z : Nat → Int32) => (r, z) = f7_faultPosition u ∧ okM z) (fun (z : Nat → Int32) => Ho D G ad (va_up σ 16 z)) (AA B0)) 0 0 (AA B0) := by
  refine Met.ofW (cc := cX7_faultPosition) (maxL := 1) (ret := (some .int)) (by decide) rfl ?_
  intro p e s m args below meth c s₁ B hml hv
  obtain ⟨rfl, hP, hK, hN⟩ := hv
  have hx := B.exec
  have hb := B.bytes
  have hr := B.returns
  have hts := atoms_spec (ws := wsX7_faultPosition) B.pre
  have hown : s.vm.findClass RX7 = some m.cls := findClass_of_methodNamed B.named
  have hlocks := B.notSynchronized
  have inX7 : ∀ w ∈ wsX70, w ∈ wsX7_faultPosition := (fun w h => List.mem_cons_of_mem _ (List.mem_append_right _ h))
  have hP : va_P D vwCl (pool G ad (va_up σ 16 u)) s.heap := hP
  have hS : va_S (AA B0) s.heap s.heap [] := va_S.rf
  have hl := lv_entry ([.ref (ad (279))]) (n := 1) (Nat.le_of_ble_eq_true rfl)
  rw [lg_entry_eq]
  generalize (lg_sl ([.ref (ad (279))]) ++ List.replicate (1 - (lg_sl ([.ref (ad (279))])).length) Slot.unset).toArray = ls at hl ⊢
  have hl : lv_has ls 1 [(0, .ref (ad (279)))] := hl
  obtain ⟨FF, hFF⟩ : ∃ z, z = f7_faultPosition u := ⟨_, rfl⟩
  have hF := hFF.symm
  rw [f7_faultPosition] at hF
  refine lv_aload_n hx hb dX7_faultPosition_0 rfl (lv_at hl 0 rfl) ?_
  refine lv_iconst (v := 0) hx hb dX7_faultPosition_1 (by decide) ?_
  refine pput16 hx hb hts inX7 tyX7 tyX7_ok nmX7 hown hK hP hA hS (j := 279) (by decide) (by decide) rfl rfl 0 (by decide) (hts (.fieldLink RX7 45 "TileRunnersModel" "thrown" "I") (List.mem_of_getElem? (i := 1) rfl)) (fun _ h9 => h9) rfl (tyX7_ok 0 (by decide)) rfl rfl (Nat.le_of_ble_eq_true rfl) (490) (by decide) (setM_0) dX7_faultPosition_2 (fun u9 H locs eu9 hP hS => ?_)
  obtain ⟨u2, e_u2⟩ : ∃ z, z = u9 := ⟨_, rfl⟩
  rw [← e_u2] at hP eu9
  have hF := bnd_s eu9 hF
  have hO := okM_up eu9 hO (by omega) (by omega) (by omega)
  refine lv_aload_n hx hb dX7_faultPosition_5 rfl (lv_at hl 0 rfl) ?_
  refine va_get (D := D) (ci := 9) (C := RX7) (T := TX7) (N := 17) hx hb hts inX7 hown hK hP (279) c_279 rfl 16 (by decide) (hts (.fieldLink RX7 41 "TileRunnersModel" "faultAt" "I") (List.mem_of_getElem? (i := 2) rfl)) (fun _ h9 => h9) rfl dX7_faultPosition_6 ?_
  exact W.iret (v := (u2 496)) hx hb hr (fun t ht hW => ⟨⟨(u2 496), u2, rfl, ⟨hF.trans hFF, hO⟩, ho_of ht hP⟩, hS.F ht⟩) hS.2.2 dX7_faultPosition_9
theorem hd_X7_faultPositionV : yX7_faultPosition.cls = RX7 ∧ yX7_faultPosition.cls ≠ "java/lang/invoke/MethodHandle" ∧ yX7_faultPosition.cls ≠ "java/lang/invoke/VarHandle" ∧ (parseMethodDescriptor yX7_faultPosition.desc).map (fun d => d.parameters.length) = some 0 := by decide +kernel
set_option maxHeartbeats 4000000 in
set_option maxRecDepth 100000 in
theorem c7_areInputs (l : Launch) {D : va_G} {G : CY} {ad : Nat → Nat} {B0 : Nat} (hA : adOK B0 ad) (σ : Nat → Nat → Int32) (u : Nat → Int32) (a : Int32) (hO : okM u) (hn : 0 ≤ a.toInt ∧ a.toInt ≤ 40) : Met l yX7_areInputs wsX7_areInputs { frames := 1, cells := 0, slots := 0, locals := 21 } (va_Pc [.ref (ad (279)), .int a] (Hp D G ad (va_up σ 16 u))) (va_Qi (fun (r : Int32) (z : Nat → Int32) => (r, z) = f7_areInputs u a ∧ okM z ∧ bl r) (fun (z : Nat → Int32) => Ho D G ad (va_up σ 16 z)) (AA B0)) 0 0 (AA B0) := by
  refine Met.ofW (cc := cX7_areInputs) (maxL := 2) (ret := (some .boolean)) (by decide) rfl ?_
  intro p e s m args below meth c s₁ B hml hv
  obtain ⟨rfl, hP, hK, hN⟩ := hv
  have hx := B.exec
  have hb := B.bytes
  have hr := B.returns
  have hts := atoms_spec (ws := wsX7_areInputs) B.pre
  have hown : s.vm.findClass RX7 = some m.cls := findClass_of_methodNamed B.named
  have hlocks := B.notSynchronized
  have inX7 : ∀ w ∈ wsX70, w ∈ wsX7_areInputs := (fun w h => List.mem_cons_of_mem _ (List.mem_append_left _ (List.mem_append_right _ h)))
  have hP : va_P D vwCl (pool G ad (va_up σ 16 u)) s.heap := hP
  have hS : va_S (AA B0) s.heap s.heap [] := va_S.rf
  have hl := lv_entry ([.ref (ad (279)), .int a]) (n := 2) (Nat.le_of_ble_eq_true rfl)
  rw [lg_entry_eq]
  generalize (lg_sl ([.ref (ad (279)), .int a]) ++ List.replicate (2 - (lg_sl ([.ref (ad (279)), .int a])).length) Slot.unset).toArray = ls at hl ⊢
  have hl : lv_has ls 2 [(0, .ref (ad (279))), (1, .int a)] := hl
  obtain ⟨FF, hFF⟩ : ∃ z, z = f7_areInputs u a := ⟨_, rfl⟩
  have hF := hFF.symm
  rw [f7_areInputs] at hF
  refine lv_aload_n hx hb dX7_areInputs_0 rfl (lv_at hl 0 rfl) ?_
  refine lv_iconst (v := 0) hx hb dX7_areInputs_1 (by decide) ?_
  refine pput16 hx hb hts inX7 tyX7 tyX7_ok nmX7 hown hK hP hA hS (j := 279) (by decide) (by decide) rfl rfl 14 (by decide) (hts (.fieldLink RX7 249 "TileRunnersModel" "at" "I") (List.mem_of_getElem? (i := 1) rfl)) (fun _ h9 => h9) rfl (tyX7_ok 14 (by decide)) rfl rfl (Nat.le_of_ble_eq_true rfl) (494) (by decide) (setM_14) dX7_areInputs_2 (fun u9 H locs eu9 hP hS => ?_)
  obtain ⟨u2, e_u2⟩ : ∃ z, z = u9 := ⟨_, rfl⟩
  rw [← e_u2] at hP eu9
  have hF := bnd_s eu9 hF
  have eq2 := eu9
  have hO := okM_494 eu9 hO (by decide)
  refine lv_aload_n hx hb dX7_areInputs_5 rfl (lv_at hl 0 rfl) ?_
  refine lv_iconst (v := 0) hx hb dX7_areInputs_6 (by decide) ?_
  refine pput16 hx hb hts inX7 tyX7 tyX7_ok nmX7 hown hK hP hA hS (j := 279) (by decide) (by decide) rfl rfl 15 (by decide) (hts (.fieldLink RX7 259 "TileRunnersModel" "commands" "I") (List.mem_of_getElem? (i := 2) rfl)) (fun _ h9 => h9) rfl (tyX7_ok 15 (by decide)) rfl rfl (Nat.le_of_ble_eq_true rfl) (495) (by decide) (setM_15) dX7_areInputs_7 (fun u9 H locs eu9 hP hS => ?_)
  obtain ⟨u7, e_u7⟩ : ∃ z, z = u9 := ⟨_, rfl⟩
  rw [← e_u7] at hP eu9
  have hF := bnd_s eu9 hF
  have eq7 := eu9
  have hO := okM_495 eu9 hO (by decide)
  have L10 : ∀ (n10 : Nat) (u_10 : (Nat → Int32)) (H : Heap) (locs : List Loc) (ls : Array Slot), (a.toInt - (u_10 494).toInt).toNat < n10 → (u_10 494).toInt ≤ a.toInt → 2 * (u_10 495).toInt ≤ (u_10 494).toInt → okM u_10 → va_P D vwCl (pool G ad (va_up σ 16 u_10)) H → va_S (AA B0) s.heap H locs → lv_has ls 2 [(0, .ref (ad (279))), (1, .int a)] → f7_areInputs_L10 a n10 u_10 = FF → W p l e (headSpec wsX7_areInputs { frames := 1, cells := 0, slots := 0, locals := 21 }).room s m ([.ref (ad (279)), .int a] : List Value).toArray below meth c H locs 0 0 (MQ below (va_Qi (fun (r : Int32) (z : Nat → Int32) => (r, z) = f7_areInputs u a ∧ okM z ∧ bl r) (fun (z : Nat → Int32) => Ho D G ad (va_up σ 16 z)) (AA B0)) ([.ref (ad (279)), .int a] : List Value).toArray s 0 0 (AA B0)) (F0 m 10 ls []) := by
    intro n10
    induction n10 with
    | zero => intro u_10 H locs ls hm; exact absurd hm (Nat.not_lt_zero _)
    | succ n10 ih10 =>
      intro u_10 H locs ls hm10 h94 h95 hO hP hS hl hF
      rw [f7_areInputs_L10] at hF
      refine lv_aload_n hx hb dX7_areInputs_10 rfl (lv_at hl 0 rfl) ?_
      refine va_get (D := D) (ci := 9) (C := RX7) (T := TX7) (N := 17) hx hb hts inX7 hown hK hP (279) c_279 rfl 14 (by decide) (hts (.fieldLink RX7 249 "TileRunnersModel" "at" "I") (List.mem_of_getElem? (i := 1) rfl)) (fun _ h9 => h9) rfl dX7_areInputs_11 ?_
      refine lv_iload_n hx hb dX7_areInputs_14 rfl (lv_at hl 1 rfl) ?_
      refine lv_icmp_eq (tgt := 33) hx hb dX7_areInputs_15 (by decide) (fun c15 => ?_) (fun c15 => ?_)
      · have hF := ift c15 hF
        refine lv_iconst (v := 0) hx hb dX7_areInputs_33 (by decide) ?_
        exact W.zret (v := 0) hx hb hr (bl_nar bl0) (fun t ht hW => ⟨⟨0, u_10, rfl, ⟨hF.trans hFF, hO, bl0⟩, ho_of ht hP⟩, hS.F ht⟩) hS.2.2 dX7_areInputs_34
      · have hF := iff_ c15 hF
        have hat0 := at_ne hO h94 c15 hn
        have hat := hat0.1
        refine lv_aload_n hx hb dX7_areInputs_18 rfl (lv_at hl 0 rfl) ?_
        refine va_get (D := D) (ci := 9) (C := RX7) (T := TX7) (N := 17) hx hb hts inX7 hown hK hP (279) c_279 rfl 10 (by decide) (hts (.fieldLink RX7 31 "TileRunnersModel" "text" "[C") (List.mem_of_getElem? (i := 3) rfl)) (fun _ h9 => h9) rfl dX7_areInputs_19 ?_
        refine lv_aload_n hx hb dX7_areInputs_22 rfl (lv_at hl 0 rfl) ?_
        refine va_get (D := D) (ci := 9) (C := RX7) (T := TX7) (N := 17) hx hb hts inX7 hown hK hP (279) c_279 rfl 14 (by decide) (hts (.fieldLink RX7 249 "TileRunnersModel" "at" "I") (List.mem_of_getElem? (i := 1) rfl)) (fun _ h9 => h9) rfl dX7_areInputs_23 ?_
        refine pcald (n := 40) (o := 500) (t := 500+(u_10 494).toNatClampNeg) (i := (u_10 494)) hx hb hK hP c_287 hat rfl dX7_areInputs_26 ?_
        refine va_calli (va_runS (As := [.int (u_10 (500+(u_10 494).toNatClampNeg))]) (rest := []) ⟨hx, hb, hml, hown, hts⟩ (c7_keysFor l hA (va_up σ 16 u_10) (u_10 (500+(u_10 494).toNatClampNeg)) ) (va_cwS 1 hts gX7_areInputs_X7_keysFor rfl rfl rfl hd_X7_keysForS ⟨Nat.le_of_ble_eq_true rfl, Nat.le_of_ble_eq_true rfl⟩) ⟨hp_blind, hp_pre hK hN hP⟩ rfl rfl hl.1 rfl (lv_room (Nat.le_of_ble_eq_true rfl)) dX7_areInputs_27 ⟨Nat.zero_le _, Nat.zero_le _⟩) hS (fun _ _ h => h) (fun _ h => h) (fun r27 _ t H locs ht hvm hw9 hB hz1 hk1 hS => ?_)
        have hP := ho_at ht hB
        have eq27 := hw9
        have hF := bnd_s eq27 hF
        refine lv_if_ge (tgt := 35) hx hb dX7_areInputs_30 (by decide) (fun c30 => ?_) (fun c30 => ?_)
        · have hF := ift c30 hF
          have hcm : vp_in (u_10 495) 20 := cm_ne hat h95 hO.2.2.2.2.1.1
          refine lv_aload_n hx hb dX7_areInputs_35 rfl (lv_at hl 0 rfl) ?_
          refine va_get (D := D) (ci := 9) (C := RX7) (T := TX7) (N := 17) hx hb hts inX7 hown hK hP (279) c_279 rfl 11 (by decide) (hts (.fieldLink RX7 35 "TileRunnersModel" "keysOf" "[I") (List.mem_of_getElem? (i := 4) rfl)) (fun _ h9 => h9) rfl dX7_areInputs_36 ?_
          refine lv_aload_n hx hb dX7_areInputs_39 rfl (lv_at hl 0 rfl) ?_
          refine va_get (D := D) (ci := 9) (C := RX7) (T := TX7) (N := 17) hx hb hts inX7 hown hK hP (279) c_279 rfl 15 (by decide) (hts (.fieldLink RX7 259 "TileRunnersModel" "commands" "I") (List.mem_of_getElem? (i := 2) rfl)) (fun _ h9 => h9) rfl dX7_areInputs_40 ?_
          refine lv_aload_n hx hb dX7_areInputs_43 rfl (lv_at hl 0 rfl) ?_
          refine va_get (D := D) (ci := 9) (C := RX7) (T := TX7) (N := 17) hx hb hts inX7 hown hK hP (279) c_279 rfl 10 (by decide) (hts (.fieldLink RX7 31 "TileRunnersModel" "text" "[C") (List.mem_of_getElem? (i := 3) rfl)) (fun _ h9 => h9) rfl dX7_areInputs_44 ?_
          refine lv_aload_n hx hb dX7_areInputs_47 rfl (lv_at hl 0 rfl) ?_
          refine va_get (D := D) (ci := 9) (C := RX7) (T := TX7) (N := 17) hx hb hts inX7 hown hK hP (279) c_279 rfl 14 (by decide) (hts (.fieldLink RX7 249 "TileRunnersModel" "at" "I") (List.mem_of_getElem? (i := 1) rfl)) (fun _ h9 => h9) rfl dX7_areInputs_48 ?_
          refine pcald (n := 40) (o := 500) (t := 500+(u_10 494).toNatClampNeg) (i := (u_10 494)) hx hb hK hP c_287 hat rfl dX7_areInputs_51 ?_
          refine va_calli (va_runS (As := [.int (u_10 (500+(u_10 494).toNatClampNeg))]) (rest := [.int (u_10 495), .ref (ad (288))]) ⟨hx, hb, hml, hown, hts⟩ (c7_keysFor l hA (va_up σ 16 u_10) (u_10 (500+(u_10 494).toNatClampNeg)) ) (va_cwS 1 hts gX7_areInputs_X7_keysFor rfl rfl rfl hd_X7_keysForS ⟨Nat.le_of_ble_eq_true rfl, Nat.le_of_ble_eq_true rfl⟩) ⟨hp_blind, hp_pre hK hN hP⟩ rfl rfl hl.1 rfl (lv_room (Nat.le_of_ble_eq_true rfl)) dX7_areInputs_52 ⟨Nat.zero_le _, Nat.zero_le _⟩) hS (fun _ _ h => h) (fun _ h => h) (fun r52 _ t H locs ht hvm hw9 hB hz1 hk1 hS => ?_)
          have hP := ho_at ht hB
          have eq52 := hw9
          have hF := bnd_s eq52 hF
          have hin9 : vp_in (u_10 495) 20 := hcm
          refine past16 (n := 20) (o := 540) (t := 540+(u_10 495).toNatClampNeg) hx hb hK hP hA hS (j := 288) (by decide) (by decide) (fun _ _ => rfl) (fun k9 hk9 => by unfold own16; repeat first | rw [if_pos (by omega)] | rw [if_neg (by omega)]) hin9 rfl dX7_areInputs_55 (fun u9 H locs eu9 hP hS => ?_)
          have hlt9 := in_lt hin9
          obtain ⟨u55, e_u55⟩ : ∃ z, z = u9 := ⟨_, rfl⟩
          rw [← e_u55] at hP eu9
          have hF := bnd_s eu9 hF
          have eq55 := eu9
          have hO := okM_up eu9 hO (by omega) (by omega) (by omega)
          have q55 : u55 494 = u_10 494 := by rw [eq55, va_up_ne _ _ (by omega)]
          have p55 : u55 495 = u_10 495 := by rw [eq55, va_up_ne _ _ (by omega)]
          refine lv_aload_n hx hb dX7_areInputs_56 rfl (lv_at hl 0 rfl) ?_
          refine lv_dup hx hb dX7_areInputs_57 rfl ?_
          refine va_get (D := D) (ci := 9) (C := RX7) (T := TX7) (N := 17) hx hb hts inX7 hown hK hP (279) c_279 rfl 14 (by decide) (hts (.fieldLink RX7 249 "TileRunnersModel" "at" "I") (List.mem_of_getElem? (i := 1) rfl)) (fun _ h9 => h9) rfl dX7_areInputs_58 ?_
          refine lv_iconst (v := 1) hx hb dX7_areInputs_61 (by decide) ?_
          refine lv_iadd hx hb dX7_areInputs_62 ?_
          refine pput16 hx hb hts inX7 tyX7 tyX7_ok nmX7 hown hK hP hA hS (j := 279) (by decide) (by decide) rfl rfl 14 (by decide) (hts (.fieldLink RX7 249 "TileRunnersModel" "at" "I") (List.mem_of_getElem? (i := 1) rfl)) (fun _ h9 => h9) rfl (tyX7_ok 14 (by decide)) rfl rfl (Nat.le_of_ble_eq_true rfl) (494) (by decide) (setM_14) dX7_areInputs_63 (fun u9 H locs eu9 hP hS => ?_)
          obtain ⟨u63, e_u63⟩ : ∃ z, z = u9 := ⟨_, rfl⟩
          rw [← e_u63] at hP eu9
          have hF := bnd_s eu9 hF
          have eq63 := eu9
          have hO := okM_494 eu9 hO (by rw [q55]; exact at_inc hat)
          have p63 : u63 495 = u_10 495 := by rw [eq63, va_up_ne _ _ (by decide), p55]
          have a63 : (u63 494).toInt = (u_10 494).toInt + 1 := by rw [eq63, va_up_self, q55]; exact ti_inc hat (by decide)
          refine lv_aload_n hx hb dX7_areInputs_66 rfl (lv_at hl 0 rfl) ?_
          refine lv_iload_n hx hb dX7_areInputs_67 rfl (lv_at hl 1 rfl) ?_
          refine va_calli (va_runV (As := [.int a]) (rest := []) ⟨hx, hb, hml, hown, hts⟩ (c7_isDigit l hA σ u63 a hO hn) (cwV 1 hts gX7_areInputs_X7_isDigit rfl rfl rfl hd_X7_isDigitV ⟨Nat.le_of_ble_eq_true rfl, Nat.le_of_ble_eq_true rfl⟩) ⟨hp_blind, va_recv hK hP (ci := 9) (q0 := 279) rfl c_279, hp_pre hK hN hP⟩ rfl rfl hl.1 rfl (lv_room (Nat.le_of_ble_eq_true rfl)) dX7_areInputs_68 ⟨Nat.zero_le _, Nat.zero_le _⟩) hS (fun _ _ h => h) (fun _ h => h) (fun r68 _ t H locs ht hvm hw9 hB hz1 hk1 hS => ?_)
          have hP := ho_at ht hB
          obtain ⟨eq68, hb_r68⟩ := hw9
          have hF := bnd_s eq68 hF
          refine lv_if_ne (tgt := 76) hx hb dX7_areInputs_71 (by decide) (fun c71 => ?_) (fun c71 => ?_)
          · have hF := iff_ c71 hF
            have d68 := digit_lt eq68 c71
            have hat2 : vp_in (u63 494) 40 := at_in hO d68 hn
            refine lv_aload_n hx hb dX7_areInputs_76 rfl (lv_at hl 0 rfl) ?_
            refine va_get (D := D) (ci := 9) (C := RX7) (T := TX7) (N := 17) hx hb hts inX7 hown hK hP (279) c_279 rfl 12 (by decide) (hts (.fieldLink RX7 38 "TileRunnersModel" "ticksOf" "[I") (List.mem_of_getElem? (i := 5) rfl)) (fun _ h9 => h9) rfl dX7_areInputs_77 ?_
            refine lv_aload_n hx hb dX7_areInputs_80 rfl (lv_at hl 0 rfl) ?_
            refine va_get (D := D) (ci := 9) (C := RX7) (T := TX7) (N := 17) hx hb hts inX7 hown hK hP (279) c_279 rfl 15 (by decide) (hts (.fieldLink RX7 259 "TileRunnersModel" "commands" "I") (List.mem_of_getElem? (i := 2) rfl)) (fun _ h9 => h9) rfl dX7_areInputs_81 ?_
            refine lv_aload_n hx hb dX7_areInputs_84 rfl (lv_at hl 0 rfl) ?_
            refine va_get (D := D) (ci := 9) (C := RX7) (T := TX7) (N := 17) hx hb hts inX7 hown hK hP (279) c_279 rfl 10 (by decide) (hts (.fieldLink RX7 31 "TileRunnersModel" "text" "[C") (List.mem_of_getElem? (i := 3) rfl)) (fun _ h9 => h9) rfl dX7_areInputs_85 ?_
            refine lv_aload_n hx hb dX7_areInputs_88 rfl (lv_at hl 0 rfl) ?_
            refine va_get (D := D) (ci := 9) (C := RX7) (T := TX7) (N := 17) hx hb hts inX7 hown hK hP (279) c_279 rfl 14 (by decide) (hts (.fieldLink RX7 249 "TileRunnersModel" "at" "I") (List.mem_of_getElem? (i := 1) rfl)) (fun _ h9 => h9) rfl dX7_areInputs_89 ?_
            refine pcald (n := 40) (o := 500) (t := 500+(u63 494).toNatClampNeg) (i := (u63 494)) hx hb hK hP c_287 hat2 rfl dX7_areInputs_92 ?_
            refine lv_bipush (v := 48) hx hb dX7_areInputs_93 (by decide) ?_
            refine lv_isub hx hb dX7_areInputs_95 ?_
            have hin9 : vp_in (u63 495) 20 := (by rw [p63]; exact hcm)
            refine past16 (n := 20) (o := 560) (t := 560+(u63 495).toNatClampNeg) hx hb hK hP hA hS (j := 289) (by decide) (by decide) (fun _ _ => rfl) (fun k9 hk9 => by unfold own16; repeat first | rw [if_pos (by omega)] | rw [if_neg (by omega)]) hin9 rfl dX7_areInputs_96 (fun u9 H locs eu9 hP hS => ?_)
            have hlt9 := in_lt hin9
            obtain ⟨u96, e_u96⟩ : ∃ z, z = u9 := ⟨_, rfl⟩
            rw [← e_u96] at hP eu9
            have hF := bnd_s eu9 hF
            have eq96 := eu9
            have hO := okM_up eu9 hO (by omega) (by omega) (by omega)
            have q96 : u96 494 = u63 494 := by rw [eq96, va_up_ne _ _ (by omega)]
            have p96 : u96 495 = u_10 495 := by rw [eq96, va_up_ne _ _ (by omega), p63]
            refine lv_aload_n hx hb dX7_areInputs_97 rfl (lv_at hl 0 rfl) ?_
            refine lv_dup hx hb dX7_areInputs_98 rfl ?_
            refine va_get (D := D) (ci := 9) (C := RX7) (T := TX7) (N := 17) hx hb hts inX7 hown hK hP (279) c_279 rfl 14 (by decide) (hts (.fieldLink RX7 249 "TileRunnersModel" "at" "I") (List.mem_of_getElem? (i := 1) rfl)) (fun _ h9 => h9) rfl dX7_areInputs_99 ?_
            refine lv_iconst (v := 1) hx hb dX7_areInputs_102 (by decide) ?_
            refine lv_iadd hx hb dX7_areInputs_103 ?_
            refine pput16 hx hb hts inX7 tyX7 tyX7_ok nmX7 hown hK hP hA hS (j := 279) (by decide) (by decide) rfl rfl 14 (by decide) (hts (.fieldLink RX7 249 "TileRunnersModel" "at" "I") (List.mem_of_getElem? (i := 1) rfl)) (fun _ h9 => h9) rfl (tyX7_ok 14 (by decide)) rfl rfl (Nat.le_of_ble_eq_true rfl) (494) (by decide) (setM_14) dX7_areInputs_104 (fun u9 H locs eu9 hP hS => ?_)
            obtain ⟨u104, e_u104⟩ : ∃ z, z = u9 := ⟨_, rfl⟩
            rw [← e_u104] at hP eu9
            have hF := bnd_s eu9 hF
            have eq104 := eu9
            have hO := okM_494 eu9 hO (by rw [q96]; exact at_inc hat2)
            have p104 : u104 495 = u_10 495 := by rw [eq104, va_up_ne _ _ (by decide), p96]
            have a104 : (u104 494).toInt = (u63 494).toInt + 1 ∧ (u63 494).toInt + 1 ≤ a.toInt := by rw [eq104, va_up_self, q96]; exact ti_inc_lt d68
            refine lv_aload_n hx hb dX7_areInputs_107 rfl (lv_at hl 0 rfl) ?_
            refine lv_iload_n hx hb dX7_areInputs_108 rfl (lv_at hl 1 rfl) ?_
            refine va_calli (va_runV (As := [.int a]) (rest := []) ⟨hx, hb, hml, hown, hts⟩ (c7_isDigit l hA σ u104 a hO hn) (cwV 1 hts gX7_areInputs_X7_isDigit rfl rfl rfl hd_X7_isDigitV ⟨Nat.le_of_ble_eq_true rfl, Nat.le_of_ble_eq_true rfl⟩) ⟨hp_blind, va_recv hK hP (ci := 9) (q0 := 279) rfl c_279, hp_pre hK hN hP⟩ rfl rfl hl.1 rfl (lv_room (Nat.le_of_ble_eq_true rfl)) dX7_areInputs_109 ⟨Nat.zero_le _, Nat.zero_le _⟩) hS (fun _ _ h => h) (fun _ h => h) (fun r109 _ t H locs ht hvm hw9 hB hz1 hk1 hS => ?_)
            have hP := ho_at ht hB
            obtain ⟨eq109, hb_r109⟩ := hw9
            have hF := bnd_s eq109 hF
            have J159 : ∀ (u_159 : (Nat → Int32)) (H : Heap) (locs : List Loc) (ls : Array Slot), u_159 495 = u_10 495 → (u_10 494).toInt + 2 ≤ (u_159 494).toInt ∧ (u_159 494).toInt ≤ a.toInt → okM u_159 → va_P D vwCl (pool G ad (va_up σ 16 u_159)) H → va_S (AA B0) s.heap H locs → lv_has ls 2 [(0, .ref (ad (279))), (1, .int a)] → f7_areInputs_b159 (f7_areInputs_L10 a n10) a u_159 = FF → W p l e (headSpec wsX7_areInputs { frames := 1, cells := 0, slots := 0, locals := 21 }).room s m ([.ref (ad (279)), .int a] : List Value).toArray below meth c H locs 0 0 (MQ below (va_Qi (fun (r : Int32) (z : Nat → Int32) => (r, z) = f7_areInputs u a ∧ okM z ∧ bl r) (fun (z : Nat → Int32) => Ho D G ad (va_up σ 16 z)) (AA B0)) ([.ref (ad (279)), .int a] : List Value).toArray s 0 0 (AA B0)) (F0 m 159 ls []) := by
              intro u_159 H locs ls p159 g159 hO hP hS hl hF
              rw [f7_areInputs_b159] at hF
              refine lv_aload_n hx hb dX7_areInputs_159 rfl (lv_at hl 0 rfl) ?_
              refine lv_dup hx hb dX7_areInputs_160 rfl ?_
              refine va_get (D := D) (ci := 9) (C := RX7) (T := TX7) (N := 17) hx hb hts inX7 hown hK hP (279) c_279 rfl 15 (by decide) (hts (.fieldLink RX7 259 "TileRunnersModel" "commands" "I") (List.mem_of_getElem? (i := 2) rfl)) (fun _ h9 => h9) rfl dX7_areInputs_161 ?_
              refine lv_iconst (v := 1) hx hb dX7_areInputs_164 (by decide) ?_
              refine lv_iadd hx hb dX7_areInputs_165 ?_
              refine pput16 hx hb hts inX7 tyX7 tyX7_ok nmX7 hown hK hP hA hS (j := 279) (by decide) (by decide) rfl rfl 15 (by decide) (hts (.fieldLink RX7 259 "TileRunnersModel" "commands" "I") (List.mem_of_getElem? (i := 2) rfl)) (fun _ h9 => h9) rfl (tyX7_ok 15 (by decide)) rfl rfl (Nat.le_of_ble_eq_true rfl) (495) (by decide) (setM_15) dX7_areInputs_166 (fun u9 H locs eu9 hP hS => ?_)
              obtain ⟨u166, e_u166⟩ : ∃ z, z = u9 := ⟨_, rfl⟩
              rw [← e_u166] at hP eu9
              have hF := bnd_s eu9 hF
              have eq166 := eu9
              have hO := okM_495 eu9 hO (by rw [p159]; exact cm_inc hcm)
              refine lv_aload_n hx hb dX7_areInputs_169 rfl (lv_at hl 0 rfl) ?_
              refine va_get (D := D) (ci := 9) (C := RX7) (T := TX7) (N := 17) hx hb hts inX7 hown hK hP (279) c_279 rfl 14 (by decide) (hts (.fieldLink RX7 249 "TileRunnersModel" "at" "I") (List.mem_of_getElem? (i := 1) rfl)) (fun _ h9 => h9) rfl dX7_areInputs_170 ?_
              refine lv_iload_n hx hb dX7_areInputs_173 rfl (lv_at hl 1 rfl) ?_
              refine lv_icmp_lt (tgt := 10) hx hb dX7_areInputs_174 (by decide) (fun c174 => ?_) (fun c174 => ?_)
              · have hF := ift c174 hF
                exact ih10 u166 _ _ ls (ms_s (by have z1 : u166 494 = u_159 494 := (by rw [eq166, va_up_ne _ _ (by decide)]); rw [z1]; have z2 := hat0.2; omega) hm10) (by rw [eq166, va_up_ne _ _ (by decide)]; exact g159.2) (by have z1 := ti_inc hcm (by decide); rw [eq166, va_up_self, va_up_ne _ _ (by decide), p159, z1]; omega) hO hP hS (lv_sub hl [0, 1] rfl) hF
              · have hF := iff_ c174 hF
                refine lv_iconst (v := 1) hx hb dX7_areInputs_177 (by decide) ?_
                exact W.zret (v := 1) hx hb hr (bl_nar bl1) (fun t ht hW => ⟨⟨1, u166, rfl, ⟨hF.trans hFF, hO, bl1⟩, ho_of ht hP⟩, hS.F ht⟩) hS.2.2 dX7_areInputs_178
            refine lv_if_eq (tgt := 159) hx hb dX7_areInputs_112 (by decide) (fun c112 => ?_) (fun c112 => ?_)
            · have hF := ift c112 hF
              exact J159 u104 _ _ ls p104 (by omega) hO hP hS (lv_sub hl [0, 1] rfl) hF
            · have hF := iff_ c112 hF
              have d109 := digit_lt eq109 c112
              have hat3 : vp_in (u104 494) 40 := at_in hO d109 hn
              refine lv_aload_n hx hb dX7_areInputs_115 rfl (lv_at hl 0 rfl) ?_
              refine va_get (D := D) (ci := 9) (C := RX7) (T := TX7) (N := 17) hx hb hts inX7 hown hK hP (279) c_279 rfl 12 (by decide) (hts (.fieldLink RX7 38 "TileRunnersModel" "ticksOf" "[I") (List.mem_of_getElem? (i := 5) rfl)) (fun _ h9 => h9) rfl dX7_areInputs_116 ?_
              refine lv_aload_n hx hb dX7_areInputs_119 rfl (lv_at hl 0 rfl) ?_
              refine va_get (D := D) (ci := 9) (C := RX7) (T := TX7) (N := 17) hx hb hts inX7 hown hK hP (279) c_279 rfl 15 (by decide) (hts (.fieldLink RX7 259 "TileRunnersModel" "commands" "I") (List.mem_of_getElem? (i := 2) rfl)) (fun _ h9 => h9) rfl dX7_areInputs_120 ?_
              refine lv_bipush (v := 10) hx hb dX7_areInputs_123 (by decide) ?_
              refine lv_aload_n hx hb dX7_areInputs_125 rfl (lv_at hl 0 rfl) ?_
              refine va_get (D := D) (ci := 9) (C := RX7) (T := TX7) (N := 17) hx hb hts inX7 hown hK hP (279) c_279 rfl 12 (by decide) (hts (.fieldLink RX7 38 "TileRunnersModel" "ticksOf" "[I") (List.mem_of_getElem? (i := 5) rfl)) (fun _ h9 => h9) rfl dX7_areInputs_126 ?_
              refine lv_aload_n hx hb dX7_areInputs_129 rfl (lv_at hl 0 rfl) ?_
              refine va_get (D := D) (ci := 9) (C := RX7) (T := TX7) (N := 17) hx hb hts inX7 hown hK hP (279) c_279 rfl 15 (by decide) (hts (.fieldLink RX7 259 "TileRunnersModel" "commands" "I") (List.mem_of_getElem? (i := 2) rfl)) (fun _ h9 => h9) rfl dX7_areInputs_130 ?_
              refine pald (n := 20) (o := 560) (t := 560+(u104 495).toNatClampNeg) (i := (u104 495)) hx hb hK hP c_289 (by rw [p104]; exact hcm) rfl dX7_areInputs_133 ?_
              refine lv_imul hx hb dX7_areInputs_134 ?_
              refine lv_aload_n hx hb dX7_areInputs_135 rfl (lv_at hl 0 rfl) ?_
              refine va_get (D := D) (ci := 9) (C := RX7) (T := TX7) (N := 17) hx hb hts inX7 hown hK hP (279) c_279 rfl 10 (by decide) (hts (.fieldLink RX7 31 "TileRunnersModel" "text" "[C") (List.mem_of_getElem? (i := 3) rfl)) (fun _ h9 => h9) rfl dX7_areInputs_136 ?_
              refine lv_aload_n hx hb dX7_areInputs_139 rfl (lv_at hl 0 rfl) ?_
              refine va_get (D := D) (ci := 9) (C := RX7) (T := TX7) (N := 17) hx hb hts inX7 hown hK hP (279) c_279 rfl 14 (by decide) (hts (.fieldLink RX7 249 "TileRunnersModel" "at" "I") (List.mem_of_getElem? (i := 1) rfl)) (fun _ h9 => h9) rfl dX7_areInputs_140 ?_
              refine pcald (n := 40) (o := 500) (t := 500+(u104 494).toNatClampNeg) (i := (u104 494)) hx hb hK hP c_287 hat3 rfl dX7_areInputs_143 ?_
              refine lv_iadd hx hb dX7_areInputs_144 ?_
              refine lv_bipush (v := 48) hx hb dX7_areInputs_145 (by decide) ?_
              refine lv_isub hx hb dX7_areInputs_147 ?_
              have hin9 : vp_in (u104 495) 20 := (by rw [p104]; exact hcm)
              refine past16 (n := 20) (o := 560) (t := 560+(u104 495).toNatClampNeg) hx hb hK hP hA hS (j := 289) (by decide) (by decide) (fun _ _ => rfl) (fun k9 hk9 => by unfold own16; repeat first | rw [if_pos (by omega)] | rw [if_neg (by omega)]) hin9 rfl dX7_areInputs_148 (fun u9 H locs eu9 hP hS => ?_)
              have hlt9 := in_lt hin9
              obtain ⟨u148, e_u148⟩ : ∃ z, z = u9 := ⟨_, rfl⟩
              rw [← e_u148] at hP eu9
              have hF := bnd_s eu9 hF
              have eq148 := eu9
              have hO := okM_up eu9 hO (by omega) (by omega) (by omega)
              have q148 : u148 494 = u104 494 := by rw [eq148, va_up_ne _ _ (by omega)]
              have p148 : u148 495 = u_10 495 := by rw [eq148, va_up_ne _ _ (by omega), p104]
              refine lv_aload_n hx hb dX7_areInputs_149 rfl (lv_at hl 0 rfl) ?_
              refine lv_dup hx hb dX7_areInputs_150 rfl ?_
              refine va_get (D := D) (ci := 9) (C := RX7) (T := TX7) (N := 17) hx hb hts inX7 hown hK hP (279) c_279 rfl 14 (by decide) (hts (.fieldLink RX7 249 "TileRunnersModel" "at" "I") (List.mem_of_getElem? (i := 1) rfl)) (fun _ h9 => h9) rfl dX7_areInputs_151 ?_
              refine lv_iconst (v := 1) hx hb dX7_areInputs_154 (by decide) ?_
              refine lv_iadd hx hb dX7_areInputs_155 ?_
              refine pput16 hx hb hts inX7 tyX7 tyX7_ok nmX7 hown hK hP hA hS (j := 279) (by decide) (by decide) rfl rfl 14 (by decide) (hts (.fieldLink RX7 249 "TileRunnersModel" "at" "I") (List.mem_of_getElem? (i := 1) rfl)) (fun _ h9 => h9) rfl (tyX7_ok 14 (by decide)) rfl rfl (Nat.le_of_ble_eq_true rfl) (494) (by decide) (setM_14) dX7_areInputs_156 (fun u9 H locs eu9 hP hS => ?_)
              obtain ⟨u156, e_u156⟩ : ∃ z, z = u9 := ⟨_, rfl⟩
              rw [← e_u156] at hP eu9
              have hF := bnd_s eu9 hF
              have eq156 := eu9
              have hO := okM_494 eu9 hO (by rw [q148]; exact at_inc hat3)
              exact J159 u156 _ _ ls (by rw [eq156, va_up_ne _ _ (by decide), p148]) (by have z1 := ti_inc_lt d109; rw [eq156, va_up_self, q148]; omega) hO hP hS (lv_sub hl [0, 1] rfl) hF
          · have hF := ift c71 hF
            refine lv_iconst (v := 0) hx hb dX7_areInputs_74 (by decide) ?_
            exact W.zret (v := 0) hx hb hr (bl_nar bl0) (fun t ht hW => ⟨⟨0, u63, rfl, ⟨hF.trans hFF, hO, bl0⟩, ho_of ht hP⟩, hS.F ht⟩) hS.2.2 dX7_areInputs_75
        · have hF := iff_ c30 hF
          refine lv_iconst (v := 0) hx hb dX7_areInputs_33 (by decide) ?_
          exact W.zret (v := 0) hx hb hr (bl_nar bl0) (fun t ht hW => ⟨⟨0, u_10, rfl, ⟨hF.trans hFF, hO, bl0⟩, ho_of ht hP⟩, hS.F ht⟩) hS.2.2 dX7_areInputs_34
  exact L10 BIG u7 _ _ ls (big_up _ _) (by rw [eq7, va_up_ne _ _ (by decide), eq2, va_up_self]; exact hn.1) (by rw [eq7, va_up_self, va_up_ne _ _ (by decide), eq2, va_up_self]; decide) hO hP hS (lv_sub hl [0, 1] rfl) hF
theorem hd_X7_areInputsV : yX7_areInputs.cls = RX7 ∧ yX7_areInputs.cls ≠ "java/lang/invoke/MethodHandle" ∧ yX7_areInputs.cls ≠ "java/lang/invoke/VarHandle" ∧ (parseMethodDescriptor yX7_areInputs.desc).map (fun d => d.parameters.length) = some 1 := by decide +kernel
set_option maxHeartbeats 4000000 in
set_option maxRecDepth 100000 in
theorem c7_play (l : Launch) {D : va_G} {G : CY} {ad : Nat → Nat} {B0 : Nat} (hA : adOK B0 ad) (σ : Nat → Nat → Int32) (u : Nat → Int32) (a : Int32) (hO : okM u) : Met l yX7_play wsX7_play { frames := 14, cells := 0, slots := 0, locals := 323 } (va_Pc [.ref (ad (279)), .int a] (Hp D G ad (va_up σ 16 u))) (va_Qi (fun (r : Int32) (z : Nat → Int32) => (r, z) = f7_play u a ∧ okM z) (fun (z : Nat → Int32) => Ho D G ad (va_up σ 16 z)) (AA B0)) 0 0 (AA B0) := by
  refine Met.ofW (cc := cX7_play) (maxL := 6) (ret := (some .int)) (by decide) rfl ?_
  intro p e s m args below meth c s₁ B hml hv
  obtain ⟨rfl, hP, hK, hN⟩ := hv
  have hx := B.exec
  have hb := B.bytes
  have hr := B.returns
  have hts := atoms_spec (ws := wsX7_play) B.pre
  have hown : s.vm.findClass RX7 = some m.cls := findClass_of_methodNamed B.named
  have hlocks := B.notSynchronized
  have inX7 : ∀ w ∈ wsX70, w ∈ wsX7_play := (fun w h => List.mem_cons_of_mem _ (List.mem_append_left _ (List.mem_append_right _ h)))
  have hP : va_P D vwCl (pool G ad (va_up σ 16 u)) s.heap := hP
  have hS : va_S (AA B0) s.heap s.heap [] := va_S.rf
  have hl := lv_entry ([.ref (ad (279)), .int a]) (n := 6) (Nat.le_of_ble_eq_true rfl)
  rw [lg_entry_eq]
  generalize (lg_sl ([.ref (ad (279)), .int a]) ++ List.replicate (6 - (lg_sl ([.ref (ad (279)), .int a])).length) Slot.unset).toArray = ls at hl ⊢
  have hl : lv_has ls 6 [(0, .ref (ad (279))), (1, .int a)] := hl
  obtain ⟨FF, hFF⟩ : ∃ z, z = f7_play u a := ⟨_, rfl⟩
  have hF := hFF.symm
  rw [f7_play] at hF
  refine lv_aload_n hx hb dX7_play_0 rfl (lv_at hl 0 rfl) ?_
  refine va_get (D := D) (ci := 9) (C := RX7) (T := TX7) (N := 17) hx hb hts inX7 hown hK hP (279) c_279 rfl 13 (by decide) (hts (.fieldLink RX7 246 "TileRunnersModel" "length" "I") (List.mem_of_getElem? (i := 1) rfl)) (fun _ h9 => h9) rfl dX7_play_1 ?_
  refine lv_topi (fun v2_4 e_v2_4 => ?_)
  have hF := bnd_s e_v2_4 hF
  refine lv_istore_n (lv' := [(2, .int v2_4), (0, .ref (ad (279))), (1, .int a)]) hx hb dX7_play_4 rfl hl (by decide) rfl (fun ls hl => ?_)
  have hn2 : 0 ≤ v2_4.toInt ∧ v2_4.toInt ≤ 40 := by rw [e_v2_4]; exact hO.2.2.1
  refine lv_aload_n hx hb dX7_play_5 rfl (lv_at hl 1 rfl) ?_
  refine lv_iconst (v := 0) hx hb dX7_play_6 (by decide) ?_
  refine pput16 hx hb hts inX7 tyX7 tyX7_ok nmX7 hown hK hP hA hS (j := 279) (by decide) (by decide) rfl rfl 13 (by decide) (hts (.fieldLink RX7 246 "TileRunnersModel" "length" "I") (List.mem_of_getElem? (i := 1) rfl)) (fun _ h9 => h9) rfl (tyX7_ok 13 (by decide)) rfl rfl (Nat.le_of_ble_eq_true rfl) (493) (by decide) (setM_13) dX7_play_7 (fun u9 H locs eu9 hP hS => ?_)
  obtain ⟨u7, e_u7⟩ : ∃ z, z = u9 := ⟨_, rfl⟩
  rw [← e_u7] at hP eu9
  have hF := bnd_s eu9 hF
  have hO := okM_493 eu9 hO (by decide)
  refine lv_aload_n hx hb dX7_play_10 rfl (lv_at hl 1 rfl) ?_
  refine lv_iload_n hx hb dX7_play_11 rfl (lv_at hl 2 rfl) ?_
  refine va_calli (va_runV (As := [.int a]) (rest := []) ⟨hx, hb, hml, hown, hts⟩ (c7_isBody l hA σ u7 a ) (cwV 1 hts gX7_play_X7_isBody rfl rfl rfl hd_X7_isBodyV ⟨Nat.le_of_ble_eq_true rfl, Nat.le_of_ble_eq_true rfl⟩) ⟨hp_blind, va_recv hK hP (ci := 9) (q0 := 279) rfl c_279, hp_pre hK hN hP⟩ rfl rfl hl.1 rfl (lv_room (Nat.le_of_ble_eq_true rfl)) dX7_play_12 ⟨Nat.zero_le _, Nat.zero_le _⟩) hS (fun _ _ h => h) (fun _ h => h) (fun r12 _ t H locs ht hvm hw9 hB hz1 hk1 hS => ?_)
  have hP := ho_at ht hB
  obtain ⟨eq12, hb_r12⟩ := hw9
  have hF := bnd_s eq12 hF
  refine lv_if_ne (tgt := 24) hx hb dX7_play_15 (by decide) (fun c15 => ?_) (fun c15 => ?_)
  · have hF := iff_ c15 hF
    have hba := body_in hO.1 eq12 c15
    refine lv_aload_n hx hb dX7_play_24 rfl (lv_at hl 1 rfl) ?_
    refine lv_iload_n hx hb dX7_play_25 rfl (lv_at hl 0 rfl) ?_
    refine va_calli (va_runV (As := [.int v2_4]) (rest := []) ⟨hx, hb, hml, hown, hts⟩ (c7_areInputs l hA σ u7 v2_4 hO hn2) (cwV 1 hts gX7_play_X7_areInputs rfl rfl rfl hd_X7_areInputsV ⟨Nat.le_of_ble_eq_true rfl, Nat.le_of_ble_eq_true rfl⟩) ⟨hp_blind, va_recv hK hP (ci := 9) (q0 := 279) rfl c_279, hp_pre hK hN hP⟩ rfl rfl hl.1 rfl (lv_room (Nat.le_of_ble_eq_true rfl)) dX7_play_26 ⟨Nat.zero_le _, Nat.zero_le _⟩) hS (fun _ _ h => h) (fun _ h => h) (fun r26 u9 t H locs ht hvm hw9 hB hz1 hk1 hS => ?_)
    have hP := ho_at ht hB
    obtain ⟨eq26, ok9, hb_r26⟩ := hw9
    obtain ⟨u26, e_u26⟩ : ∃ z, z = u9 := ⟨_, rfl⟩
    rw [← e_u26] at hP eq26 ok9
    have hO := ok9
    have hF := bnd2_s eq26 hF
    refine lv_istore_n (lv' := [(3, .int r26), (2, .int v2_4), (0, .ref (ad (279))), (1, .int a)]) hx hb dX7_play_29 rfl hl (by decide) rfl (fun ls hl => ?_)
    refine lv_aload_n hx hb dX7_play_30 rfl (lv_at hl 2 rfl) ?_
    refine lv_iload_n hx hb dX7_play_31 rfl (lv_at hl 0 rfl) ?_
    have J43 : ∀ (t0_43 : Int32) (H : Heap) (locs : List Loc) (ls : Array Slot), va_P D vwCl (pool G ad (va_up σ 16 u26)) H → va_S (AA B0) s.heap H locs → lv_has ls 6 [(3, .int r26), (0, .ref (ad (279))), (1, .int a)] → f7_play_b43 a r26 u26 t0_43 = FF → W p l e (headSpec wsX7_play { frames := 14, cells := 0, slots := 0, locals := 323 }).room s m ([.ref (ad (279)), .int a] : List Value).toArray below meth c H locs 0 0 (MQ below (va_Qi (fun (r : Int32) (z : Nat → Int32) => (r, z) = f7_play u a ∧ okM z) (fun (z : Nat → Int32) => Ho D G ad (va_up σ 16 z)) (AA B0)) ([.ref (ad (279)), .int a] : List Value).toArray s 0 0 (AA B0)) (F0 m 43 ls [.int t0_43, .ref (ad (279))]) := by
      intro t0_43 H locs ls hP hS hl hF
      rw [f7_play_b43] at hF
      refine pput16 hx hb hts inX7 tyX7 tyX7_ok nmX7 hown hK hP hA hS (j := 279) (by decide) (by decide) rfl rfl 16 (by decide) (hts (.fieldLink RX7 41 "TileRunnersModel" "faultAt" "I") (List.mem_of_getElem? (i := 3) rfl)) (fun _ h9 => h9) rfl (tyX7_ok 16 (by decide)) rfl rfl (Nat.le_of_ble_eq_true rfl) (496) (by decide) (setM_16) dX7_play_43 (fun u9 H locs eu9 hP hS => ?_)
      obtain ⟨u43, e_u43⟩ : ∃ z, z = u9 := ⟨_, rfl⟩
      rw [← e_u43] at hP eu9
      have hF := bnd_s eu9 hF
      have hO := okM_up eu9 hO (by omega) (by omega) (by omega)
      refine lv_iload_n hx hb dX7_play_46 rfl (lv_at hl 0 rfl) ?_
      refine lv_if_ne (tgt := 56) hx hb dX7_play_47 (by decide) (fun c47 => ?_) (fun c47 => ?_)
      · have hF := iff_ c47 hF
        refine lv_iconst (v := 0) hx hb dX7_play_56 (by decide) ?_
        refine lv_istore (lv' := [(4, .int 0), (3, .int r26), (0, .ref (ad (279))), (1, .int a)]) hx hb dX7_play_57 hl (by decide) rfl (fun ls hl => ?_)
        refine lv_iconst (v := 0) hx hb dX7_play_59 (by decide) ?_
        refine lv_istore (lv' := [(5, .int 0), (4, .int 0), (3, .int r26), (0, .ref (ad (279))), (1, .int a)]) hx hb dX7_play_60 hl (by decide) rfl (fun ls hl => ?_)
        have L62 : ∀ (n62 : Nat) (w5_62 : Int32) (w4_62 : Int32) (H : Heap) (locs : List Loc) (ls : Array Slot), (20 - w5_62.toInt).toNat < n62 → 0 ≤ w5_62 → va_P D vwCl (pool G ad (va_up σ 16 u43)) H → va_S (AA B0) s.heap H locs → lv_has ls 6 [(5, .int w5_62), (4, .int w4_62), (0, .ref (ad (279))), (1, .int a)] → f7_play_L62 a u43 n62 w5_62 w4_62 = FF → W p l e (headSpec wsX7_play { frames := 14, cells := 0, slots := 0, locals := 323 }).room s m ([.ref (ad (279)), .int a] : List Value).toArray below meth c H locs 0 0 (MQ below (va_Qi (fun (r : Int32) (z : Nat → Int32) => (r, z) = f7_play u a ∧ okM z) (fun (z : Nat → Int32) => Ho D G ad (va_up σ 16 z)) (AA B0)) ([.ref (ad (279)), .int a] : List Value).toArray s 0 0 (AA B0)) (F0 m 62 ls []) := by
          intro n62
          induction n62 with
          | zero => intro w5_62 w4_62 H locs ls hm; exact absurd hm (Nat.not_lt_zero _)
          | succ n62 ih62 =>
            intro w5_62 w4_62 H locs ls hm62 h5 hP hS hl hF
            rw [f7_play_L62] at hF
            refine lv_iload hx hb dX7_play_62 (lv_at hl 0 rfl) ?_
            refine lv_aload_n hx hb dX7_play_64 rfl (lv_at hl 2 rfl) ?_
            refine va_get (D := D) (ci := 9) (C := RX7) (T := TX7) (N := 17) hx hb hts inX7 hown hK hP (279) c_279 rfl 15 (by decide) (hts (.fieldLink RX7 259 "TileRunnersModel" "commands" "I") (List.mem_of_getElem? (i := 4) rfl)) (fun _ h9 => h9) rfl dX7_play_65 ?_
            refine lv_icmp_ge (tgt := 89) hx hb dX7_play_68 (by decide) (fun c68 => ?_) (fun c68 => ?_)
            · have hF := ift c68 hF
              refine lv_iload hx hb dX7_play_89 (lv_at hl 1 rfl) ?_
              refine lv_sipush (v := 200) hx hb dX7_play_91 (by decide) ?_
              refine lv_icmp_le (tgt := 103) hx hb dX7_play_94 (by decide) (fun c94 => ?_) (fun c94 => ?_)
              · have hF := ift c94 hF
                refine lv_aload_n hx hb dX7_play_103 rfl (lv_at hl 2 rfl) ?_
                refine lv_iconst (v := 0) hx hb dX7_play_104 (by decide) ?_
                refine pput16 hx hb hts inX7 tyX7 tyX7_ok nmX7 hown hK hP hA hS (j := 279) (by decide) (by decide) rfl rfl 0 (by decide) (hts (.fieldLink RX7 45 "TileRunnersModel" "thrown" "I") (List.mem_of_getElem? (i := 6) rfl)) (fun _ h9 => h9) rfl (tyX7_ok 0 (by decide)) rfl rfl (Nat.le_of_ble_eq_true rfl) (490) (by decide) (setM_0) dX7_play_105 (fun u9 H locs eu9 hP hS => ?_)
                obtain ⟨u105, e_u105⟩ : ∃ z, z = u9 := ⟨_, rfl⟩
                rw [← e_u105] at hP eu9
                have hF := bnd_s eu9 hF
                have hO := okM_up eu9 hO (by omega) (by omega) (by omega)
                refine lv_iconst (v := 0) hx hb dX7_play_108 (by decide) ?_
                refine lv_istore (lv' := [(5, .int 0), (4, .int w4_62), (0, .ref (ad (279))), (1, .int a)]) hx hb dX7_play_109 hl (by decide) rfl (fun ls hl => ?_)
                have L111 : ∀ (n111 : Nat) (w5_111 : Int32) (u_111 : (Nat → Int32)) (H : Heap) (locs : List Loc) (ls : Array Slot), (20 - w5_111.toInt).toNat < n111 → 0 ≤ w5_111 → okM u_111 → va_P D vwCl (pool G ad (va_up σ 16 u_111)) H → va_S (AA B0) s.heap H locs → lv_has ls 6 [(5, .int w5_111), (4, .int w4_62), (0, .ref (ad (279))), (1, .int a)] → f7_play_L111 a w4_62 n111 w5_111 u_111 = FF → W p l e (headSpec wsX7_play { frames := 14, cells := 0, slots := 0, locals := 323 }).room s m ([.ref (ad (279)), .int a] : List Value).toArray below meth c H locs 0 0 (MQ below (va_Qi (fun (r : Int32) (z : Nat → Int32) => (r, z) = f7_play u a ∧ okM z) (fun (z : Nat → Int32) => Ho D G ad (va_up σ 16 z)) (AA B0)) ([.ref (ad (279)), .int a] : List Value).toArray s 0 0 (AA B0)) (F0 m 111 ls []) := by
                  intro n111
                  induction n111 with
                  | zero => intro w5_111 u_111 H locs ls hm; exact absurd hm (Nat.not_lt_zero _)
                  | succ n111 ih111 =>
                    intro w5_111 u_111 H locs ls hm111 h5 hO hP hS hl hF
                    rw [f7_play_L111] at hF
                    refine lv_iload hx hb dX7_play_111 (lv_at hl 0 rfl) ?_
                    refine lv_aload_n hx hb dX7_play_113 rfl (lv_at hl 2 rfl) ?_
                    refine va_get (D := D) (ci := 9) (C := RX7) (T := TX7) (N := 17) hx hb hts inX7 hown hK hP (279) c_279 rfl 15 (by decide) (hts (.fieldLink RX7 259 "TileRunnersModel" "commands" "I") (List.mem_of_getElem? (i := 4) rfl)) (fun _ h9 => h9) rfl dX7_play_114 ?_
                    refine lv_icmp_ge (tgt := 151) hx hb dX7_play_117 (by decide) (fun c117 => ?_) (fun c117 => ?_)
                    · have hF := ift c117 hF
                      refine lv_iload hx hb dX7_play_151 (lv_at hl 1 rfl) ?_
                      exact W.iret (v := w4_62) hx hb hr (fun t ht hW => ⟨⟨w4_62, u_111, rfl, ⟨hF.trans hFF, hO⟩, ho_of ht hP⟩, hS.F ht⟩) hS.2.2 dX7_play_153
                    · have hF := iff_ c117 hF
                      have hv5 := cmd_in h5 (nle_lt c117) hO
                      refine lv_aload_n hx hb dX7_play_120 rfl (lv_at hl 2 rfl) ?_
                      refine lv_iload_n hx hb dX7_play_121 rfl (lv_at hl 3 rfl) ?_
                      refine lv_bipush (v := 9) hx hb dX7_play_122 (by decide) ?_
                      refine lv_aload_n hx hb dX7_play_124 rfl (lv_at hl 2 rfl) ?_
                      refine va_get (D := D) (ci := 9) (C := RX7) (T := TX7) (N := 17) hx hb hts inX7 hown hK hP (279) c_279 rfl 11 (by decide) (hts (.fieldLink RX7 35 "TileRunnersModel" "keysOf" "[I") (List.mem_of_getElem? (i := 7) rfl)) (fun _ h9 => h9) rfl dX7_play_125 ?_
                      refine lv_iload hx hb dX7_play_128 (lv_at hl 0 rfl) ?_
                      refine pald (n := 20) (o := 540) (t := 540+w5_111.toNatClampNeg) (i := w5_111) hx hb hK hP c_288 hv5 rfl dX7_play_130 ?_
                      refine va_callv (va_runV (As := [.int a, .int 9, .int (u_111 (540+w5_111.toNatClampNeg))]) (rest := []) ⟨hx, hb, hml, hown, hts⟩ (c7_sets l hA σ u_111 a 9 (u_111 (540+w5_111.toNatClampNeg)) hO (vp_in_iff.mpr (by decide)) hba) (cwV 3 hts gX7_play_X7_sets rfl rfl rfl hd_X7_setsV ⟨Nat.le_of_ble_eq_true rfl, Nat.le_of_ble_eq_true rfl⟩) ⟨hp_blind, va_recv hK hP (ci := 9) (q0 := 279) rfl c_279, hp_pre hK hN hP⟩ rfl rfl hl.1 rfl (lv_room (Nat.le_of_ble_eq_true rfl)) dX7_play_131 ⟨Nat.zero_le _, Nat.zero_le _⟩) hS (fun _ _ h => h) (fun _ h => h) (fun u9 t H locs ht hvm hw9 hB hz1 hk1 hS => ?_)
                      have hP := ho_at ht hB
                      obtain ⟨eq131, ok9⟩ := hw9
                      obtain ⟨u131, e_u131⟩ : ∃ z, z = u9 := ⟨_, rfl⟩
                      rw [← e_u131] at hP eq131 ok9
                      have hO := ok9
                      have hF := bnd_s eq131 hF
                      refine lv_aload_n hx hb dX7_play_134 rfl (lv_at hl 2 rfl) ?_
                      refine lv_aload_n hx hb dX7_play_135 rfl (lv_at hl 2 rfl) ?_
                      refine va_get (D := D) (ci := 9) (C := RX7) (T := TX7) (N := 17) hx hb hts inX7 hown hK hP (279) c_279 rfl 12 (by decide) (hts (.fieldLink RX7 38 "TileRunnersModel" "ticksOf" "[I") (List.mem_of_getElem? (i := 5) rfl)) (fun _ h9 => h9) rfl dX7_play_136 ?_
                      refine lv_iload hx hb dX7_play_139 (lv_at hl 0 rfl) ?_
                      refine pald (n := 20) (o := 560) (t := 560+w5_111.toNatClampNeg) (i := w5_111) hx hb hK hP c_289 hv5 rfl dX7_play_141 ?_
                      refine va_callv (va_runV (As := [.int (u131 (560+w5_111.toNatClampNeg))]) (rest := []) ⟨hx, hb, hml, hown, hts⟩ (c7_ticks l hA σ u131 (u131 (560+w5_111.toNatClampNeg)) hO) (cwV 1 hts gX7_play_X7_ticks rfl rfl rfl hd_X7_ticksV ⟨Nat.le_of_ble_eq_true rfl, Nat.le_of_ble_eq_true rfl⟩) ⟨hp_blind, va_recv hK hP (ci := 9) (q0 := 279) rfl c_279, hp_pre hK hN hP⟩ rfl rfl hl.1 rfl (lv_room (Nat.le_of_ble_eq_true rfl)) dX7_play_142 ⟨Nat.zero_le _, Nat.zero_le _⟩) hS (fun _ _ h => h) (fun _ h => h) (fun u9 t H locs ht hvm hw9 hB hz1 hk1 hS => ?_)
                      have hP := ho_at ht hB
                      obtain ⟨eq142, ok9⟩ := hw9
                      obtain ⟨u142, e_u142⟩ : ∃ z, z = u9 := ⟨_, rfl⟩
                      rw [← e_u142] at hP eq142 ok9
                      have hO := ok9
                      have hF := bnd_s eq142 hF
                      obtain ⟨v5_145, e_v5_145⟩ : ∃ z : Int32, z = w5_111 + 1 := ⟨_, rfl⟩
                      have hF := bnd_s e_v5_145 hF
                      refine lv_iinc (v := v5_145) (lv' := [(5, .int v5_145), (4, .int w4_62), (0, .ref (ad (279))), (1, .int a)]) hx hb dX7_play_145 hl (k := 0) rfl (by rw [e_v5_145]; rfl) (by decide) rfl (fun ls hl => ?_)
                      refine lv_goto (tgt := 111) hx hb dX7_play_148 (by decide) ?_
                      exact ih111 v5_145 u142 _ _ ls (ms_s (dec_20 hv5 e_v5_145) hm111) (ge0_in hv5 (by decide) e_v5_145) hO hP hS (lv_sub hl [0, 1, 2, 3] rfl) hF
                exact L111 BIG 0 u105 _ _ ls (big_20 _) le0 hO hP hS (lv_sub hl [0, 1, 2, 3] rfl) hF
              · have hF := iff_ c94 hF
                refine lv_aload_n hx hb dX7_play_97 rfl (lv_at hl 2 rfl) ?_
                refine lv_iconst (v := 3) hx hb dX7_play_98 (by decide) ?_
                refine va_calli (va_runV (As := [.int 3]) (rest := []) ⟨hx, hb, hml, hown, hts⟩ (c7_fails l hA σ u43 3 hO) (cwV 1 hts gX7_play_X7_fails rfl rfl rfl hd_X7_failsV ⟨Nat.le_of_ble_eq_true rfl, Nat.le_of_ble_eq_true rfl⟩) ⟨hp_blind, va_recv hK hP (ci := 9) (q0 := 279) rfl c_279, hp_pre hK hN hP⟩ rfl rfl hl.1 rfl (lv_room (Nat.le_of_ble_eq_true rfl)) dX7_play_99 ⟨Nat.zero_le _, Nat.zero_le _⟩) hS (fun _ _ h => h) (fun _ h => h) (fun r99 u9 t H locs ht hvm hw9 hB hz1 hk1 hS => ?_)
                have hP := ho_at ht hB
                obtain ⟨eq99, ok9⟩ := hw9
                obtain ⟨u99, e_u99⟩ : ∃ z, z = u9 := ⟨_, rfl⟩
                rw [← e_u99] at hP eq99 ok9
                have hO := ok9
                have hF := bnd2_s eq99 hF
                exact W.iret (v := r99) hx hb hr (fun t ht hW => ⟨⟨r99, u99, rfl, ⟨hF.trans hFF, hO⟩, ho_of ht hP⟩, hS.F ht⟩) hS.2.2 dX7_play_102
            · have hF := iff_ c68 hF
              have hv5 := cmd_in h5 (nle_lt c68) hO
              refine lv_iload hx hb dX7_play_71 (lv_at hl 1 rfl) ?_
              refine lv_aload_n hx hb dX7_play_73 rfl (lv_at hl 2 rfl) ?_
              refine va_get (D := D) (ci := 9) (C := RX7) (T := TX7) (N := 17) hx hb hts inX7 hown hK hP (279) c_279 rfl 12 (by decide) (hts (.fieldLink RX7 38 "TileRunnersModel" "ticksOf" "[I") (List.mem_of_getElem? (i := 5) rfl)) (fun _ h9 => h9) rfl dX7_play_74 ?_
              refine lv_iload hx hb dX7_play_77 (lv_at hl 0 rfl) ?_
              refine pald (n := 20) (o := 560) (t := 560+w5_62.toNatClampNeg) (i := w5_62) hx hb hK hP c_289 hv5 rfl dX7_play_79 ?_
              refine lv_iadd hx hb dX7_play_80 ?_
              refine lv_topi (fun v4_81 e_v4_81 => ?_)
              have hF := bnd_s e_v4_81 hF
              refine lv_istore (lv' := [(4, .int v4_81), (5, .int w5_62), (0, .ref (ad (279))), (1, .int a)]) hx hb dX7_play_81 hl (by decide) rfl (fun ls hl => ?_)
              obtain ⟨v5_83, e_v5_83⟩ : ∃ z : Int32, z = w5_62 + 1 := ⟨_, rfl⟩
              have hF := bnd_s e_v5_83 hF
              refine lv_iinc (v := v5_83) (lv' := [(5, .int v5_83), (4, .int v4_81), (0, .ref (ad (279))), (1, .int a)]) hx hb dX7_play_83 hl (k := 1) rfl (by rw [e_v5_83]; rfl) (by decide) rfl (fun ls hl => ?_)
              refine lv_goto (tgt := 62) hx hb dX7_play_86 (by decide) ?_
              exact ih62 v5_83 v4_81 _ _ ls (ms_s (dec_20 hv5 e_v5_83) hm62) (ge0_in hv5 (by decide) e_v5_83) hP hS (lv_sub hl [0, 1, 2, 3] rfl) hF
        exact L62 BIG 0 0 _ _ ls (big_20 _) le0 hP hS (lv_sub hl [0, 1, 3, 4] rfl) hF
      · have hF := ift c47 hF
        refine lv_aload_n hx hb dX7_play_50 rfl (lv_at hl 1 rfl) ?_
        refine lv_iconst (v := 2) hx hb dX7_play_51 (by decide) ?_
        refine va_calli (va_runV (As := [.int 2]) (rest := []) ⟨hx, hb, hml, hown, hts⟩ (c7_fails l hA σ u43 2 hO) (cwV 1 hts gX7_play_X7_fails rfl rfl rfl hd_X7_failsV ⟨Nat.le_of_ble_eq_true rfl, Nat.le_of_ble_eq_true rfl⟩) ⟨hp_blind, va_recv hK hP (ci := 9) (q0 := 279) rfl c_279, hp_pre hK hN hP⟩ rfl rfl hl.1 rfl (lv_room (Nat.le_of_ble_eq_true rfl)) dX7_play_52 ⟨Nat.zero_le _, Nat.zero_le _⟩) hS (fun _ _ h => h) (fun _ h => h) (fun r52 u9 t H locs ht hvm hw9 hB hz1 hk1 hS => ?_)
        have hP := ho_at ht hB
        obtain ⟨eq52, ok9⟩ := hw9
        obtain ⟨u52, e_u52⟩ : ∃ z, z = u9 := ⟨_, rfl⟩
        rw [← e_u52] at hP eq52 ok9
        have hO := ok9
        have hF := bnd2_s eq52 hF
        exact W.iret (v := r52) hx hb hr (fun t ht hW => ⟨⟨r52, u52, rfl, ⟨hF.trans hFF, hO⟩, ho_of ht hP⟩, hS.F ht⟩) hS.2.2 dX7_play_55
    refine lv_if_eq (tgt := 39) hx hb dX7_play_32 (by decide) (fun c32 => ?_) (fun c32 => ?_)
    · have hF := ift c32 hF
      refine lv_aload_n hx hb dX7_play_39 rfl (lv_at hl 2 rfl) ?_
      refine va_get (D := D) (ci := 9) (C := RX7) (T := TX7) (N := 17) hx hb hts inX7 hown hK hP (279) c_279 rfl 14 (by decide) (hts (.fieldLink RX7 249 "TileRunnersModel" "at" "I") (List.mem_of_getElem? (i := 2) rfl)) (fun _ h9 => h9) rfl dX7_play_40 ?_
      exact J43 (u26 494) _ _ ls hP hS (lv_sub hl [0, 2, 3] rfl) hF
    · have hF := iff_ c32 hF
      refine lv_iconst (v := (-1)) hx hb dX7_play_35 (by decide) ?_
      refine lv_goto (tgt := 43) hx hb dX7_play_36 (by decide) ?_
      exact J43 (-1) _ _ ls hP hS (lv_sub hl [0, 2, 3] rfl) hF
  · have hF := ift c15 hF
    refine lv_aload_n hx hb dX7_play_18 rfl (lv_at hl 1 rfl) ?_
    refine lv_iconst (v := 1) hx hb dX7_play_19 (by decide) ?_
    refine va_calli (va_runV (As := [.int 1]) (rest := []) ⟨hx, hb, hml, hown, hts⟩ (c7_fails l hA σ u7 1 hO) (cwV 1 hts gX7_play_X7_fails rfl rfl rfl hd_X7_failsV ⟨Nat.le_of_ble_eq_true rfl, Nat.le_of_ble_eq_true rfl⟩) ⟨hp_blind, va_recv hK hP (ci := 9) (q0 := 279) rfl c_279, hp_pre hK hN hP⟩ rfl rfl hl.1 rfl (lv_room (Nat.le_of_ble_eq_true rfl)) dX7_play_20 ⟨Nat.zero_le _, Nat.zero_le _⟩) hS (fun _ _ h => h) (fun _ h => h) (fun r20 u9 t H locs ht hvm hw9 hB hz1 hk1 hS => ?_)
    have hP := ho_at ht hB
    obtain ⟨eq20, ok9⟩ := hw9
    obtain ⟨u20, e_u20⟩ : ∃ z, z = u9 := ⟨_, rfl⟩
    rw [← e_u20] at hP eq20 ok9
    have hO := ok9
    have hF := bnd2_s eq20 hF
    exact W.iret (v := r20) hx hb hr (fun t ht hW => ⟨⟨r20, u20, rfl, ⟨hF.trans hFF, hO⟩, ho_of ht hP⟩, hS.F ht⟩) hS.2.2 dX7_play_23
theorem hd_X7_playV : yX7_play.cls = RX7 ∧ yX7_play.cls ≠ "java/lang/invoke/MethodHandle" ∧ yX7_play.cls ≠ "java/lang/invoke/VarHandle" ∧ (parseMethodDescriptor yX7_play.desc).map (fun d => d.parameters.length) = some 1 := by decide +kernel
