set_option maxHeartbeats 4000000 in
set_option maxRecDepth 100000 in
theorem c7_platformBelow (l : Launch) {D : va_G} {G : CY} {ad : Nat → Nat} {B0 : Nat} (hA : adOK B0 ad) (σ : Nat → Nat → Int32) (u : Nat → Int32) (a : Int32) (b : Int32) (c1 : Int32) (d : Int32) (hO : okM u) (hba : vp_in a 4) : Met l yX7_platformBelow wsX7_platformBelow { frames := 2, cells := 0, slots := 0, locals := 46 } (va_Pc [.ref (ad (279)), .int a, .int b, .int c1, .int d] (Hp D G ad (va_up σ 16 u))) (va_Qi (fun (r : Int32) (_ : Unit) => r = f7_platformBelow u a b c1 d) (fun (_ : Unit) => Ho D G ad (va_up σ 16 u)) (AA B0)) 0 0 (AA B0) := by
  refine Met.ofW (cc := cX7_platformBelow) (maxL := 6) (ret := (some .int)) (by decide) rfl ?_
  intro p e s m args below meth c s₁ B hml hv
  obtain ⟨rfl, hP, hK, hN⟩ := hv
  have hx := B.exec
  have hb := B.bytes
  have hr := B.returns
  have hts := atoms_spec (ws := wsX7_platformBelow) B.pre
  have hown : s.vm.findClass RX7 = some m.cls := findClass_of_methodNamed B.named
  have hlocks := B.notSynchronized
  have inX7 : ∀ w ∈ wsX70, w ∈ wsX7_platformBelow := (fun w h => List.mem_cons_of_mem _ (List.mem_append_left _ (List.mem_append_right _ h)))
  have hP : va_P D vwCl (pool G ad (va_up σ 16 u)) s.heap := hP
  have hS : va_S (AA B0) s.heap s.heap [] := va_S.rf
  have hl := lv_entry ([.ref (ad (279)), .int a, .int b, .int c1, .int d]) (n := 6) (Nat.le_of_ble_eq_true rfl)
  rw [lg_entry_eq]
  generalize (lg_sl ([.ref (ad (279)), .int a, .int b, .int c1, .int d]) ++ List.replicate (6 - (lg_sl ([.ref (ad (279)), .int a, .int b, .int c1, .int d])).length) Slot.unset).toArray = ls at hl ⊢
  have hl : lv_has ls 6 [(0, .ref (ad (279))), (1, .int a), (2, .int b), (3, .int c1), (4, .int d)] := hl
  obtain ⟨FF, hFF⟩ : ∃ z, z = f7_platformBelow u a b c1 d := ⟨_, rfl⟩
  have hF := hFF.symm
  rw [f7_platformBelow] at hF
  refine lv_iconst (v := 0) hx hb dX7_platformBelow_0 (by decide) ?_
  refine lv_istore (lv' := [(5, .int 0), (0, .ref (ad (279))), (1, .int a), (2, .int b), (3, .int c1), (4, .int d)]) hx hb dX7_platformBelow_1 hl (by decide) rfl (fun ls hl => ?_)
  have L3 : ∀ (n3 : Nat) (w5_3 : Int32) (H : Heap) (locs : List Loc) (ls : Array Slot), (4 - w5_3.toInt).toNat < n3 → 0 ≤ w5_3 → va_P D vwCl (pool G ad (va_up σ 16 u)) H → va_S (AA B0) s.heap H locs → lv_has ls 6 [(5, .int w5_3), (0, .ref (ad (279))), (1, .int a), (2, .int b), (3, .int c1), (4, .int d)] → f7_platformBelow_L3 u a b c1 d n3 w5_3 = FF → W p l e (headSpec wsX7_platformBelow { frames := 2, cells := 0, slots := 0, locals := 46 }).room s m ([.ref (ad (279)), .int a, .int b, .int c1, .int d] : List Value).toArray below meth c H locs 0 0 (MQ below (va_Qi (fun (r : Int32) (_ : Unit) => r = f7_platformBelow u a b c1 d) (fun (_ : Unit) => Ho D G ad (va_up σ 16 u)) (AA B0)) ([.ref (ad (279)), .int a, .int b, .int c1, .int d] : List Value).toArray s 0 0 (AA B0)) (F0 m 3 ls []) := by
    intro n3
    induction n3 with
    | zero => intro w5_3 H locs ls hm; exact absurd hm (Nat.not_lt_zero _)
    | succ n3 ih3 =>
      intro w5_3 H locs ls hm3 h5 hP hS hl hF
      rw [f7_platformBelow_L3] at hF
      refine lv_iload hx hb dX7_platformBelow_3 (lv_at hl 0 rfl) ?_
      refine lv_aload_n hx hb dX7_platformBelow_5 rfl (lv_at hl 1 rfl) ?_
      refine va_get (D := D) (ci := 9) (C := RX7) (T := TX7) (N := 17) hx hb hts inX7 hown hK hP (279) c_279 rfl 1 (by decide) (hts (.fieldLink RX7 7 "TileRunnersModel" "world" "[I") (List.mem_of_getElem? (i := 1) rfl)) (fun _ h9 => h9) rfl dX7_platformBelow_6 ?_
      refine lv_sipush (v := 465) hx hb dX7_platformBelow_9 (by decide) ?_
      refine pald (n := 480) (o := 0) (t := 465) (i := 465) hx hb hK hP c_280 (vp_in_iff.mpr (by decide)) rfl dX7_platformBelow_12 ?_
      refine lv_icmp_ge (tgt := 44) hx hb dX7_platformBelow_13 (by decide) (fun c13 => ?_) (fun c13 => ?_)
      · have hF := ift c13 hF
        refine lv_iconst (v := (-1)) hx hb dX7_platformBelow_44 (by decide) ?_
        exact W.iret (v := (-1)) hx hb hr (fun t ht hW => ⟨⟨(-1), (), rfl, hF.trans hFF, ho_of ht hP⟩, hS.F ht⟩) hS.2.2 dX7_platformBelow_45
      · have hF := iff_ c13 hF
        have hbw5_3 : vp_in w5_3 4 := in_n h5 (nle_lt c13) hO.1.2.2.2
        refine lv_iload hx hb dX7_platformBelow_16 (lv_at hl 0 rfl) ?_
        refine lv_iload hx hb dX7_platformBelow_18 (lv_at hl 5 rfl) ?_
        have J38 : ∀  (H : Heap) (locs : List Loc) (ls : Array Slot), va_P D vwCl (pool G ad (va_up σ 16 u)) H → va_S (AA B0) s.heap H locs → lv_has ls 6 [(5, .int w5_3), (0, .ref (ad (279))), (1, .int a), (2, .int b), (3, .int c1), (4, .int d)] → f7_platformBelow_b38 (f7_platformBelow_L3 u a b c1 d n3) w5_3  = FF → W p l e (headSpec wsX7_platformBelow { frames := 2, cells := 0, slots := 0, locals := 46 }).room s m ([.ref (ad (279)), .int a, .int b, .int c1, .int d] : List Value).toArray below meth c H locs 0 0 (MQ below (va_Qi (fun (r : Int32) (_ : Unit) => r = f7_platformBelow u a b c1 d) (fun (_ : Unit) => Ho D G ad (va_up σ 16 u)) (AA B0)) ([.ref (ad (279)), .int a, .int b, .int c1, .int d] : List Value).toArray s 0 0 (AA B0)) (F0 m 38 ls []) := by
          intro  H locs ls hP hS hl hF
          rw [f7_platformBelow_b38] at hF
          obtain ⟨v5_38, e_v5_38⟩ : ∃ z : Int32, z = w5_3 + 1 := ⟨_, rfl⟩
          have hF := bnd_s e_v5_38 hF
          refine lv_iinc (v := v5_38) (lv' := [(5, .int v5_38), (0, .ref (ad (279))), (1, .int a), (2, .int b), (3, .int c1), (4, .int d)]) hx hb dX7_platformBelow_38 hl (k := 0) rfl (by rw [e_v5_38]; rfl) (by decide) rfl (fun ls hl => ?_)
          refine lv_goto (tgt := 3) hx hb dX7_platformBelow_41 (by decide) ?_
          exact ih3 v5_38 _ _ ls (ms_s (dec_i4 hbw5_3 e_v5_38) hm3) (ge0_i4 hbw5_3 e_v5_38) hP hS (lv_sub hl [0, 1, 2, 3, 4, 5] rfl) hF
        refine lv_icmp_eq (tgt := 38) hx hb dX7_platformBelow_20 (by decide) (fun c20 => ?_) (fun c20 => ?_)
        · have hF := ift c20 hF
          exact J38  _ _ ls hP hS (lv_sub hl [0, 1, 2, 3, 4, 5] rfl) hF
        · have hF := iff_ c20 hF
          refine lv_aload_n hx hb dX7_platformBelow_23 rfl (lv_at hl 1 rfl) ?_
          refine lv_iload_n hx hb dX7_platformBelow_24 rfl (lv_at hl 2 rfl) ?_
          refine lv_iload hx hb dX7_platformBelow_25 (lv_at hl 0 rfl) ?_
          refine lv_iload_n hx hb dX7_platformBelow_27 rfl (lv_at hl 3 rfl) ?_
          refine lv_iload_n hx hb dX7_platformBelow_28 rfl (lv_at hl 4 rfl) ?_
          refine va_calli (va_runV (As := [.int a, .int w5_3, .int b, .int c1]) (rest := []) ⟨hx, hb, hml, hown, hts⟩ (c7_isOn l hA σ u a w5_3 b c1 hba hbw5_3) (cwV 4 hts gX7_platformBelow_X7_isOn rfl rfl rfl hd_X7_isOnV ⟨Nat.le_of_ble_eq_true rfl, Nat.le_of_ble_eq_true rfl⟩) ⟨hp_blind, va_recv hK hP (ci := 9) (q0 := 279) rfl c_279, hp_pre hK hN hP⟩ rfl rfl hl.1 rfl (lv_room (Nat.le_of_ble_eq_true rfl)) dX7_platformBelow_29 ⟨Nat.zero_le _, Nat.zero_le _⟩) hS (fun _ _ h => h) (fun _ h => h) (fun r29 _ t H locs ht hvm hw9 hB hz1 hk1 hS => ?_)
          have hP := ho_at ht hB
          obtain ⟨eq29, hb_r29⟩ := hw9
          have hF := bnd_s eq29 hF
          refine lv_if_eq (tgt := 38) hx hb dX7_platformBelow_32 (by decide) (fun c32 => ?_) (fun c32 => ?_)
          · have hF := ift c32 hF
            exact J38  _ _ ls hP hS (lv_sub hl [0, 1, 2, 3, 4, 5] rfl) hF
          · have hF := iff_ c32 hF
            refine lv_iload hx hb dX7_platformBelow_35 (lv_at hl 0 rfl) ?_
            exact W.iret (v := w5_3) hx hb hr (fun t ht hW => ⟨⟨w5_3, (), rfl, hF.trans hFF, ho_of ht hP⟩, hS.F ht⟩) hS.2.2 dX7_platformBelow_37
  exact L3 BIG 0 _ _ ls (big_i4 _) le0 hP hS (lv_sub hl [0, 1, 2, 3, 4, 5] rfl) hF
theorem hd_X7_platformBelowV : yX7_platformBelow.cls = RX7 ∧ yX7_platformBelow.cls ≠ "java/lang/invoke/MethodHandle" ∧ yX7_platformBelow.cls ≠ "java/lang/invoke/VarHandle" ∧ (parseMethodDescriptor yX7_platformBelow.desc).map (fun d => d.parameters.length) = some 4 := by decide +kernel
set_option maxHeartbeats 4000000 in
set_option maxRecDepth 100000 in
theorem c7_supportBut (l : Launch) {D : va_G} {G : CY} {ad : Nat → Nat} {B0 : Nat} (hA : adOK B0 ad) (σ : Nat → Nat → Int32) (u : Nat → Int32) (a : Int32) (b : Int32) (c1 : Int32) (d : Int32) (hO : okM u) (hba : vp_in a 4) : Met l yX7_supportBut wsX7_supportBut { frames := 5, cells := 0, slots := 0, locals := 115 } (va_Pc [.ref (ad (279)), .int a, .int b, .int c1, .int d] (Hp D G ad (va_up σ 16 u))) (va_Qi (fun (r : Int32) (_ : Unit) => r = f7_supportBut u a b c1 d) (fun (_ : Unit) => Ho D G ad (va_up σ 16 u)) (AA B0)) 0 0 (AA B0) := by
  refine Met.ofW (cc := cX7_supportBut) (maxL := 6) (ret := (some .int)) (by decide) rfl ?_
  intro p e s m args below meth c s₁ B hml hv
  obtain ⟨rfl, hP, hK, hN⟩ := hv
  have hx := B.exec
  have hb := B.bytes
  have hr := B.returns
  have hts := atoms_spec (ws := wsX7_supportBut) B.pre
  have hown : s.vm.findClass RX7 = some m.cls := findClass_of_methodNamed B.named
  have hlocks := B.notSynchronized
  have hP : va_P D vwCl (pool G ad (va_up σ 16 u)) s.heap := hP
  have hS : va_S (AA B0) s.heap s.heap [] := va_S.rf
  have hl := lv_entry ([.ref (ad (279)), .int a, .int b, .int c1, .int d]) (n := 6) (Nat.le_of_ble_eq_true rfl)
  rw [lg_entry_eq]
  generalize (lg_sl ([.ref (ad (279)), .int a, .int b, .int c1, .int d]) ++ List.replicate (6 - (lg_sl ([.ref (ad (279)), .int a, .int b, .int c1, .int d])).length) Slot.unset).toArray = ls at hl ⊢
  have hl : lv_has ls 6 [(0, .ref (ad (279))), (1, .int a), (2, .int b), (3, .int c1), (4, .int d)] := hl
  obtain ⟨FF, hFF⟩ : ∃ z, z = f7_supportBut u a b c1 d := ⟨_, rfl⟩
  have hF := hFF.symm
  rw [f7_supportBut] at hF
  refine lv_aload_n hx hb dX7_supportBut_0 rfl (lv_at hl 0 rfl) ?_
  refine lv_iload_n hx hb dX7_supportBut_1 rfl (lv_at hl 1 rfl) ?_
  refine lv_iload_n hx hb dX7_supportBut_2 rfl (lv_at hl 2 rfl) ?_
  refine lv_iload_n hx hb dX7_supportBut_3 rfl (lv_at hl 3 rfl) ?_
  refine va_calli (va_runV (As := [.int a, .int b, .int c1]) (rest := []) ⟨hx, hb, hml, hown, hts⟩ (c7_firmBelow l hA σ u a b c1 hba) (cwV 3 hts gX7_supportBut_X7_firmBelow rfl rfl rfl hd_X7_firmBelowV ⟨Nat.le_of_ble_eq_true rfl, Nat.le_of_ble_eq_true rfl⟩) ⟨hp_blind, va_recv hK hP (ci := 9) (q0 := 279) rfl c_279, hp_pre hK hN hP⟩ rfl rfl hl.1 rfl (lv_room (Nat.le_of_ble_eq_true rfl)) dX7_supportBut_4 ⟨Nat.zero_le _, Nat.zero_le _⟩) hS (fun _ _ h => h) (fun _ h => h) (fun r4 _ t H locs ht hvm hw9 hB hz1 hk1 hS => ?_)
  have hP := ho_at ht hB
  have eq4 := hw9
  have hF := bnd_s eq4 hF
  have J15 : ∀ (t0_15 : Int32) (H : Heap) (locs : List Loc) (ls : Array Slot), bl t0_15 → va_P D vwCl (pool G ad (va_up σ 16 u)) H → va_S (AA B0) s.heap H locs → lv_has ls 6 [(0, .ref (ad (279))), (1, .int a), (2, .int b), (3, .int c1), (4, .int d)] → f7_supportBut_b15 u a b c1 d t0_15 = FF → W p l e (headSpec wsX7_supportBut { frames := 5, cells := 0, slots := 0, locals := 115 }).room s m ([.ref (ad (279)), .int a, .int b, .int c1, .int d] : List Value).toArray below meth c H locs 0 0 (MQ below (va_Qi (fun (r : Int32) (_ : Unit) => r = f7_supportBut u a b c1 d) (fun (_ : Unit) => Ho D G ad (va_up σ 16 u)) (AA B0)) ([.ref (ad (279)), .int a, .int b, .int c1, .int d] : List Value).toArray s 0 0 (AA B0)) (F0 m 15 ls [.int t0_15]) := by
    intro t0_15 H locs ls hb_t0_15 hP hS hl hF
    rw [f7_supportBut_b15] at hF
    refine lv_aload_n hx hb dX7_supportBut_15 rfl (lv_at hl 0 rfl) ?_
    refine lv_iload_n hx hb dX7_supportBut_16 rfl (lv_at hl 1 rfl) ?_
    refine lv_iload_n hx hb dX7_supportBut_17 rfl (lv_at hl 2 rfl) ?_
    refine lv_iload_n hx hb dX7_supportBut_18 rfl (lv_at hl 3 rfl) ?_
    refine va_calli (va_runV (As := [.int a, .int b, .int c1]) (rest := [.int t0_15]) ⟨hx, hb, hml, hown, hts⟩ (c7_isOnSlope l hA σ u a b c1 hba) (cwV 3 hts gX7_supportBut_X7_isOnSlope rfl rfl rfl hd_X7_isOnSlopeV ⟨Nat.le_of_ble_eq_true rfl, Nat.le_of_ble_eq_true rfl⟩) ⟨hp_blind, va_recv hK hP (ci := 9) (q0 := 279) rfl c_279, hp_pre hK hN hP⟩ rfl rfl hl.1 rfl (lv_room (Nat.le_of_ble_eq_true rfl)) dX7_supportBut_19 ⟨Nat.zero_le _, Nat.zero_le _⟩) hS (fun _ _ h => h) (fun _ h => h) (fun r19 _ t H locs ht hvm hw9 hB hz1 hk1 hS => ?_)
    have hP := ho_at ht hB
    obtain ⟨eq19, hb_r19⟩ := hw9
    have hF := bnd_s eq19 hF
    have J30 : ∀ (t0_30 : Int32) (H : Heap) (locs : List Loc) (ls : Array Slot), va_P D vwCl (pool G ad (va_up σ 16 u)) H → va_S (AA B0) s.heap H locs → lv_has ls 6 [(0, .ref (ad (279))), (1, .int a), (2, .int b), (3, .int c1), (4, .int d)] → f7_supportBut_b30 u a b c1 d t0_15 t0_30 = FF → W p l e (headSpec wsX7_supportBut { frames := 5, cells := 0, slots := 0, locals := 115 }).room s m ([.ref (ad (279)), .int a, .int b, .int c1, .int d] : List Value).toArray below meth c H locs 0 0 (MQ below (va_Qi (fun (r : Int32) (_ : Unit) => r = f7_supportBut u a b c1 d) (fun (_ : Unit) => Ho D G ad (va_up σ 16 u)) (AA B0)) ([.ref (ad (279)), .int a, .int b, .int c1, .int d] : List Value).toArray s 0 0 (AA B0)) (F0 m 30 ls [.int t0_30, .int t0_15]) := by
      intro t0_30 H locs ls hP hS hl hF
      rw [f7_supportBut_b30] at hF
      refine lv_iadd hx hb dX7_supportBut_30 ?_
      refine lv_topi (fun v5_31 e_v5_31 => ?_)
      have hF := bnd_s e_v5_31 hF
      refine lv_istore (lv' := [(5, .int v5_31), (0, .ref (ad (279))), (1, .int a), (2, .int b), (3, .int c1), (4, .int d)]) hx hb dX7_supportBut_31 hl (by decide) rfl (fun ls hl => ?_)
      refine lv_aload_n hx hb dX7_supportBut_33 rfl (lv_at hl 1 rfl) ?_
      refine lv_iload_n hx hb dX7_supportBut_34 rfl (lv_at hl 2 rfl) ?_
      refine lv_bipush (v := 6) hx hb dX7_supportBut_35 (by decide) ?_
      refine va_calli (va_runV (As := [.int a, .int 6]) (rest := []) ⟨hx, hb, hml, hown, hts⟩ (c7_of l hA σ u a 6 (vp_in_iff.mpr (by decide)) hba) (cwV 2 hts gX7_supportBut_X7_of rfl rfl rfl hd_X7_ofV ⟨Nat.le_of_ble_eq_true rfl, Nat.le_of_ble_eq_true rfl⟩) ⟨hp_blind, va_recv hK hP (ci := 9) (q0 := 279) rfl c_279, hp_pre hK hN hP⟩ rfl rfl hl.1 rfl (lv_room (Nat.le_of_ble_eq_true rfl)) dX7_supportBut_37 ⟨Nat.zero_le _, Nat.zero_le _⟩) hS (fun _ _ h => h) (fun _ h => h) (fun r37 _ t H locs ht hvm hw9 hB hz1 hk1 hS => ?_)
      have hP := ho_at ht hB
      have eq37 := hw9
      have hF := bnd_s eq37 hF
      refine lv_if_le (tgt := 46) hx hb dX7_supportBut_40 (by decide) (fun c40 => ?_) (fun c40 => ?_)
      · have hF := ift c40 hF
        refine lv_iload hx hb dX7_supportBut_46 (lv_at hl 0 rfl) ?_
        refine lv_aload_n hx hb dX7_supportBut_48 rfl (lv_at hl 1 rfl) ?_
        refine lv_iload_n hx hb dX7_supportBut_49 rfl (lv_at hl 2 rfl) ?_
        refine lv_iload_n hx hb dX7_supportBut_50 rfl (lv_at hl 3 rfl) ?_
        refine lv_iload_n hx hb dX7_supportBut_51 rfl (lv_at hl 4 rfl) ?_
        refine va_calli (va_runV (As := [.int a, .int b, .int c1]) (rest := [.int v5_31]) ⟨hx, hb, hml, hown, hts⟩ (c7_hasOneWay l hA σ u a b c1 hba) (cwV 3 hts gX7_supportBut_X7_hasOneWay rfl rfl rfl hd_X7_hasOneWayV ⟨Nat.le_of_ble_eq_true rfl, Nat.le_of_ble_eq_true rfl⟩) ⟨hp_blind, va_recv hK hP (ci := 9) (q0 := 279) rfl c_279, hp_pre hK hN hP⟩ rfl rfl hl.1 rfl (lv_room (Nat.le_of_ble_eq_true rfl)) dX7_supportBut_52 ⟨Nat.zero_le _, Nat.zero_le _⟩) hS (fun _ _ h => h) (fun _ h => h) (fun r52 _ t H locs ht hvm hw9 hB hz1 hk1 hS => ?_)
        have hP := ho_at ht hB
        obtain ⟨eq52, hb_r52⟩ := hw9
        have hF := bnd_s eq52 hF
        have J63 : ∀ (t0_63 : Int32) (H : Heap) (locs : List Loc) (ls : Array Slot), va_P D vwCl (pool G ad (va_up σ 16 u)) H → va_S (AA B0) s.heap H locs → lv_has ls 6 [(0, .ref (ad (279))), (1, .int a), (2, .int b), (3, .int c1), (4, .int d)] → f7_supportBut_b63 u a b c1 d v5_31 t0_63 = FF → W p l e (headSpec wsX7_supportBut { frames := 5, cells := 0, slots := 0, locals := 115 }).room s m ([.ref (ad (279)), .int a, .int b, .int c1, .int d] : List Value).toArray below meth c H locs 0 0 (MQ below (va_Qi (fun (r : Int32) (_ : Unit) => r = f7_supportBut u a b c1 d) (fun (_ : Unit) => Ho D G ad (va_up σ 16 u)) (AA B0)) ([.ref (ad (279)), .int a, .int b, .int c1, .int d] : List Value).toArray s 0 0 (AA B0)) (F0 m 63 ls [.int t0_63, .int v5_31]) := by
          intro t0_63 H locs ls hP hS hl hF
          rw [f7_supportBut_b63] at hF
          refine lv_iadd hx hb dX7_supportBut_63 ?_
          refine lv_aload_n hx hb dX7_supportBut_64 rfl (lv_at hl 0 rfl) ?_
          refine lv_iload_n hx hb dX7_supportBut_65 rfl (lv_at hl 1 rfl) ?_
          refine lv_iload_n hx hb dX7_supportBut_66 rfl (lv_at hl 2 rfl) ?_
          refine lv_iload_n hx hb dX7_supportBut_67 rfl (lv_at hl 3 rfl) ?_
          refine lv_iload hx hb dX7_supportBut_68 (lv_at hl 4 rfl) ?_
          refine va_calli (va_runV (As := [.int a, .int b, .int c1, .int d]) (rest := [.int (v5_31 + t0_63)]) ⟨hx, hb, hml, hown, hts⟩ (c7_platformBelow l hA σ u a b c1 d hO hba) (cwV 4 hts gX7_supportBut_X7_platformBelow rfl rfl rfl hd_X7_platformBelowV ⟨Nat.le_of_ble_eq_true rfl, Nat.le_of_ble_eq_true rfl⟩) ⟨hp_blind, va_recv hK hP (ci := 9) (q0 := 279) rfl c_279, hp_pre hK hN hP⟩ rfl rfl hl.1 rfl (lv_room (Nat.le_of_ble_eq_true rfl)) dX7_supportBut_70 ⟨Nat.zero_le _, Nat.zero_le _⟩) hS (fun _ _ h => h) (fun _ h => h) (fun r70 _ t H locs ht hvm hw9 hB hz1 hk1 hS => ?_)
          have hP := ho_at ht hB
          have eq70 := hw9
          have hF := bnd_s eq70 hF
          refine lv_if_lt (tgt := 81) hx hb dX7_supportBut_73 (by decide) (fun c73 => ?_) (fun c73 => ?_)
          · have hF := ift c73 hF
            refine lv_iconst (v := 0) hx hb dX7_supportBut_81 (by decide) ?_
            refine lv_iadd hx hb dX7_supportBut_82 ?_
            exact W.iret (v := ((v5_31 + t0_63) + 0)) hx hb hr (fun t ht hW => ⟨⟨((v5_31 + t0_63) + 0), (), rfl, hF.trans hFF, ho_of ht hP⟩, hS.F ht⟩) hS.2.2 dX7_supportBut_83
          · have hF := iff_ c73 hF
            refine lv_bipush (v := 8) hx hb dX7_supportBut_76 (by decide) ?_
            refine lv_goto (tgt := 82) hx hb dX7_supportBut_78 (by decide) ?_
            refine lv_iadd hx hb dX7_supportBut_82 ?_
            exact W.iret (v := ((v5_31 + t0_63) + 8)) hx hb hr (fun t ht hW => ⟨⟨((v5_31 + t0_63) + 8), (), rfl, hF.trans hFF, ho_of ht hP⟩, hS.F ht⟩) hS.2.2 dX7_supportBut_83
        refine lv_if_eq (tgt := 62) hx hb dX7_supportBut_55 (by decide) (fun c55 => ?_) (fun c55 => ?_)
        · have hF := ift c55 hF
          refine lv_iconst (v := 0) hx hb dX7_supportBut_62 (by decide) ?_
          exact J63 0 _ _ ls hP hS (lv_sub hl [1, 2, 3, 4, 5] rfl) hF
        · have hF := iff_ c55 hF
          refine lv_iconst (v := 2) hx hb dX7_supportBut_58 (by decide) ?_
          refine lv_goto (tgt := 63) hx hb dX7_supportBut_59 (by decide) ?_
          exact J63 2 _ _ ls hP hS (lv_sub hl [1, 2, 3, 4, 5] rfl) hF
      · have hF := iff_ c40 hF
        refine lv_iload hx hb dX7_supportBut_43 (lv_at hl 0 rfl) ?_
        exact W.iret (v := v5_31) hx hb hr (fun t ht hW => ⟨⟨v5_31, (), rfl, hF.trans hFF, ho_of ht hP⟩, hS.F ht⟩) hS.2.2 dX7_supportBut_45
    refine lv_if_eq (tgt := 29) hx hb dX7_supportBut_22 (by decide) (fun c22 => ?_) (fun c22 => ?_)
    · have hF := ift c22 hF
      refine lv_iconst (v := 0) hx hb dX7_supportBut_29 (by decide) ?_
      exact J30 0 _ _ ls hP hS (lv_sub hl [0, 1, 2, 3, 4] rfl) hF
    · have hF := iff_ c22 hF
      refine lv_iconst (v := 4) hx hb dX7_supportBut_25 (by decide) ?_
      refine lv_goto (tgt := 30) hx hb dX7_supportBut_26 (by decide) ?_
      exact J30 4 _ _ ls hP hS (lv_sub hl [0, 1, 2, 3, 4] rfl) hF
  refine lv_if_eq (tgt := 14) hx hb dX7_supportBut_7 (by decide) (fun c7 => ?_) (fun c7 => ?_)
  · have hF := ift c7 hF
    refine lv_iconst (v := 0) hx hb dX7_supportBut_14 (by decide) ?_
    exact J15 0 _ _ ls bl0 hP hS (lv_sub hl [0, 1, 2, 3, 4] rfl) hF
  · have hF := iff_ c7 hF
    refine lv_iconst (v := 1) hx hb dX7_supportBut_10 (by decide) ?_
    refine lv_goto (tgt := 15) hx hb dX7_supportBut_11 (by decide) ?_
    exact J15 1 _ _ ls bl1 hP hS (lv_sub hl [0, 1, 2, 3, 4] rfl) hF
theorem hd_X7_supportButV : yX7_supportBut.cls = RX7 ∧ yX7_supportBut.cls ≠ "java/lang/invoke/MethodHandle" ∧ yX7_supportBut.cls ≠ "java/lang/invoke/VarHandle" ∧ (parseMethodDescriptor yX7_supportBut.desc).map (fun d => d.parameters.length) = some 4 := by decide +kernel
set_option maxHeartbeats 4000000 in
set_option maxRecDepth 100000 in
theorem c7_supportAt (l : Launch) {D : va_G} {G : CY} {ad : Nat → Nat} {B0 : Nat} (hA : adOK B0 ad) (σ : Nat → Nat → Int32) (u : Nat → Int32) (a : Int32) (b : Int32) (c1 : Int32) (hO : okM u) (hba : vp_in a 4) : Met l yX7_supportAt wsX7_supportAt { frames := 6, cells := 0, slots := 0, locals := 140 } (va_Pc [.ref (ad (279)), .int a, .int b, .int c1] (Hp D G ad (va_up σ 16 u))) (va_Qi (fun (r : Int32) (_ : Unit) => r = f7_supportAt u a b c1) (fun (_ : Unit) => Ho D G ad (va_up σ 16 u)) (AA B0)) 0 0 (AA B0) := by
  refine Met.ofW (cc := cX7_supportAt) (maxL := 4) (ret := (some .int)) (by decide) rfl ?_
  intro p e s m args below meth c s₁ B hml hv
  obtain ⟨rfl, hP, hK, hN⟩ := hv
  have hx := B.exec
  have hb := B.bytes
  have hr := B.returns
  have hts := atoms_spec (ws := wsX7_supportAt) B.pre
  have hown : s.vm.findClass RX7 = some m.cls := findClass_of_methodNamed B.named
  have hlocks := B.notSynchronized
  have hP : va_P D vwCl (pool G ad (va_up σ 16 u)) s.heap := hP
  have hS : va_S (AA B0) s.heap s.heap [] := va_S.rf
  have hl := lv_entry ([.ref (ad (279)), .int a, .int b, .int c1]) (n := 4) (Nat.le_of_ble_eq_true rfl)
  rw [lg_entry_eq]
  generalize (lg_sl ([.ref (ad (279)), .int a, .int b, .int c1]) ++ List.replicate (4 - (lg_sl ([.ref (ad (279)), .int a, .int b, .int c1])).length) Slot.unset).toArray = ls at hl ⊢
  have hl : lv_has ls 4 [(0, .ref (ad (279))), (1, .int a), (2, .int b), (3, .int c1)] := hl
  obtain ⟨FF, hFF⟩ : ∃ z, z = f7_supportAt u a b c1 := ⟨_, rfl⟩
  have hF := hFF.symm
  rw [f7_supportAt] at hF
  refine lv_aload_n hx hb dX7_supportAt_0 rfl (lv_at hl 0 rfl) ?_
  refine lv_iload_n hx hb dX7_supportAt_1 rfl (lv_at hl 1 rfl) ?_
  refine lv_iload_n hx hb dX7_supportAt_2 rfl (lv_at hl 2 rfl) ?_
  refine lv_iload_n hx hb dX7_supportAt_3 rfl (lv_at hl 3 rfl) ?_
  refine lv_iconst (v := (-1)) hx hb dX7_supportAt_4 (by decide) ?_
  refine va_calli (va_runV (As := [.int a, .int b, .int c1, .int (-1)]) (rest := []) ⟨hx, hb, hml, hown, hts⟩ (c7_supportBut l hA σ u a b c1 (-1) hO hba) (cwV 4 hts gX7_supportAt_X7_supportBut rfl rfl rfl hd_X7_supportButV ⟨Nat.le_of_ble_eq_true rfl, Nat.le_of_ble_eq_true rfl⟩) ⟨hp_blind, va_recv hK hP (ci := 9) (q0 := 279) rfl c_279, hp_pre hK hN hP⟩ rfl rfl hl.1 rfl (lv_room (Nat.le_of_ble_eq_true rfl)) dX7_supportAt_5 ⟨Nat.zero_le _, Nat.zero_le _⟩) hS (fun _ _ h => h) (fun _ h => h) (fun r5 _ t H locs ht hvm hw9 hB hz1 hk1 hS => ?_)
  have hP := ho_at ht hB
  have eq5 := hw9
  have hF := bnd_s eq5 hF
  exact W.iret (v := r5) hx hb hr (fun t ht hW => ⟨⟨r5, (), rfl, hF.trans hFF, ho_of ht hP⟩, hS.F ht⟩) hS.2.2 dX7_supportAt_8
theorem hd_X7_supportAtV : yX7_supportAt.cls = RX7 ∧ yX7_supportAt.cls ≠ "java/lang/invoke/MethodHandle" ∧ yX7_supportAt.cls ≠ "java/lang/invoke/VarHandle" ∧ (parseMethodDescriptor yX7_supportAt.desc).map (fun d => d.parameters.length) = some 3 := by decide +kernel
set_option maxHeartbeats 4000000 in
set_option maxRecDepth 100000 in
theorem c7_supportOf (l : Launch) {D : va_G} {G : CY} {ad : Nat → Nat} {B0 : Nat} (hA : adOK B0 ad) (σ : Nat → Nat → Int32) (u : Nat → Int32) (a : Int32) (hO : okM u) (hba : vp_in a 4) : Met l yX7_supportOf wsX7_supportOf { frames := 7, cells := 0, slots := 0, locals := 163 } (va_Pc [.ref (ad (279)), .int a] (Hp D G ad (va_up σ 16 u))) (va_Qi (fun (r : Int32) (_ : Unit) => r = f7_supportOf u a) (fun (_ : Unit) => Ho D G ad (va_up σ 16 u)) (AA B0)) 0 0 (AA B0) := by
  refine Met.ofW (cc := cX7_supportOf) (maxL := 2) (ret := (some .int)) (by decide) rfl ?_
  intro p e s m args below meth c s₁ B hml hv
  obtain ⟨rfl, hP, hK, hN⟩ := hv
  have hx := B.exec
  have hb := B.bytes
  have hr := B.returns
  have hts := atoms_spec (ws := wsX7_supportOf) B.pre
  have hown : s.vm.findClass RX7 = some m.cls := findClass_of_methodNamed B.named
  have hlocks := B.notSynchronized
  have hP : va_P D vwCl (pool G ad (va_up σ 16 u)) s.heap := hP
  have hS : va_S (AA B0) s.heap s.heap [] := va_S.rf
  have hl := lv_entry ([.ref (ad (279)), .int a]) (n := 2) (Nat.le_of_ble_eq_true rfl)
  rw [lg_entry_eq]
  generalize (lg_sl ([.ref (ad (279)), .int a]) ++ List.replicate (2 - (lg_sl ([.ref (ad (279)), .int a])).length) Slot.unset).toArray = ls at hl ⊢
  have hl : lv_has ls 2 [(0, .ref (ad (279))), (1, .int a)] := hl
  obtain ⟨FF, hFF⟩ : ∃ z, z = f7_supportOf u a := ⟨_, rfl⟩
  have hF := hFF.symm
  rw [f7_supportOf] at hF
  refine lv_aload_n hx hb dX7_supportOf_0 rfl (lv_at hl 0 rfl) ?_
  refine lv_iload_n hx hb dX7_supportOf_1 rfl (lv_at hl 1 rfl) ?_
  refine lv_aload_n hx hb dX7_supportOf_2 rfl (lv_at hl 0 rfl) ?_
  refine lv_iload_n hx hb dX7_supportOf_3 rfl (lv_at hl 1 rfl) ?_
  refine lv_iconst (v := 0) hx hb dX7_supportOf_4 (by decide) ?_
  refine va_calli (va_runV (As := [.int a, .int 0]) (rest := [.int a, .ref (ad (279))]) ⟨hx, hb, hml, hown, hts⟩ (c7_of l hA σ u a 0 (vp_in_iff.mpr (by decide)) hba) (cwV 2 hts gX7_supportOf_X7_of rfl rfl rfl hd_X7_ofV ⟨Nat.le_of_ble_eq_true rfl, Nat.le_of_ble_eq_true rfl⟩) ⟨hp_blind, va_recv hK hP (ci := 9) (q0 := 279) rfl c_279, hp_pre hK hN hP⟩ rfl rfl hl.1 rfl (lv_room (Nat.le_of_ble_eq_true rfl)) dX7_supportOf_5 ⟨Nat.zero_le _, Nat.zero_le _⟩) hS (fun _ _ h => h) (fun _ h => h) (fun r5 _ t H locs ht hvm hw9 hB hz1 hk1 hS => ?_)
  have hP := ho_at ht hB
  have eq5 := hw9
  have hF := bnd_s eq5 hF
  refine lv_aload_n hx hb dX7_supportOf_8 rfl (lv_at hl 0 rfl) ?_
  refine lv_iload_n hx hb dX7_supportOf_9 rfl (lv_at hl 1 rfl) ?_
  refine lv_iconst (v := 1) hx hb dX7_supportOf_10 (by decide) ?_
  refine va_calli (va_runV (As := [.int a, .int 1]) (rest := [.int r5, .int a, .ref (ad (279))]) ⟨hx, hb, hml, hown, hts⟩ (c7_of l hA σ u a 1 (vp_in_iff.mpr (by decide)) hba) (cwV 2 hts gX7_supportOf_X7_of rfl rfl rfl hd_X7_ofV ⟨Nat.le_of_ble_eq_true rfl, Nat.le_of_ble_eq_true rfl⟩) ⟨hp_blind, va_recv hK hP (ci := 9) (q0 := 279) rfl c_279, hp_pre hK hN hP⟩ rfl rfl hl.1 rfl (lv_room (Nat.le_of_ble_eq_true rfl)) dX7_supportOf_11 ⟨Nat.zero_le _, Nat.zero_le _⟩) hS (fun _ _ h => h) (fun _ h => h) (fun r11 _ t H locs ht hvm hw9 hB hz1 hk1 hS => ?_)
  have hP := ho_at ht hB
  have eq11 := hw9
  have hF := bnd_s eq11 hF
  refine va_calli (va_runV (As := [.int a, .int r5, .int r11]) (rest := []) ⟨hx, hb, hml, hown, hts⟩ (c7_supportAt l hA σ u a r5 r11 hO hba) (cwV 3 hts gX7_supportOf_X7_supportAt rfl rfl rfl hd_X7_supportAtV ⟨Nat.le_of_ble_eq_true rfl, Nat.le_of_ble_eq_true rfl⟩) ⟨hp_blind, va_recv hK hP (ci := 9) (q0 := 279) rfl c_279, hp_pre hK hN hP⟩ rfl rfl hl.1 rfl (lv_room (Nat.le_of_ble_eq_true rfl)) dX7_supportOf_14 ⟨Nat.zero_le _, Nat.zero_le _⟩) hS (fun _ _ h => h) (fun _ h => h) (fun r14 _ t H locs ht hvm hw9 hB hz1 hk1 hS => ?_)
  have hP := ho_at ht hB
  have eq14 := hw9
  have hF := bnd_s eq14 hF
  exact W.iret (v := r14) hx hb hr (fun t ht hW => ⟨⟨r14, (), rfl, hF.trans hFF, ho_of ht hP⟩, hS.F ht⟩) hS.2.2 dX7_supportOf_17
theorem hd_X7_supportOfV : yX7_supportOf.cls = RX7 ∧ yX7_supportOf.cls ≠ "java/lang/invoke/MethodHandle" ∧ yX7_supportOf.cls ≠ "java/lang/invoke/VarHandle" ∧ (parseMethodDescriptor yX7_supportOf.desc).map (fun d => d.parameters.length) = some 1 := by decide +kernel
set_option maxHeartbeats 4000000 in
set_option maxRecDepth 100000 in
theorem c7_doesStand (l : Launch) {D : va_G} {G : CY} {ad : Nat → Nat} {B0 : Nat} (hA : adOK B0 ad) (σ : Nat → Nat → Int32) (u : Nat → Int32) (a : Int32) (hO : okM u) (hba : vp_in a 4) : Met l yX7_doesStand wsX7_doesStand { frames := 8, cells := 0, slots := 0, locals := 184 } (va_Pc [.ref (ad (279)), .int a] (Hp D G ad (va_up σ 16 u))) (va_Qi (fun (r : Int32) (_ : Unit) => r = f7_doesStand u a ∧ bl r) (fun (_ : Unit) => Ho D G ad (va_up σ 16 u)) (AA B0)) 0 0 (AA B0) := by
  refine Met.ofW (cc := cX7_doesStand) (maxL := 2) (ret := (some .boolean)) (by decide) rfl ?_
  intro p e s m args below meth c s₁ B hml hv
  obtain ⟨rfl, hP, hK, hN⟩ := hv
  have hx := B.exec
  have hb := B.bytes
  have hr := B.returns
  have hts := atoms_spec (ws := wsX7_doesStand) B.pre
  have hown : s.vm.findClass RX7 = some m.cls := findClass_of_methodNamed B.named
  have hlocks := B.notSynchronized
  have hP : va_P D vwCl (pool G ad (va_up σ 16 u)) s.heap := hP
  have hS : va_S (AA B0) s.heap s.heap [] := va_S.rf
  have hl := lv_entry ([.ref (ad (279)), .int a]) (n := 2) (Nat.le_of_ble_eq_true rfl)
  rw [lg_entry_eq]
  generalize (lg_sl ([.ref (ad (279)), .int a]) ++ List.replicate (2 - (lg_sl ([.ref (ad (279)), .int a])).length) Slot.unset).toArray = ls at hl ⊢
  have hl : lv_has ls 2 [(0, .ref (ad (279))), (1, .int a)] := hl
  obtain ⟨FF, hFF⟩ : ∃ z, z = f7_doesStand u a := ⟨_, rfl⟩
  have hF := hFF.symm
  rw [f7_doesStand] at hF
  refine lv_aload_n hx hb dX7_doesStand_0 rfl (lv_at hl 0 rfl) ?_
  refine lv_iload_n hx hb dX7_doesStand_1 rfl (lv_at hl 1 rfl) ?_
  refine lv_iconst (v := 3) hx hb dX7_doesStand_2 (by decide) ?_
  refine va_calli (va_runV (As := [.int a, .int 3]) (rest := []) ⟨hx, hb, hml, hown, hts⟩ (c7_of l hA σ u a 3 (vp_in_iff.mpr (by decide)) hba) (cwV 2 hts gX7_doesStand_X7_of rfl rfl rfl hd_X7_ofV ⟨Nat.le_of_ble_eq_true rfl, Nat.le_of_ble_eq_true rfl⟩) ⟨hp_blind, va_recv hK hP (ci := 9) (q0 := 279) rfl c_279, hp_pre hK hN hP⟩ rfl rfl hl.1 rfl (lv_room (Nat.le_of_ble_eq_true rfl)) dX7_doesStand_3 ⟨Nat.zero_le _, Nat.zero_le _⟩) hS (fun _ _ h => h) (fun _ h => h) (fun r3 _ t H locs ht hvm hw9 hB hz1 hk1 hS => ?_)
  have hP := ho_at ht hB
  have eq3 := hw9
  have hF := bnd_s eq3 hF
  refine lv_if_gt (tgt := 21) hx hb dX7_doesStand_6 (by decide) (fun c6 => ?_) (fun c6 => ?_)
  · have hF := ift c6 hF
    refine lv_iconst (v := 0) hx hb dX7_doesStand_21 (by decide) ?_
    exact W.zret (v := 0) hx hb hr (bl_nar bl0) (fun t ht hW => ⟨⟨0, (), rfl, ⟨hF.trans hFF, bl0⟩, ho_of ht hP⟩, hS.F ht⟩) hS.2.2 dX7_doesStand_22
  · have hF := iff_ c6 hF
    refine lv_aload_n hx hb dX7_doesStand_9 rfl (lv_at hl 0 rfl) ?_
    refine lv_iload_n hx hb dX7_doesStand_10 rfl (lv_at hl 1 rfl) ?_
    refine va_calli (va_runV (As := [.int a]) (rest := []) ⟨hx, hb, hml, hown, hts⟩ (c7_supportOf l hA σ u a hO hba) (cwV 1 hts gX7_doesStand_X7_supportOf rfl rfl rfl hd_X7_supportOfV ⟨Nat.le_of_ble_eq_true rfl, Nat.le_of_ble_eq_true rfl⟩) ⟨hp_blind, va_recv hK hP (ci := 9) (q0 := 279) rfl c_279, hp_pre hK hN hP⟩ rfl rfl hl.1 rfl (lv_room (Nat.le_of_ble_eq_true rfl)) dX7_doesStand_11 ⟨Nat.zero_le _, Nat.zero_le _⟩) hS (fun _ _ h => h) (fun _ h => h) (fun r11 _ t H locs ht hvm hw9 hB hz1 hk1 hS => ?_)
    have hP := ho_at ht hB
    have eq11 := hw9
    have hF := bnd_s eq11 hF
    refine lv_if_eq (tgt := 21) hx hb dX7_doesStand_14 (by decide) (fun c14 => ?_) (fun c14 => ?_)
    · have hF := ift c14 hF
      refine lv_iconst (v := 0) hx hb dX7_doesStand_21 (by decide) ?_
      exact W.zret (v := 0) hx hb hr (bl_nar bl0) (fun t ht hW => ⟨⟨0, (), rfl, ⟨hF.trans hFF, bl0⟩, ho_of ht hP⟩, hS.F ht⟩) hS.2.2 dX7_doesStand_22
    · have hF := iff_ c14 hF
      refine lv_iconst (v := 1) hx hb dX7_doesStand_17 (by decide) ?_
      refine lv_goto (tgt := 22) hx hb dX7_doesStand_18 (by decide) ?_
      exact W.zret (v := 1) hx hb hr (bl_nar bl1) (fun t ht hW => ⟨⟨1, (), rfl, ⟨hF.trans hFF, bl1⟩, ho_of ht hP⟩, hS.F ht⟩) hS.2.2 dX7_doesStand_22
theorem hd_X7_doesStandV : yX7_doesStand.cls = RX7 ∧ yX7_doesStand.cls ≠ "java/lang/invoke/MethodHandle" ∧ yX7_doesStand.cls ≠ "java/lang/invoke/VarHandle" ∧ (parseMethodDescriptor yX7_doesStand.desc).map (fun d => d.parameters.length) = some 1 := by decide +kernel
set_option maxHeartbeats 4000000 in
set_option maxRecDepth 100000 in
theorem c7_isOnIce (l : Launch) {D : va_G} {G : CY} {ad : Nat → Nat} {B0 : Nat} (hA : adOK B0 ad) (σ : Nat → Nat → Int32) (u : Nat → Int32) (a : Int32) (hba : vp_in a 4) : Met l yX7_isOnIce wsX7_isOnIce { frames := 5, cells := 0, slots := 0, locals := 115 } (va_Pc [.ref (ad (279)), .int a] (Hp D G ad (va_up σ 16 u))) (va_Qi (fun (r : Int32) (_ : Unit) => r = f7_isOnIce u a ∧ bl r) (fun (_ : Unit) => Ho D G ad (va_up σ 16 u)) (AA B0)) 0 0 (AA B0) := by
  refine Met.ofW (cc := cX7_isOnIce) (maxL := 2) (ret := (some .boolean)) (by decide) rfl ?_
  intro p e s m args below meth c s₁ B hml hv
  obtain ⟨rfl, hP, hK, hN⟩ := hv
  have hx := B.exec
  have hb := B.bytes
  have hr := B.returns
  have hts := atoms_spec (ws := wsX7_isOnIce) B.pre
  have hown : s.vm.findClass RX7 = some m.cls := findClass_of_methodNamed B.named
  have hlocks := B.notSynchronized
  have hP : va_P D vwCl (pool G ad (va_up σ 16 u)) s.heap := hP
  have hS : va_S (AA B0) s.heap s.heap [] := va_S.rf
  have hl := lv_entry ([.ref (ad (279)), .int a]) (n := 2) (Nat.le_of_ble_eq_true rfl)
  rw [lg_entry_eq]
  generalize (lg_sl ([.ref (ad (279)), .int a]) ++ List.replicate (2 - (lg_sl ([.ref (ad (279)), .int a])).length) Slot.unset).toArray = ls at hl ⊢
  have hl : lv_has ls 2 [(0, .ref (ad (279))), (1, .int a)] := hl
  obtain ⟨FF, hFF⟩ : ∃ z, z = f7_isOnIce u a := ⟨_, rfl⟩
  have hF := hFF.symm
  rw [f7_isOnIce] at hF
  refine lv_aload_n hx hb dX7_isOnIce_0 rfl (lv_at hl 0 rfl) ?_
  refine lv_iload_n hx hb dX7_isOnIce_1 rfl (lv_at hl 1 rfl) ?_
  refine lv_aload_n hx hb dX7_isOnIce_2 rfl (lv_at hl 0 rfl) ?_
  refine lv_iload_n hx hb dX7_isOnIce_3 rfl (lv_at hl 1 rfl) ?_
  refine lv_iconst (v := 0) hx hb dX7_isOnIce_4 (by decide) ?_
  refine va_calli (va_runV (As := [.int a, .int 0]) (rest := [.int a, .ref (ad (279))]) ⟨hx, hb, hml, hown, hts⟩ (c7_of l hA σ u a 0 (vp_in_iff.mpr (by decide)) hba) (cwV 2 hts gX7_isOnIce_X7_of rfl rfl rfl hd_X7_ofV ⟨Nat.le_of_ble_eq_true rfl, Nat.le_of_ble_eq_true rfl⟩) ⟨hp_blind, va_recv hK hP (ci := 9) (q0 := 279) rfl c_279, hp_pre hK hN hP⟩ rfl rfl hl.1 rfl (lv_room (Nat.le_of_ble_eq_true rfl)) dX7_isOnIce_5 ⟨Nat.zero_le _, Nat.zero_le _⟩) hS (fun _ _ h => h) (fun _ h => h) (fun r5 _ t H locs ht hvm hw9 hB hz1 hk1 hS => ?_)
  have hP := ho_at ht hB
  have eq5 := hw9
  have hF := bnd_s eq5 hF
  refine lv_aload_n hx hb dX7_isOnIce_8 rfl (lv_at hl 0 rfl) ?_
  refine lv_iload_n hx hb dX7_isOnIce_9 rfl (lv_at hl 1 rfl) ?_
  refine lv_iconst (v := 1) hx hb dX7_isOnIce_10 (by decide) ?_
  refine va_calli (va_runV (As := [.int a, .int 1]) (rest := [.int r5, .int a, .ref (ad (279))]) ⟨hx, hb, hml, hown, hts⟩ (c7_of l hA σ u a 1 (vp_in_iff.mpr (by decide)) hba) (cwV 2 hts gX7_isOnIce_X7_of rfl rfl rfl hd_X7_ofV ⟨Nat.le_of_ble_eq_true rfl, Nat.le_of_ble_eq_true rfl⟩) ⟨hp_blind, va_recv hK hP (ci := 9) (q0 := 279) rfl c_279, hp_pre hK hN hP⟩ rfl rfl hl.1 rfl (lv_room (Nat.le_of_ble_eq_true rfl)) dX7_isOnIce_11 ⟨Nat.zero_le _, Nat.zero_le _⟩) hS (fun _ _ h => h) (fun _ h => h) (fun r11 _ t H locs ht hvm hw9 hB hz1 hk1 hS => ?_)
  have hP := ho_at ht hB
  have eq11 := hw9
  have hF := bnd_s eq11 hF
  refine va_calli (va_runV (As := [.int a, .int r5, .int r11]) (rest := []) ⟨hx, hb, hml, hown, hts⟩ (c7_firmBelow l hA σ u a r5 r11 hba) (cwV 3 hts gX7_isOnIce_X7_firmBelow rfl rfl rfl hd_X7_firmBelowV ⟨Nat.le_of_ble_eq_true rfl, Nat.le_of_ble_eq_true rfl⟩) ⟨hp_blind, va_recv hK hP (ci := 9) (q0 := 279) rfl c_279, hp_pre hK hN hP⟩ rfl rfl hl.1 rfl (lv_room (Nat.le_of_ble_eq_true rfl)) dX7_isOnIce_14 ⟨Nat.zero_le _, Nat.zero_le _⟩) hS (fun _ _ h => h) (fun _ h => h) (fun r14 _ t H locs ht hvm hw9 hB hz1 hk1 hS => ?_)
  have hP := ho_at ht hB
  have eq14 := hw9
  have hF := bnd_s eq14 hF
  refine lv_bipush (v := 32) hx hb dX7_isOnIce_17 (by decide) ?_
  refine lv_icmp_ne (tgt := 26) hx hb dX7_isOnIce_19 (by decide) (fun c19 => ?_) (fun c19 => ?_)
  · have hF := iff_ c19 hF
    refine lv_iconst (v := 0) hx hb dX7_isOnIce_26 (by decide) ?_
    exact W.zret (v := 0) hx hb hr (bl_nar bl0) (fun t ht hW => ⟨⟨0, (), rfl, ⟨hF.trans hFF, bl0⟩, ho_of ht hP⟩, hS.F ht⟩) hS.2.2 dX7_isOnIce_27
  · have hF := ift c19 hF
    refine lv_iconst (v := 1) hx hb dX7_isOnIce_22 (by decide) ?_
    refine lv_goto (tgt := 27) hx hb dX7_isOnIce_23 (by decide) ?_
    exact W.zret (v := 1) hx hb hr (bl_nar bl1) (fun t ht hW => ⟨⟨1, (), rfl, ⟨hF.trans hFF, bl1⟩, ho_of ht hP⟩, hS.F ht⟩) hS.2.2 dX7_isOnIce_27
theorem hd_X7_isOnIceV : yX7_isOnIce.cls = RX7 ∧ yX7_isOnIce.cls ≠ "java/lang/invoke/MethodHandle" ∧ yX7_isOnIce.cls ≠ "java/lang/invoke/VarHandle" ∧ (parseMethodDescriptor yX7_isOnIce.desc).map (fun d => d.parameters.length) = some 1 := by decide +kernel
set_option maxHeartbeats 4000000 in
set_option maxRecDepth 100000 in
theorem c7_isPressed (l : Launch) {D : va_G} {G : CY} {ad : Nat → Nat} {B0 : Nat} (hA : adOK B0 ad) (σ : Nat → Nat → Int32) (u : Nat → Int32) (a : Int32) (b : Int32) (hba : vp_in a 4) : Met l yX7_isPressed wsX7_isPressed { frames := 1, cells := 0, slots := 0, locals := 22 } (va_Pc [.ref (ad (279)), .int a, .int b] (Hp D G ad (va_up σ 16 u))) (va_Qi (fun (r : Int32) (_ : Unit) => r = f7_isPressed u a b ∧ bl r) (fun (_ : Unit) => Ho D G ad (va_up σ 16 u)) (AA B0)) 0 0 (AA B0) := by
  refine Met.ofW (cc := cX7_isPressed) (maxL := 3) (ret := (some .boolean)) (by decide) rfl ?_
  intro p e s m args below meth c s₁ B hml hv
  obtain ⟨rfl, hP, hK, hN⟩ := hv
  have hx := B.exec
  have hb := B.bytes
  have hr := B.returns
  have hts := atoms_spec (ws := wsX7_isPressed) B.pre
  have hown : s.vm.findClass RX7 = some m.cls := findClass_of_methodNamed B.named
  have hlocks := B.notSynchronized
  have hP : va_P D vwCl (pool G ad (va_up σ 16 u)) s.heap := hP
  have hS : va_S (AA B0) s.heap s.heap [] := va_S.rf
  have hl := lv_entry ([.ref (ad (279)), .int a, .int b]) (n := 3) (Nat.le_of_ble_eq_true rfl)
  rw [lg_entry_eq]
  generalize (lg_sl ([.ref (ad (279)), .int a, .int b]) ++ List.replicate (3 - (lg_sl ([.ref (ad (279)), .int a, .int b])).length) Slot.unset).toArray = ls at hl ⊢
  have hl : lv_has ls 3 [(0, .ref (ad (279))), (1, .int a), (2, .int b)] := hl
  obtain ⟨FF, hFF⟩ : ∃ z, z = f7_isPressed u a b := ⟨_, rfl⟩
  have hF := hFF.symm
  rw [f7_isPressed] at hF
  refine lv_aload_n hx hb dX7_isPressed_0 rfl (lv_at hl 0 rfl) ?_
  refine lv_iload_n hx hb dX7_isPressed_1 rfl (lv_at hl 1 rfl) ?_
  refine lv_bipush (v := 9) hx hb dX7_isPressed_2 (by decide) ?_
  refine va_calli (va_runV (As := [.int a, .int 9]) (rest := []) ⟨hx, hb, hml, hown, hts⟩ (c7_of l hA σ u a 9 (vp_in_iff.mpr (by decide)) hba) (cwV 2 hts gX7_isPressed_X7_of rfl rfl rfl hd_X7_ofV ⟨Nat.le_of_ble_eq_true rfl, Nat.le_of_ble_eq_true rfl⟩) ⟨hp_blind, va_recv hK hP (ci := 9) (q0 := 279) rfl c_279, hp_pre hK hN hP⟩ rfl rfl hl.1 rfl (lv_room (Nat.le_of_ble_eq_true rfl)) dX7_isPressed_4 ⟨Nat.zero_le _, Nat.zero_le _⟩) hS (fun _ _ h => h) (fun _ h => h) (fun r4 _ t H locs ht hvm hw9 hB hz1 hk1 hS => ?_)
  have hP := ho_at ht hB
  have eq4 := hw9
  have hF := bnd_s eq4 hF
  refine lv_iload_n hx hb dX7_isPressed_7 rfl (lv_at hl 2 rfl) ?_
  refine lv_iand hx hb dX7_isPressed_8 ?_
  refine lv_if_eq (tgt := 16) hx hb dX7_isPressed_9 (by decide) (fun c9 => ?_) (fun c9 => ?_)
  · have hF := ift c9 hF
    refine lv_iconst (v := 0) hx hb dX7_isPressed_16 (by decide) ?_
    exact W.zret (v := 0) hx hb hr (bl_nar bl0) (fun t ht hW => ⟨⟨0, (), rfl, ⟨hF.trans hFF, bl0⟩, ho_of ht hP⟩, hS.F ht⟩) hS.2.2 dX7_isPressed_17
  · have hF := iff_ c9 hF
    refine lv_iconst (v := 1) hx hb dX7_isPressed_12 (by decide) ?_
    refine lv_goto (tgt := 17) hx hb dX7_isPressed_13 (by decide) ?_
    exact W.zret (v := 1) hx hb hr (bl_nar bl1) (fun t ht hW => ⟨⟨1, (), rfl, ⟨hF.trans hFF, bl1⟩, ho_of ht hP⟩, hS.F ht⟩) hS.2.2 dX7_isPressed_17
theorem hd_X7_isPressedV : yX7_isPressed.cls = RX7 ∧ yX7_isPressed.cls ≠ "java/lang/invoke/MethodHandle" ∧ yX7_isPressed.cls ≠ "java/lang/invoke/VarHandle" ∧ (parseMethodDescriptor yX7_isPressed.desc).map (fun d => d.parameters.length) = some 2 := by decide +kernel
set_option maxHeartbeats 4000000 in
set_option maxRecDepth 100000 in
theorem c7_wayOf (l : Launch) {D : va_G} {G : CY} {ad : Nat → Nat} {B0 : Nat} (hA : adOK B0 ad) (σ : Nat → Nat → Int32) (u : Nat → Int32) (a : Int32) (hba : vp_in a 4) : Met l yX7_wayOf wsX7_wayOf { frames := 2, cells := 0, slots := 0, locals := 44 } (va_Pc [.ref (ad (279)), .int a] (Hp D G ad (va_up σ 16 u))) (va_Qi (fun (r : Int32) (_ : Unit) => r = f7_wayOf u a) (fun (_ : Unit) => Ho D G ad (va_up σ 16 u)) (AA B0)) 0 0 (AA B0) := by
  refine Met.ofW (cc := cX7_wayOf) (maxL := 4) (ret := (some .int)) (by decide) rfl ?_
  intro p e s m args below meth c s₁ B hml hv
  obtain ⟨rfl, hP, hK, hN⟩ := hv
  have hx := B.exec
  have hb := B.bytes
  have hr := B.returns
  have hts := atoms_spec (ws := wsX7_wayOf) B.pre
  have hown : s.vm.findClass RX7 = some m.cls := findClass_of_methodNamed B.named
  have hlocks := B.notSynchronized
  have hP : va_P D vwCl (pool G ad (va_up σ 16 u)) s.heap := hP
  have hS : va_S (AA B0) s.heap s.heap [] := va_S.rf
  have hl := lv_entry ([.ref (ad (279)), .int a]) (n := 4) (Nat.le_of_ble_eq_true rfl)
  rw [lg_entry_eq]
  generalize (lg_sl ([.ref (ad (279)), .int a]) ++ List.replicate (4 - (lg_sl ([.ref (ad (279)), .int a])).length) Slot.unset).toArray = ls at hl ⊢
  have hl : lv_has ls 4 [(0, .ref (ad (279))), (1, .int a)] := hl
  obtain ⟨FF, hFF⟩ : ∃ z, z = f7_wayOf u a := ⟨_, rfl⟩
  have hF := hFF.symm
  rw [f7_wayOf] at hF
  refine lv_aload_n hx hb dX7_wayOf_0 rfl (lv_at hl 0 rfl) ?_
  refine lv_iload_n hx hb dX7_wayOf_1 rfl (lv_at hl 1 rfl) ?_
  refine lv_iconst (v := 1) hx hb dX7_wayOf_2 (by decide) ?_
  refine va_calli (va_runV (As := [.int a, .int 1]) (rest := []) ⟨hx, hb, hml, hown, hts⟩ (c7_isPressed l hA σ u a 1 hba) (cwV 2 hts gX7_wayOf_X7_isPressed rfl rfl rfl hd_X7_isPressedV ⟨Nat.le_of_ble_eq_true rfl, Nat.le_of_ble_eq_true rfl⟩) ⟨hp_blind, va_recv hK hP (ci := 9) (q0 := 279) rfl c_279, hp_pre hK hN hP⟩ rfl rfl hl.1 rfl (lv_room (Nat.le_of_ble_eq_true rfl)) dX7_wayOf_3 ⟨Nat.zero_le _, Nat.zero_le _⟩) hS (fun _ _ h => h) (fun _ h => h) (fun r3 _ t H locs ht hvm hw9 hB hz1 hk1 hS => ?_)
  have hP := ho_at ht hB
  obtain ⟨eq3, hb_r3⟩ := hw9
  have hF := bnd_s eq3 hF
  refine lv_istore_n (lv' := [(2, .int r3), (0, .ref (ad (279))), (1, .int a)]) hx hb dX7_wayOf_6 rfl hl (by decide) rfl (fun ls hl => ?_)
  refine lv_aload_n hx hb dX7_wayOf_7 rfl (lv_at hl 1 rfl) ?_
  refine lv_iload_n hx hb dX7_wayOf_8 rfl (lv_at hl 2 rfl) ?_
  refine lv_iconst (v := 2) hx hb dX7_wayOf_9 (by decide) ?_
  refine va_calli (va_runV (As := [.int a, .int 2]) (rest := []) ⟨hx, hb, hml, hown, hts⟩ (c7_isPressed l hA σ u a 2 hba) (cwV 2 hts gX7_wayOf_X7_isPressed rfl rfl rfl hd_X7_isPressedV ⟨Nat.le_of_ble_eq_true rfl, Nat.le_of_ble_eq_true rfl⟩) ⟨hp_blind, va_recv hK hP (ci := 9) (q0 := 279) rfl c_279, hp_pre hK hN hP⟩ rfl rfl hl.1 rfl (lv_room (Nat.le_of_ble_eq_true rfl)) dX7_wayOf_10 ⟨Nat.zero_le _, Nat.zero_le _⟩) hS (fun _ _ h => h) (fun _ h => h) (fun r10 _ t H locs ht hvm hw9 hB hz1 hk1 hS => ?_)
  have hP := ho_at ht hB
  obtain ⟨eq10, hb_r10⟩ := hw9
  have hF := bnd_s eq10 hF
  refine lv_istore_n (lv' := [(3, .int r10), (2, .int r3), (0, .ref (ad (279))), (1, .int a)]) hx hb dX7_wayOf_13 rfl hl (by decide) rfl (fun ls hl => ?_)
  refine lv_iload_n hx hb dX7_wayOf_14 rfl (lv_at hl 1 rfl) ?_
  refine lv_iload_n hx hb dX7_wayOf_15 rfl (lv_at hl 0 rfl) ?_
  refine lv_icmp_ne (tgt := 23) hx hb dX7_wayOf_16 (by decide) (fun c16 => ?_) (fun c16 => ?_)
  · have hF := iff_ c16 hF
    refine lv_iload_n hx hb dX7_wayOf_23 rfl (lv_at hl 1 rfl) ?_
    refine lv_if_eq (tgt := 31) hx hb dX7_wayOf_24 (by decide) (fun c24 => ?_) (fun c24 => ?_)
    · have hF := ift c24 hF
      refine lv_iconst (v := 1) hx hb dX7_wayOf_31 (by decide) ?_
      exact W.iret (v := 1) hx hb hr (fun t ht hW => ⟨⟨1, (), rfl, hF.trans hFF, ho_of ht hP⟩, hS.F ht⟩) hS.2.2 dX7_wayOf_32
    · have hF := iff_ c24 hF
      refine lv_iconst (v := (-1)) hx hb dX7_wayOf_27 (by decide) ?_
      refine lv_goto (tgt := 32) hx hb dX7_wayOf_28 (by decide) ?_
      exact W.iret (v := (-1)) hx hb hr (fun t ht hW => ⟨⟨(-1), (), rfl, hF.trans hFF, ho_of ht hP⟩, hS.F ht⟩) hS.2.2 dX7_wayOf_32
  · have hF := ift c16 hF
    refine lv_iconst (v := 0) hx hb dX7_wayOf_19 (by decide) ?_
    refine lv_goto (tgt := 32) hx hb dX7_wayOf_20 (by decide) ?_
    exact W.iret (v := 0) hx hb hr (fun t ht hW => ⟨⟨0, (), rfl, hF.trans hFF, ho_of ht hP⟩, hS.F ht⟩) hS.2.2 dX7_wayOf_32
theorem hd_X7_wayOfV : yX7_wayOf.cls = RX7 ∧ yX7_wayOf.cls ≠ "java/lang/invoke/MethodHandle" ∧ yX7_wayOf.cls ≠ "java/lang/invoke/VarHandle" ∧ (parseMethodDescriptor yX7_wayOf.desc).map (fun d => d.parameters.length) = some 1 := by decide +kernel
set_option maxHeartbeats 4000000 in
set_option maxRecDepth 100000 in
theorem c7_movesAcross (l : Launch) {D : va_G} {G : CY} {ad : Nat → Nat} {B0 : Nat} (hA : adOK B0 ad) (σ : Nat → Nat → Int32) (u : Nat → Int32) (a : Int32) (b : Int32) (hO : okM u) (hba : vp_in a 4) : Met l yX7_movesAcross wsX7_movesAcross { frames := 8, cells := 0, slots := 0, locals := 184 } (va_Pc [.ref (ad (279)), .int a, .int b] (Hp D G ad (va_up σ 16 u))) (va_Qi (fun (r : Int32) (z : Nat → Int32) => (r, z) = f7_movesAcross u a b ∧ okM z ∧ bl r) (fun (z : Nat → Int32) => Ho D G ad (va_up σ 16 z)) (AA B0)) 0 0 (AA B0) := by
  refine Met.ofW (cc := cX7_movesAcross) (maxL := 8) (ret := (some .boolean)) (by decide) rfl ?_
  intro p e s m args below meth c s₁ B hml hv
  obtain ⟨rfl, hP, hK, hN⟩ := hv
  have hx := B.exec
  have hb := B.bytes
  have hr := B.returns
  have hts := atoms_spec (ws := wsX7_movesAcross) B.pre
  have hown : s.vm.findClass RX7 = some m.cls := findClass_of_methodNamed B.named
  have hlocks := B.notSynchronized
  have hP : va_P D vwCl (pool G ad (va_up σ 16 u)) s.heap := hP
  have hS : va_S (AA B0) s.heap s.heap [] := va_S.rf
  have hl := lv_entry ([.ref (ad (279)), .int a, .int b]) (n := 8) (Nat.le_of_ble_eq_true rfl)
  rw [lg_entry_eq]
  generalize (lg_sl ([.ref (ad (279)), .int a, .int b]) ++ List.replicate (8 - (lg_sl ([.ref (ad (279)), .int a, .int b])).length) Slot.unset).toArray = ls at hl ⊢
  have hl : lv_has ls 8 [(0, .ref (ad (279))), (1, .int a), (2, .int b)] := hl
  obtain ⟨FF, hFF⟩ : ∃ z, z = f7_movesAcross u a b := ⟨_, rfl⟩
  have hF := hFF.symm
  rw [f7_movesAcross] at hF
  refine lv_aload_n hx hb dX7_movesAcross_0 rfl (lv_at hl 0 rfl) ?_
  refine lv_iload_n hx hb dX7_movesAcross_1 rfl (lv_at hl 1 rfl) ?_
  refine lv_iconst (v := 0) hx hb dX7_movesAcross_2 (by decide) ?_
  refine va_calli (va_runV (As := [.int a, .int 0]) (rest := []) ⟨hx, hb, hml, hown, hts⟩ (c7_of l hA σ u a 0 (vp_in_iff.mpr (by decide)) hba) (cwV 2 hts gX7_movesAcross_X7_of rfl rfl rfl hd_X7_ofV ⟨Nat.le_of_ble_eq_true rfl, Nat.le_of_ble_eq_true rfl⟩) ⟨hp_blind, va_recv hK hP (ci := 9) (q0 := 279) rfl c_279, hp_pre hK hN hP⟩ rfl rfl hl.1 rfl (lv_room (Nat.le_of_ble_eq_true rfl)) dX7_movesAcross_3 ⟨Nat.zero_le _, Nat.zero_le _⟩) hS (fun _ _ h => h) (fun _ h => h) (fun r3 _ t H locs ht hvm hw9 hB hz1 hk1 hS => ?_)
  have hP := ho_at ht hB
  have eq3 := hw9
  have hF := bnd_s eq3 hF
  refine lv_iload_n hx hb dX7_movesAcross_6 rfl (lv_at hl 2 rfl) ?_
  refine lv_iadd hx hb dX7_movesAcross_7 ?_
  refine lv_topi (fun v3_8 e_v3_8 => ?_)
  have hF := bnd_s e_v3_8 hF
  refine lv_istore_n (lv' := [(3, .int v3_8), (0, .ref (ad (279))), (1, .int a), (2, .int b)]) hx hb dX7_movesAcross_8 rfl hl (by decide) rfl (fun ls hl => ?_)
  refine lv_aload_n hx hb dX7_movesAcross_9 rfl (lv_at hl 1 rfl) ?_
  refine lv_iload_n hx hb dX7_movesAcross_10 rfl (lv_at hl 2 rfl) ?_
  refine lv_iconst (v := 1) hx hb dX7_movesAcross_11 (by decide) ?_
  refine va_calli (va_runV (As := [.int a, .int 1]) (rest := []) ⟨hx, hb, hml, hown, hts⟩ (c7_of l hA σ u a 1 (vp_in_iff.mpr (by decide)) hba) (cwV 2 hts gX7_movesAcross_X7_of rfl rfl rfl hd_X7_ofV ⟨Nat.le_of_ble_eq_true rfl, Nat.le_of_ble_eq_true rfl⟩) ⟨hp_blind, va_recv hK hP (ci := 9) (q0 := 279) rfl c_279, hp_pre hK hN hP⟩ rfl rfl hl.1 rfl (lv_room (Nat.le_of_ble_eq_true rfl)) dX7_movesAcross_12 ⟨Nat.zero_le _, Nat.zero_le _⟩) hS (fun _ _ h => h) (fun _ h => h) (fun r12 _ t H locs ht hvm hw9 hB hz1 hk1 hS => ?_)
  have hP := ho_at ht hB
  have eq12 := hw9
  have hF := bnd_s eq12 hF
  refine lv_istore (lv' := [(4, .int r12), (3, .int v3_8), (0, .ref (ad (279))), (1, .int a), (2, .int b)]) hx hb dX7_movesAcross_15 hl (by decide) rfl (fun ls hl => ?_)
  refine lv_aload_n hx hb dX7_movesAcross_17 rfl (lv_at hl 2 rfl) ?_
  refine lv_iload_n hx hb dX7_movesAcross_18 rfl (lv_at hl 3 rfl) ?_
  refine lv_iload_n hx hb dX7_movesAcross_19 rfl (lv_at hl 1 rfl) ?_
  refine va_calli (va_runV (As := [.int a, .int v3_8]) (rest := []) ⟨hx, hb, hml, hown, hts⟩ (c7_foot l hA σ u a v3_8 hba) (cwV 2 hts gX7_movesAcross_X7_foot rfl rfl rfl hd_X7_footV ⟨Nat.le_of_ble_eq_true rfl, Nat.le_of_ble_eq_true rfl⟩) ⟨hp_blind, va_recv hK hP (ci := 9) (q0 := 279) rfl c_279, hp_pre hK hN hP⟩ rfl rfl hl.1 rfl (lv_room (Nat.le_of_ble_eq_true rfl)) dX7_movesAcross_20 ⟨Nat.zero_le _, Nat.zero_le _⟩) hS (fun _ _ h => h) (fun _ h => h) (fun r20 _ t H locs ht hvm hw9 hB hz1 hk1 hS => ?_)
  have hP := ho_at ht hB
  have eq20 := hw9
  have hF := bnd_s eq20 hF
  refine lv_istore (lv' := [(5, .int r20), (4, .int r12), (3, .int v3_8), (0, .ref (ad (279))), (1, .int a), (2, .int b)]) hx hb dX7_movesAcross_23 hl (by decide) rfl (fun ls hl => ?_)
  refine lv_iload hx hb dX7_movesAcross_25 (lv_at hl 1 rfl) ?_
  refine lv_istore (lv' := [(6, .int r12), (5, .int r20), (4, .int r12), (3, .int v3_8), (0, .ref (ad (279))), (1, .int a), (2, .int b)]) hx hb dX7_movesAcross_27 hl (by decide) rfl (fun ls hl => ?_)
  refine lv_aload_n hx hb dX7_movesAcross_29 rfl (lv_at hl 4 rfl) ?_
  refine lv_iload hx hb dX7_movesAcross_30 (lv_at hl 1 rfl) ?_
  refine lv_iload hx hb dX7_movesAcross_32 (lv_at hl 2 rfl) ?_
  refine va_calli (va_runV (As := [.int r20, .int r12]) (rest := []) ⟨hx, hb, hml, hown, hts⟩ (c7_kindAt l hA σ u r20 r12 ) (cwV 2 hts gX7_movesAcross_X7_kindAt rfl rfl rfl hd_X7_kindAtV ⟨Nat.le_of_ble_eq_true rfl, Nat.le_of_ble_eq_true rfl⟩) ⟨hp_blind, va_recv hK hP (ci := 9) (q0 := 279) rfl c_279, hp_pre hK hN hP⟩ rfl rfl hl.1 rfl (lv_room (Nat.le_of_ble_eq_true rfl)) dX7_movesAcross_34 ⟨Nat.zero_le _, Nat.zero_le _⟩) hS (fun _ _ h => h) (fun _ h => h) (fun r34 _ t H locs ht hvm hw9 hB hz1 hk1 hS => ?_)
  have hP := ho_at ht hB
  have eq34 := hw9
  have hF := bnd_s eq34 hF
  refine va_calli (va_runS (As := [.int r34]) (rest := []) ⟨hx, hb, hml, hown, hts⟩ (c7_isSlope l hA (va_up σ 16 u) r34 ) (va_cwS 1 hts gX7_movesAcross_X7_isSlope rfl rfl rfl hd_X7_isSlopeS ⟨Nat.le_of_ble_eq_true rfl, Nat.le_of_ble_eq_true rfl⟩) ⟨hp_blind, hp_pre hK hN hP⟩ rfl rfl hl.1 rfl (lv_room (Nat.le_of_ble_eq_true rfl)) dX7_movesAcross_37 ⟨Nat.zero_le _, Nat.zero_le _⟩) hS (fun _ _ h => h) (fun _ h => h) (fun r37 _ t H locs ht hvm hw9 hB hz1 hk1 hS => ?_)
  have hP := ho_at ht hB
  obtain ⟨eq37, hb_r37⟩ := hw9
  have hF := bnd_s eq37 hF
  have J82 : ∀ (w6_82 : Int32) (H : Heap) (locs : List Loc) (ls : Array Slot), va_P D vwCl (pool G ad (va_up σ 16 u)) H → va_S (AA B0) s.heap H locs → lv_has ls 8 [(6, .int w6_82), (3, .int v3_8), (0, .ref (ad (279))), (1, .int a)] → f7_movesAcross_b82 u a v3_8 w6_82 = FF → W p l e (headSpec wsX7_movesAcross { frames := 8, cells := 0, slots := 0, locals := 184 }).room s m ([.ref (ad (279)), .int a, .int b] : List Value).toArray below meth c H locs 0 0 (MQ below (va_Qi (fun (r : Int32) (z : Nat → Int32) => (r, z) = f7_movesAcross u a b ∧ okM z ∧ bl r) (fun (z : Nat → Int32) => Ho D G ad (va_up σ 16 z)) (AA B0)) ([.ref (ad (279)), .int a, .int b] : List Value).toArray s 0 0 (AA B0)) (F0 m 82 ls []) := by
    intro w6_82 H locs ls hP hS hl hF
    rw [f7_movesAcross_b82] at hF
    refine lv_aload_n hx hb dX7_movesAcross_82 rfl (lv_at hl 2 rfl) ?_
    refine lv_iload_n hx hb dX7_movesAcross_83 rfl (lv_at hl 3 rfl) ?_
    refine lv_iload_n hx hb dX7_movesAcross_84 rfl (lv_at hl 1 rfl) ?_
    refine lv_iload hx hb dX7_movesAcross_85 (lv_at hl 0 rfl) ?_
    refine va_calli (va_runV (As := [.int a, .int v3_8, .int w6_82]) (rest := []) ⟨hx, hb, hml, hown, hts⟩ (c7_blocks l hA σ u a v3_8 w6_82 hba) (cwV 3 hts gX7_movesAcross_X7_blocks rfl rfl rfl hd_X7_blocksV ⟨Nat.le_of_ble_eq_true rfl, Nat.le_of_ble_eq_true rfl⟩) ⟨hp_blind, va_recv hK hP (ci := 9) (q0 := 279) rfl c_279, hp_pre hK hN hP⟩ rfl rfl hl.1 rfl (lv_room (Nat.le_of_ble_eq_true rfl)) dX7_movesAcross_87 ⟨Nat.zero_le _, Nat.zero_le _⟩) hS (fun _ _ h => h) (fun _ h => h) (fun r87 _ t H locs ht hvm hw9 hB hz1 hk1 hS => ?_)
    have hP := ho_at ht hB
    obtain ⟨eq87, hb_r87⟩ := hw9
    have hF := bnd_s eq87 hF
    refine lv_if_eq (tgt := 95) hx hb dX7_movesAcross_90 (by decide) (fun c90 => ?_) (fun c90 => ?_)
    · have hF := ift c90 hF
      refine lv_aload_n hx hb dX7_movesAcross_95 rfl (lv_at hl 2 rfl) ?_
      refine lv_iload_n hx hb dX7_movesAcross_96 rfl (lv_at hl 3 rfl) ?_
      refine va_calli (va_runV (As := [.int a]) (rest := []) ⟨hx, hb, hml, hown, hts⟩ (c7_supportOf l hA σ u a hO hba) (cwV 1 hts gX7_movesAcross_X7_supportOf rfl rfl rfl hd_X7_supportOfV ⟨Nat.le_of_ble_eq_true rfl, Nat.le_of_ble_eq_true rfl⟩) ⟨hp_blind, va_recv hK hP (ci := 9) (q0 := 279) rfl c_279, hp_pre hK hN hP⟩ rfl rfl hl.1 rfl (lv_room (Nat.le_of_ble_eq_true rfl)) dX7_movesAcross_97 ⟨Nat.zero_le _, Nat.zero_le _⟩) hS (fun _ _ h => h) (fun _ h => h) (fun r97 _ t H locs ht hvm hw9 hB hz1 hk1 hS => ?_)
      have hP := ho_at ht hB
      have eq97 := hw9
      have hF := bnd_s eq97 hF
      have J108 : ∀ (t0_108 : Int32) (H : Heap) (locs : List Loc) (ls : Array Slot), bl t0_108 → va_P D vwCl (pool G ad (va_up σ 16 u)) H → va_S (AA B0) s.heap H locs → lv_has ls 8 [(6, .int w6_82), (3, .int v3_8), (0, .ref (ad (279))), (1, .int a)] → f7_movesAcross_b108 u a v3_8 w6_82 t0_108 = FF → W p l e (headSpec wsX7_movesAcross { frames := 8, cells := 0, slots := 0, locals := 184 }).room s m ([.ref (ad (279)), .int a, .int b] : List Value).toArray below meth c H locs 0 0 (MQ below (va_Qi (fun (r : Int32) (z : Nat → Int32) => (r, z) = f7_movesAcross u a b ∧ okM z ∧ bl r) (fun (z : Nat → Int32) => Ho D G ad (va_up σ 16 z)) (AA B0)) ([.ref (ad (279)), .int a, .int b] : List Value).toArray s 0 0 (AA B0)) (F0 m 108 ls [.int t0_108]) := by
        intro t0_108 H locs ls hb_t0_108 hP hS hl hF
        rw [f7_movesAcross_b108] at hF
        refine lv_istore (lv' := [(7, .int t0_108), (6, .int w6_82), (3, .int v3_8), (0, .ref (ad (279))), (1, .int a)]) hx hb dX7_movesAcross_108 hl (by decide) rfl (fun ls hl => ?_)
        refine lv_iload hx hb dX7_movesAcross_110 (lv_at hl 0 rfl) ?_
        have J142 : ∀ (w6_142 : Int32) (H : Heap) (locs : List Loc) (ls : Array Slot), va_P D vwCl (pool G ad (va_up σ 16 u)) H → va_S (AA B0) s.heap H locs → lv_has ls 8 [(6, .int w6_142), (3, .int v3_8), (0, .ref (ad (279))), (1, .int a)] → f7_movesAcross_b142 u a v3_8 w6_142 = FF → W p l e (headSpec wsX7_movesAcross { frames := 8, cells := 0, slots := 0, locals := 184 }).room s m ([.ref (ad (279)), .int a, .int b] : List Value).toArray below meth c H locs 0 0 (MQ below (va_Qi (fun (r : Int32) (z : Nat → Int32) => (r, z) = f7_movesAcross u a b ∧ okM z ∧ bl r) (fun (z : Nat → Int32) => Ho D G ad (va_up σ 16 z)) (AA B0)) ([.ref (ad (279)), .int a, .int b] : List Value).toArray s 0 0 (AA B0)) (F0 m 142 ls []) := by
          intro w6_142 H locs ls hP hS hl hF
          rw [f7_movesAcross_b142] at hF
          refine lv_aload_n hx hb dX7_movesAcross_142 rfl (lv_at hl 2 rfl) ?_
          refine lv_iload_n hx hb dX7_movesAcross_143 rfl (lv_at hl 3 rfl) ?_
          refine lv_iconst (v := 0) hx hb dX7_movesAcross_144 (by decide) ?_
          refine lv_iload_n hx hb dX7_movesAcross_145 rfl (lv_at hl 1 rfl) ?_
          refine va_callv (va_runV (As := [.int a, .int 0, .int v3_8]) (rest := []) ⟨hx, hb, hml, hown, hts⟩ (c7_sets l hA σ u a 0 v3_8 hO (vp_in_iff.mpr (by decide)) hba) (cwV 3 hts gX7_movesAcross_X7_sets rfl rfl rfl hd_X7_setsV ⟨Nat.le_of_ble_eq_true rfl, Nat.le_of_ble_eq_true rfl⟩) ⟨hp_blind, va_recv hK hP (ci := 9) (q0 := 279) rfl c_279, hp_pre hK hN hP⟩ rfl rfl hl.1 rfl (lv_room (Nat.le_of_ble_eq_true rfl)) dX7_movesAcross_146 ⟨Nat.zero_le _, Nat.zero_le _⟩) hS (fun _ _ h => h) (fun _ h => h) (fun u9 t H locs ht hvm hw9 hB hz1 hk1 hS => ?_)
          have hP := ho_at ht hB
          obtain ⟨eq146, ok9⟩ := hw9
          obtain ⟨u146, e_u146⟩ : ∃ z, z = u9 := ⟨_, rfl⟩
          rw [← e_u146] at hP eq146 ok9
          have hO := ok9
          have hF := bnd_s eq146 hF
          refine lv_aload_n hx hb dX7_movesAcross_149 rfl (lv_at hl 2 rfl) ?_
          refine lv_iload_n hx hb dX7_movesAcross_150 rfl (lv_at hl 3 rfl) ?_
          refine lv_iconst (v := 1) hx hb dX7_movesAcross_151 (by decide) ?_
          refine lv_iload hx hb dX7_movesAcross_152 (lv_at hl 0 rfl) ?_
          refine va_callv (va_runV (As := [.int a, .int 1, .int w6_142]) (rest := []) ⟨hx, hb, hml, hown, hts⟩ (c7_sets l hA σ u146 a 1 w6_142 hO (vp_in_iff.mpr (by decide)) hba) (cwV 3 hts gX7_movesAcross_X7_sets rfl rfl rfl hd_X7_setsV ⟨Nat.le_of_ble_eq_true rfl, Nat.le_of_ble_eq_true rfl⟩) ⟨hp_blind, va_recv hK hP (ci := 9) (q0 := 279) rfl c_279, hp_pre hK hN hP⟩ rfl rfl hl.1 rfl (lv_room (Nat.le_of_ble_eq_true rfl)) dX7_movesAcross_154 ⟨Nat.zero_le _, Nat.zero_le _⟩) hS (fun _ _ h => h) (fun _ h => h) (fun u9 t H locs ht hvm hw9 hB hz1 hk1 hS => ?_)
          have hP := ho_at ht hB
          obtain ⟨eq154, ok9⟩ := hw9
          obtain ⟨u154, e_u154⟩ : ∃ z, z = u9 := ⟨_, rfl⟩
          rw [← e_u154] at hP eq154 ok9
          have hO := ok9
          have hF := bnd_s eq154 hF
          refine lv_iconst (v := 1) hx hb dX7_movesAcross_157 (by decide) ?_
          exact W.zret (v := 1) hx hb hr (bl_nar bl1) (fun t ht hW => ⟨⟨1, u154, rfl, ⟨hF.trans hFF, hO, bl1⟩, ho_of ht hP⟩, hS.F ht⟩) hS.2.2 dX7_movesAcross_158
        refine lv_if_eq (tgt := 142) hx hb dX7_movesAcross_112 (by decide) (fun c112 => ?_) (fun c112 => ?_)
        · have hF := ift c112 hF
          exact J142 w6_82 _ _ ls hP hS (lv_sub hl [1, 2, 3, 4] rfl) hF
        · have hF := iff_ c112 hF
          refine lv_aload_n hx hb dX7_movesAcross_115 rfl (lv_at hl 3 rfl) ?_
          refine lv_iload_n hx hb dX7_movesAcross_116 rfl (lv_at hl 4 rfl) ?_
          refine lv_iload_n hx hb dX7_movesAcross_117 rfl (lv_at hl 2 rfl) ?_
          refine lv_iload hx hb dX7_movesAcross_118 (lv_at hl 1 rfl) ?_
          refine va_calli (va_runV (As := [.int a, .int v3_8, .int w6_82]) (rest := []) ⟨hx, hb, hml, hown, hts⟩ (c7_supportAt l hA σ u a v3_8 w6_82 hO hba) (cwV 3 hts gX7_movesAcross_X7_supportAt rfl rfl rfl hd_X7_supportAtV ⟨Nat.le_of_ble_eq_true rfl, Nat.le_of_ble_eq_true rfl⟩) ⟨hp_blind, va_recv hK hP (ci := 9) (q0 := 279) rfl c_279, hp_pre hK hN hP⟩ rfl rfl hl.1 rfl (lv_room (Nat.le_of_ble_eq_true rfl)) dX7_movesAcross_120 ⟨Nat.zero_le _, Nat.zero_le _⟩) hS (fun _ _ h => h) (fun _ h => h) (fun r120 _ t H locs ht hvm hw9 hB hz1 hk1 hS => ?_)
          have hP := ho_at ht hB
          have eq120 := hw9
          have hF := bnd_s eq120 hF
          refine lv_if_ne (tgt := 142) hx hb dX7_movesAcross_123 (by decide) (fun c123 => ?_) (fun c123 => ?_)
          · have hF := iff_ c123 hF
            exact J142 w6_82 _ _ ls hP hS (lv_sub hl [1, 2, 3, 4] rfl) hF
          · have hF := ift c123 hF
            refine lv_aload_n hx hb dX7_movesAcross_126 rfl (lv_at hl 3 rfl) ?_
            refine lv_iload_n hx hb dX7_movesAcross_127 rfl (lv_at hl 4 rfl) ?_
            refine lv_iload_n hx hb dX7_movesAcross_128 rfl (lv_at hl 2 rfl) ?_
            refine lv_iload hx hb dX7_movesAcross_129 (lv_at hl 1 rfl) ?_
            refine lv_iconst (v := 1) hx hb dX7_movesAcross_131 (by decide) ?_
            refine lv_isub hx hb dX7_movesAcross_132 ?_
            refine va_calli (va_runV (As := [.int a, .int v3_8, .int (w6_82 - 1)]) (rest := []) ⟨hx, hb, hml, hown, hts⟩ (c7_supportAt l hA σ u a v3_8 (w6_82 - 1) hO hba) (cwV 3 hts gX7_movesAcross_X7_supportAt rfl rfl rfl hd_X7_supportAtV ⟨Nat.le_of_ble_eq_true rfl, Nat.le_of_ble_eq_true rfl⟩) ⟨hp_blind, va_recv hK hP (ci := 9) (q0 := 279) rfl c_279, hp_pre hK hN hP⟩ rfl rfl hl.1 rfl (lv_room (Nat.le_of_ble_eq_true rfl)) dX7_movesAcross_133 ⟨Nat.zero_le _, Nat.zero_le _⟩) hS (fun _ _ h => h) (fun _ h => h) (fun r133 _ t H locs ht hvm hw9 hB hz1 hk1 hS => ?_)
            have hP := ho_at ht hB
            have eq133 := hw9
            have hF := bnd_s eq133 hF
            refine lv_if_eq (tgt := 142) hx hb dX7_movesAcross_136 (by decide) (fun c136 => ?_) (fun c136 => ?_)
            · have hF := ift c136 hF
              exact J142 w6_82 _ _ ls hP hS (lv_sub hl [1, 2, 3, 4] rfl) hF
            · have hF := iff_ c136 hF
              obtain ⟨v6_139, e_v6_139⟩ : ∃ z : Int32, z = w6_82 + (-1) := ⟨_, rfl⟩
              have hF := bnd_s e_v6_139 hF
              refine lv_iinc (v := v6_139) (lv' := [(6, .int v6_139), (7, .int t0_108), (3, .int v3_8), (0, .ref (ad (279))), (1, .int a)]) hx hb dX7_movesAcross_139 hl (k := 1) rfl (by rw [e_v6_139]; rfl) (by decide) rfl (fun ls hl => ?_)
              exact J142 v6_139 _ _ ls hP hS (lv_sub hl [0, 2, 3, 4] rfl) hF
      refine lv_if_eq (tgt := 107) hx hb dX7_movesAcross_100 (by decide) (fun c100 => ?_) (fun c100 => ?_)
      · have hF := ift c100 hF
        refine lv_iconst (v := 0) hx hb dX7_movesAcross_107 (by decide) ?_
        exact J108 0 _ _ ls bl0 hP hS (lv_sub hl [0, 1, 2, 3] rfl) hF
      · have hF := iff_ c100 hF
        refine lv_iconst (v := 1) hx hb dX7_movesAcross_103 (by decide) ?_
        refine lv_goto (tgt := 108) hx hb dX7_movesAcross_104 (by decide) ?_
        exact J108 1 _ _ ls bl1 hP hS (lv_sub hl [0, 1, 2, 3] rfl) hF
    · have hF := iff_ c90 hF
      refine lv_iconst (v := 0) hx hb dX7_movesAcross_93 (by decide) ?_
      exact W.zret (v := 0) hx hb hr (bl_nar bl0) (fun t ht hW => ⟨⟨0, u, rfl, ⟨hF.trans hFF, hO, bl0⟩, ho_of ht hP⟩, hS.F ht⟩) hS.2.2 dX7_movesAcross_94
  refine lv_if_eq (tgt := 82) hx hb dX7_movesAcross_40 (by decide) (fun c40 => ?_) (fun c40 => ?_)
  · have hF := ift c40 hF
    exact J82 r12 _ _ ls hP hS (lv_sub hl [0, 3, 4, 5] rfl) hF
  · have hF := iff_ c40 hF
    refine lv_aload_n hx hb dX7_movesAcross_43 rfl (lv_at hl 4 rfl) ?_
    refine lv_iload hx hb dX7_movesAcross_44 (lv_at hl 1 rfl) ?_
    refine lv_iload hx hb dX7_movesAcross_46 (lv_at hl 2 rfl) ?_
    refine va_calli (va_runV (As := [.int r20, .int r12]) (rest := []) ⟨hx, hb, hml, hown, hts⟩ (c7_surfaceAt l hA σ u r20 r12 ) (cwV 2 hts gX7_movesAcross_X7_surfaceAt rfl rfl rfl hd_X7_surfaceAtV ⟨Nat.le_of_ble_eq_true rfl, Nat.le_of_ble_eq_true rfl⟩) ⟨hp_blind, va_recv hK hP (ci := 9) (q0 := 279) rfl c_279, hp_pre hK hN hP⟩ rfl rfl hl.1 rfl (lv_room (Nat.le_of_ble_eq_true rfl)) dX7_movesAcross_48 ⟨Nat.zero_le _, Nat.zero_le _⟩) hS (fun _ _ h => h) (fun _ h => h) (fun r48 _ t H locs ht hvm hw9 hB hz1 hk1 hS => ?_)
    have hP := ho_at ht hB
    have eq48 := hw9
    have hF := bnd_s eq48 hF
    refine lv_istore (lv' := [(7, .int r48), (6, .int r12), (5, .int r20), (4, .int r12), (3, .int v3_8), (0, .ref (ad (279))), (1, .int a), (2, .int b)]) hx hb dX7_movesAcross_51 hl (by decide) rfl (fun ls hl => ?_)
    refine lv_iload hx hb dX7_movesAcross_53 (lv_at hl 0 rfl) ?_
    refine lv_iload hx hb dX7_movesAcross_55 (lv_at hl 3 rfl) ?_
    refine lv_iconst (v := 1) hx hb dX7_movesAcross_57 (by decide) ?_
    refine lv_iadd hx hb dX7_movesAcross_58 ?_
    refine lv_icmp_le (tgt := 64) hx hb dX7_movesAcross_59 (by decide) (fun c59 => ?_) (fun c59 => ?_)
    · have hF := ift c59 hF
      refine lv_iload hx hb dX7_movesAcross_64 (lv_at hl 0 rfl) ?_
      refine lv_iload hx hb dX7_movesAcross_66 (lv_at hl 3 rfl) ?_
      refine lv_iconst (v := 1) hx hb dX7_movesAcross_68 (by decide) ?_
      refine lv_iadd hx hb dX7_movesAcross_69 ?_
      have J80 : ∀ (t0_80 : Int32) (H : Heap) (locs : List Loc) (ls : Array Slot), va_P D vwCl (pool G ad (va_up σ 16 u)) H → va_S (AA B0) s.heap H locs → lv_has ls 8 [(3, .int v3_8), (0, .ref (ad (279))), (1, .int a)] → f7_movesAcross_b80 u a v3_8 t0_80 = FF → W p l e (headSpec wsX7_movesAcross { frames := 8, cells := 0, slots := 0, locals := 184 }).room s m ([.ref (ad (279)), .int a, .int b] : List Value).toArray below meth c H locs 0 0 (MQ below (va_Qi (fun (r : Int32) (z : Nat → Int32) => (r, z) = f7_movesAcross u a b ∧ okM z ∧ bl r) (fun (z : Nat → Int32) => Ho D G ad (va_up σ 16 z)) (AA B0)) ([.ref (ad (279)), .int a, .int b] : List Value).toArray s 0 0 (AA B0)) (F0 m 80 ls [.int t0_80]) := by
        intro t0_80 H locs ls hP hS hl hF
        rw [f7_movesAcross_b80] at hF
        refine lv_istore (lv' := [(6, .int t0_80), (3, .int v3_8), (0, .ref (ad (279))), (1, .int a)]) hx hb dX7_movesAcross_80 hl (by decide) rfl (fun ls hl => ?_)
        exact J82 t0_80 _ _ ls hP hS (lv_sub hl [0, 1, 2, 3] rfl) hF
      refine lv_icmp_ne (tgt := 78) hx hb dX7_movesAcross_70 (by decide) (fun c70 => ?_) (fun c70 => ?_)
      · have hF := iff_ c70 hF
        refine lv_iload hx hb dX7_movesAcross_78 (lv_at hl 3 rfl) ?_
        exact J80 r12 _ _ ls hP hS (lv_sub hl [4, 5, 6] rfl) hF
      · have hF := ift c70 hF
        refine lv_iload hx hb dX7_movesAcross_73 (lv_at hl 0 rfl) ?_
        refine lv_goto (tgt := 80) hx hb dX7_movesAcross_75 (by decide) ?_
        exact J80 r48 _ _ ls hP hS (lv_sub hl [4, 5, 6] rfl) hF
    · have hF := iff_ c59 hF
      refine lv_iconst (v := 0) hx hb dX7_movesAcross_62 (by decide) ?_
      exact W.zret (v := 0) hx hb hr (bl_nar bl0) (fun t ht hW => ⟨⟨0, u, rfl, ⟨hF.trans hFF, hO, bl0⟩, ho_of ht hP⟩, hS.F ht⟩) hS.2.2 dX7_movesAcross_63
theorem hd_X7_movesAcrossV : yX7_movesAcross.cls = RX7 ∧ yX7_movesAcross.cls ≠ "java/lang/invoke/MethodHandle" ∧ yX7_movesAcross.cls ≠ "java/lang/invoke/VarHandle" ∧ (parseMethodDescriptor yX7_movesAcross.desc).map (fun d => d.parameters.length) = some 2 := by decide +kernel
set_option maxHeartbeats 4000000 in
set_option maxRecDepth 100000 in
theorem c7_movesUp (l : Launch) {D : va_G} {G : CY} {ad : Nat → Nat} {B0 : Nat} (hA : adOK B0 ad) (σ : Nat → Nat → Int32) (u : Nat → Int32) (a : Int32) (hO : okM u) (hba : vp_in a 4) : Met l yX7_movesUp wsX7_movesUp { frames := 5, cells := 0, slots := 0, locals := 113 } (va_Pc [.ref (ad (279)), .int a] (Hp D G ad (va_up σ 16 u))) (va_Qi (fun (r : Int32) (z : Nat → Int32) => (r, z) = f7_movesUp u a ∧ okM z ∧ bl r) (fun (z : Nat → Int32) => Ho D G ad (va_up σ 16 z)) (AA B0)) 0 0 (AA B0) := by
  refine Met.ofW (cc := cX7_movesUp) (maxL := 2) (ret := (some .boolean)) (by decide) rfl ?_
  intro p e s m args below meth c s₁ B hml hv
  obtain ⟨rfl, hP, hK, hN⟩ := hv
  have hx := B.exec
  have hb := B.bytes
  have hr := B.returns
  have hts := atoms_spec (ws := wsX7_movesUp) B.pre
  have hown : s.vm.findClass RX7 = some m.cls := findClass_of_methodNamed B.named
  have hlocks := B.notSynchronized
  have hP : va_P D vwCl (pool G ad (va_up σ 16 u)) s.heap := hP
  have hS : va_S (AA B0) s.heap s.heap [] := va_S.rf
  have hl := lv_entry ([.ref (ad (279)), .int a]) (n := 2) (Nat.le_of_ble_eq_true rfl)
  rw [lg_entry_eq]
  generalize (lg_sl ([.ref (ad (279)), .int a]) ++ List.replicate (2 - (lg_sl ([.ref (ad (279)), .int a])).length) Slot.unset).toArray = ls at hl ⊢
  have hl : lv_has ls 2 [(0, .ref (ad (279))), (1, .int a)] := hl
  obtain ⟨FF, hFF⟩ : ∃ z, z = f7_movesUp u a := ⟨_, rfl⟩
  have hF := hFF.symm
  rw [f7_movesUp] at hF
  refine lv_aload_n hx hb dX7_movesUp_0 rfl (lv_at hl 0 rfl) ?_
  refine lv_iload_n hx hb dX7_movesUp_1 rfl (lv_at hl 1 rfl) ?_
  refine lv_aload_n hx hb dX7_movesUp_2 rfl (lv_at hl 0 rfl) ?_
  refine lv_iload_n hx hb dX7_movesUp_3 rfl (lv_at hl 1 rfl) ?_
  refine lv_iconst (v := 0) hx hb dX7_movesUp_4 (by decide) ?_
  refine va_calli (va_runV (As := [.int a, .int 0]) (rest := [.int a, .ref (ad (279))]) ⟨hx, hb, hml, hown, hts⟩ (c7_of l hA σ u a 0 (vp_in_iff.mpr (by decide)) hba) (cwV 2 hts gX7_movesUp_X7_of rfl rfl rfl hd_X7_ofV ⟨Nat.le_of_ble_eq_true rfl, Nat.le_of_ble_eq_true rfl⟩) ⟨hp_blind, va_recv hK hP (ci := 9) (q0 := 279) rfl c_279, hp_pre hK hN hP⟩ rfl rfl hl.1 rfl (lv_room (Nat.le_of_ble_eq_true rfl)) dX7_movesUp_5 ⟨Nat.zero_le _, Nat.zero_le _⟩) hS (fun _ _ h => h) (fun _ h => h) (fun r5 _ t H locs ht hvm hw9 hB hz1 hk1 hS => ?_)
  have hP := ho_at ht hB
  have eq5 := hw9
  have hF := bnd_s eq5 hF
  refine lv_aload_n hx hb dX7_movesUp_8 rfl (lv_at hl 0 rfl) ?_
  refine lv_iload_n hx hb dX7_movesUp_9 rfl (lv_at hl 1 rfl) ?_
  refine lv_iconst (v := 1) hx hb dX7_movesUp_10 (by decide) ?_
  refine va_calli (va_runV (As := [.int a, .int 1]) (rest := [.int r5, .int a, .ref (ad (279))]) ⟨hx, hb, hml, hown, hts⟩ (c7_of l hA σ u a 1 (vp_in_iff.mpr (by decide)) hba) (cwV 2 hts gX7_movesUp_X7_of rfl rfl rfl hd_X7_ofV ⟨Nat.le_of_ble_eq_true rfl, Nat.le_of_ble_eq_true rfl⟩) ⟨hp_blind, va_recv hK hP (ci := 9) (q0 := 279) rfl c_279, hp_pre hK hN hP⟩ rfl rfl hl.1 rfl (lv_room (Nat.le_of_ble_eq_true rfl)) dX7_movesUp_11 ⟨Nat.zero_le _, Nat.zero_le _⟩) hS (fun _ _ h => h) (fun _ h => h) (fun r11 _ t H locs ht hvm hw9 hB hz1 hk1 hS => ?_)
  have hP := ho_at ht hB
  have eq11 := hw9
  have hF := bnd_s eq11 hF
  refine lv_iconst (v := 1) hx hb dX7_movesUp_14 (by decide) ?_
  refine lv_iadd hx hb dX7_movesUp_15 ?_
  refine va_calli (va_runV (As := [.int a, .int r5, .int (r11 + 1)]) (rest := []) ⟨hx, hb, hml, hown, hts⟩ (c7_blocks l hA σ u a r5 (r11 + 1) hba) (cwV 3 hts gX7_movesUp_X7_blocks rfl rfl rfl hd_X7_blocksV ⟨Nat.le_of_ble_eq_true rfl, Nat.le_of_ble_eq_true rfl⟩) ⟨hp_blind, va_recv hK hP (ci := 9) (q0 := 279) rfl c_279, hp_pre hK hN hP⟩ rfl rfl hl.1 rfl (lv_room (Nat.le_of_ble_eq_true rfl)) dX7_movesUp_16 ⟨Nat.zero_le _, Nat.zero_le _⟩) hS (fun _ _ h => h) (fun _ h => h) (fun r16 _ t H locs ht hvm hw9 hB hz1 hk1 hS => ?_)
  have hP := ho_at ht hB
  obtain ⟨eq16, hb_r16⟩ := hw9
  have hF := bnd_s eq16 hF
  refine lv_if_eq (tgt := 24) hx hb dX7_movesUp_19 (by decide) (fun c19 => ?_) (fun c19 => ?_)
  · have hF := ift c19 hF
    refine lv_aload_n hx hb dX7_movesUp_24 rfl (lv_at hl 0 rfl) ?_
    refine lv_iload_n hx hb dX7_movesUp_25 rfl (lv_at hl 1 rfl) ?_
    refine lv_iconst (v := 1) hx hb dX7_movesUp_26 (by decide) ?_
    refine lv_iconst (v := 1) hx hb dX7_movesUp_27 (by decide) ?_
    refine va_callv (va_runV (As := [.int a, .int 1, .int 1]) (rest := []) ⟨hx, hb, hml, hown, hts⟩ (c7_adds l hA σ u a 1 1 hO (vp_in_iff.mpr (by decide)) hba) (cwV 3 hts gX7_movesUp_X7_adds rfl rfl rfl hd_X7_addsV ⟨Nat.le_of_ble_eq_true rfl, Nat.le_of_ble_eq_true rfl⟩) ⟨hp_blind, va_recv hK hP (ci := 9) (q0 := 279) rfl c_279, hp_pre hK hN hP⟩ rfl rfl hl.1 rfl (lv_room (Nat.le_of_ble_eq_true rfl)) dX7_movesUp_28 ⟨Nat.zero_le _, Nat.zero_le _⟩) hS (fun _ _ h => h) (fun _ h => h) (fun u9 t H locs ht hvm hw9 hB hz1 hk1 hS => ?_)
    have hP := ho_at ht hB
    obtain ⟨eq28, ok9⟩ := hw9
    obtain ⟨u28, e_u28⟩ : ∃ z, z = u9 := ⟨_, rfl⟩
    rw [← e_u28] at hP eq28 ok9
    have hO := ok9
    have hF := bnd_s eq28 hF
    refine lv_iconst (v := 1) hx hb dX7_movesUp_31 (by decide) ?_
    exact W.zret (v := 1) hx hb hr (bl_nar bl1) (fun t ht hW => ⟨⟨1, u28, rfl, ⟨hF.trans hFF, hO, bl1⟩, ho_of ht hP⟩, hS.F ht⟩) hS.2.2 dX7_movesUp_32
  · have hF := iff_ c19 hF
    refine lv_iconst (v := 0) hx hb dX7_movesUp_22 (by decide) ?_
    exact W.zret (v := 0) hx hb hr (bl_nar bl0) (fun t ht hW => ⟨⟨0, u, rfl, ⟨hF.trans hFF, hO, bl0⟩, ho_of ht hP⟩, hS.F ht⟩) hS.2.2 dX7_movesUp_23
theorem hd_X7_movesUpV : yX7_movesUp.cls = RX7 ∧ yX7_movesUp.cls ≠ "java/lang/invoke/MethodHandle" ∧ yX7_movesUp.cls ≠ "java/lang/invoke/VarHandle" ∧ (parseMethodDescriptor yX7_movesUp.desc).map (fun d => d.parameters.length) = some 1 := by decide +kernel
set_option maxHeartbeats 4000000 in
set_option maxRecDepth 100000 in
theorem c7_movesDown (l : Launch) {D : va_G} {G : CY} {ad : Nat → Nat} {B0 : Nat} (hA : adOK B0 ad) (σ : Nat → Nat → Int32) (u : Nat → Int32) (a : Int32) (hO : okM u) (hba : vp_in a 4) : Met l yX7_movesDown wsX7_movesDown { frames := 8, cells := 0, slots := 0, locals := 184 } (va_Pc [.ref (ad (279)), .int a] (Hp D G ad (va_up σ 16 u))) (va_Qi (fun (r : Int32) (z : Nat → Int32) => (r, z) = f7_movesDown u a ∧ okM z ∧ bl r) (fun (z : Nat → Int32) => Ho D G ad (va_up σ 16 z)) (AA B0)) 0 0 (AA B0) := by
  refine Met.ofW (cc := cX7_movesDown) (maxL := 2) (ret := (some .boolean)) (by decide) rfl ?_
  intro p e s m args below meth c s₁ B hml hv
  obtain ⟨rfl, hP, hK, hN⟩ := hv
  have hx := B.exec
  have hb := B.bytes
  have hr := B.returns
  have hts := atoms_spec (ws := wsX7_movesDown) B.pre
  have hown : s.vm.findClass RX7 = some m.cls := findClass_of_methodNamed B.named
  have hlocks := B.notSynchronized
  have hP : va_P D vwCl (pool G ad (va_up σ 16 u)) s.heap := hP
  have hS : va_S (AA B0) s.heap s.heap [] := va_S.rf
  have hl := lv_entry ([.ref (ad (279)), .int a]) (n := 2) (Nat.le_of_ble_eq_true rfl)
  rw [lg_entry_eq]
  generalize (lg_sl ([.ref (ad (279)), .int a]) ++ List.replicate (2 - (lg_sl ([.ref (ad (279)), .int a])).length) Slot.unset).toArray = ls at hl ⊢
  have hl : lv_has ls 2 [(0, .ref (ad (279))), (1, .int a)] := hl
  obtain ⟨FF, hFF⟩ : ∃ z, z = f7_movesDown u a := ⟨_, rfl⟩
  have hF := hFF.symm
  rw [f7_movesDown] at hF
  refine lv_aload_n hx hb dX7_movesDown_0 rfl (lv_at hl 0 rfl) ?_
  refine lv_iload_n hx hb dX7_movesDown_1 rfl (lv_at hl 1 rfl) ?_
  refine va_calli (va_runV (As := [.int a]) (rest := []) ⟨hx, hb, hml, hown, hts⟩ (c7_supportOf l hA σ u a hO hba) (cwV 1 hts gX7_movesDown_X7_supportOf rfl rfl rfl hd_X7_supportOfV ⟨Nat.le_of_ble_eq_true rfl, Nat.le_of_ble_eq_true rfl⟩) ⟨hp_blind, va_recv hK hP (ci := 9) (q0 := 279) rfl c_279, hp_pre hK hN hP⟩ rfl rfl hl.1 rfl (lv_room (Nat.le_of_ble_eq_true rfl)) dX7_movesDown_2 ⟨Nat.zero_le _, Nat.zero_le _⟩) hS (fun _ _ h => h) (fun _ h => h) (fun r2 _ t H locs ht hvm hw9 hB hz1 hk1 hS => ?_)
  have hP := ho_at ht hB
  have eq2 := hw9
  have hF := bnd_s eq2 hF
  refine lv_if_eq (tgt := 10) hx hb dX7_movesDown_5 (by decide) (fun c5 => ?_) (fun c5 => ?_)
  · have hF := ift c5 hF
    refine lv_aload_n hx hb dX7_movesDown_10 rfl (lv_at hl 0 rfl) ?_
    refine lv_iload_n hx hb dX7_movesDown_11 rfl (lv_at hl 1 rfl) ?_
    refine lv_iconst (v := 1) hx hb dX7_movesDown_12 (by decide) ?_
    refine lv_iconst (v := (-1)) hx hb dX7_movesDown_13 (by decide) ?_
    refine va_callv (va_runV (As := [.int a, .int 1, .int (-1)]) (rest := []) ⟨hx, hb, hml, hown, hts⟩ (c7_adds l hA σ u a 1 (-1) hO (vp_in_iff.mpr (by decide)) hba) (cwV 3 hts gX7_movesDown_X7_adds rfl rfl rfl hd_X7_addsV ⟨Nat.le_of_ble_eq_true rfl, Nat.le_of_ble_eq_true rfl⟩) ⟨hp_blind, va_recv hK hP (ci := 9) (q0 := 279) rfl c_279, hp_pre hK hN hP⟩ rfl rfl hl.1 rfl (lv_room (Nat.le_of_ble_eq_true rfl)) dX7_movesDown_14 ⟨Nat.zero_le _, Nat.zero_le _⟩) hS (fun _ _ h => h) (fun _ h => h) (fun u9 t H locs ht hvm hw9 hB hz1 hk1 hS => ?_)
    have hP := ho_at ht hB
    obtain ⟨eq14, ok9⟩ := hw9
    obtain ⟨u14, e_u14⟩ : ∃ z, z = u9 := ⟨_, rfl⟩
    rw [← e_u14] at hP eq14 ok9
    have hO := ok9
    have hF := bnd_s eq14 hF
    refine lv_iconst (v := 1) hx hb dX7_movesDown_17 (by decide) ?_
    exact W.zret (v := 1) hx hb hr (bl_nar bl1) (fun t ht hW => ⟨⟨1, u14, rfl, ⟨hF.trans hFF, hO, bl1⟩, ho_of ht hP⟩, hS.F ht⟩) hS.2.2 dX7_movesDown_18
  · have hF := iff_ c5 hF
    refine lv_iconst (v := 0) hx hb dX7_movesDown_8 (by decide) ?_
    exact W.zret (v := 0) hx hb hr (bl_nar bl0) (fun t ht hW => ⟨⟨0, u, rfl, ⟨hF.trans hFF, hO, bl0⟩, ho_of ht hP⟩, hS.F ht⟩) hS.2.2 dX7_movesDown_9
theorem hd_X7_movesDownV : yX7_movesDown.cls = RX7 ∧ yX7_movesDown.cls ≠ "java/lang/invoke/MethodHandle" ∧ yX7_movesDown.cls ≠ "java/lang/invoke/VarHandle" ∧ (parseMethodDescriptor yX7_movesDown.desc).map (fun d => d.parameters.length) = some 1 := by decide +kernel
set_option maxHeartbeats 4000000 in
set_option maxRecDepth 100000 in
theorem c7_carries (l : Launch) {D : va_G} {G : CY} {ad : Nat → Nat} {B0 : Nat} (hA : adOK B0 ad) (σ : Nat → Nat → Int32) (u : Nat → Int32) (a : Int32) (b : Int32) (hO : okM u) (hba : vp_in a 4) (hbb : vp_in b 4) : Met l yX7_carries wsX7_carries { frames := 9, cells := 0, slots := 0, locals := 211 } (va_Pc [.ref (ad (279)), .int a, .int b] (Hp D G ad (va_up σ 16 u))) (va_Qv (fun (z : Nat → Int32) => z = f7_carries u a b ∧ okM z) (fun (z : Nat → Int32) => Ho D G ad (va_up σ 16 z)) (AA B0)) 0 0 (AA B0) := by
  refine Met.ofW (cc := cX7_carries) (maxL := 5) (ret := none) (by decide) rfl ?_
  intro p e s m args below meth c s₁ B hml hv
  obtain ⟨rfl, hP, hK, hN⟩ := hv
  have hx := B.exec
  have hb := B.bytes
  have hr := B.returns
  have hts := atoms_spec (ws := wsX7_carries) B.pre
  have hown : s.vm.findClass RX7 = some m.cls := findClass_of_methodNamed B.named
  have hlocks := B.notSynchronized
  have hP : va_P D vwCl (pool G ad (va_up σ 16 u)) s.heap := hP
  have hS : va_S (AA B0) s.heap s.heap [] := va_S.rf
  have hl := lv_entry ([.ref (ad (279)), .int a, .int b]) (n := 5) (Nat.le_of_ble_eq_true rfl)
  rw [lg_entry_eq]
  generalize (lg_sl ([.ref (ad (279)), .int a, .int b]) ++ List.replicate (5 - (lg_sl ([.ref (ad (279)), .int a, .int b])).length) Slot.unset).toArray = ls at hl ⊢
  have hl : lv_has ls 5 [(0, .ref (ad (279))), (1, .int a), (2, .int b)] := hl
  obtain ⟨FF, hFF⟩ : ∃ z, z = f7_carries u a b := ⟨_, rfl⟩
  have hF := hFF.symm
  rw [f7_carries] at hF
  refine lv_aload_n hx hb dX7_carries_0 rfl (lv_at hl 0 rfl) ?_
  refine lv_iload_n hx hb dX7_carries_1 rfl (lv_at hl 2 rfl) ?_
  refine lv_iconst (v := 3) hx hb dX7_carries_2 (by decide) ?_
  refine va_calli (va_runV (As := [.int b, .int 3]) (rest := []) ⟨hx, hb, hml, hown, hts⟩ (c7_plate l hA σ u b 3 (vp_in_iff.mpr (by decide)) hbb) (cwV 2 hts gX7_carries_X7_plate rfl rfl rfl hd_X7_plateV ⟨Nat.le_of_ble_eq_true rfl, Nat.le_of_ble_eq_true rfl⟩) ⟨hp_blind, va_recv hK hP (ci := 9) (q0 := 279) rfl c_279, hp_pre hK hN hP⟩ rfl rfl hl.1 rfl (lv_room (Nat.le_of_ble_eq_true rfl)) dX7_carries_3 ⟨Nat.zero_le _, Nat.zero_le _⟩) hS (fun _ _ h => h) (fun _ h => h) (fun r3 _ t H locs ht hvm hw9 hB hz1 hk1 hS => ?_)
  have hP := ho_at ht hB
  have eq3 := hw9
  have hF := bnd_s eq3 hF
  have J14 : ∀ (t0_14 : Int32) (H : Heap) (locs : List Loc) (ls : Array Slot), va_P D vwCl (pool G ad (va_up σ 16 u)) H → va_S (AA B0) s.heap H locs → lv_has ls 5 [(0, .ref (ad (279))), (1, .int a), (2, .int b)] → f7_carries_b14 u a b t0_14 = FF → W p l e (headSpec wsX7_carries { frames := 9, cells := 0, slots := 0, locals := 211 }).room s m ([.ref (ad (279)), .int a, .int b] : List Value).toArray below meth c H locs 0 0 (MQ below (va_Qv (fun (z : Nat → Int32) => z = f7_carries u a b ∧ okM z) (fun (z : Nat → Int32) => Ho D G ad (va_up σ 16 z)) (AA B0)) ([.ref (ad (279)), .int a, .int b] : List Value).toArray s 0 0 (AA B0)) (F0 m 14 ls [.int t0_14]) := by
    intro t0_14 H locs ls hP hS hl hF
    rw [f7_carries_b14] at hF
    refine lv_istore_n (lv' := [(3, .int t0_14), (0, .ref (ad (279))), (1, .int a), (2, .int b)]) hx hb dX7_carries_14 rfl hl (by decide) rfl (fun ls hl => ?_)
    refine lv_aload_n hx hb dX7_carries_15 rfl (lv_at hl 1 rfl) ?_
    refine lv_iload_n hx hb dX7_carries_16 rfl (lv_at hl 3 rfl) ?_
    refine lv_iconst (v := 3) hx hb dX7_carries_17 (by decide) ?_
    refine va_calli (va_runV (As := [.int b, .int 3]) (rest := []) ⟨hx, hb, hml, hown, hts⟩ (c7_plate l hA σ u b 3 (vp_in_iff.mpr (by decide)) hbb) (cwV 2 hts gX7_carries_X7_plate rfl rfl rfl hd_X7_plateV ⟨Nat.le_of_ble_eq_true rfl, Nat.le_of_ble_eq_true rfl⟩) ⟨hp_blind, va_recv hK hP (ci := 9) (q0 := 279) rfl c_279, hp_pre hK hN hP⟩ rfl rfl hl.1 rfl (lv_room (Nat.le_of_ble_eq_true rfl)) dX7_carries_18 ⟨Nat.zero_le _, Nat.zero_le _⟩) hS (fun _ _ h => h) (fun _ h => h) (fun r18 _ t H locs ht hvm hw9 hB hz1 hk1 hS => ?_)
    have hP := ho_at ht hB
    have eq18 := hw9
    have hF := bnd_s eq18 hF
    refine lv_iload_n hx hb dX7_carries_21 rfl (lv_at hl 0 rfl) ?_
    refine lv_imul hx hb dX7_carries_22 ?_
    refine lv_topi (fun v4_23 e_v4_23 => ?_)
    have hF := bnd_s e_v4_23 hF
    refine lv_istore (lv' := [(4, .int v4_23), (3, .int t0_14), (0, .ref (ad (279))), (1, .int a), (2, .int b)]) hx hb dX7_carries_23 hl (by decide) rfl (fun ls hl => ?_)
    have L25 : ∀ (n25 : Nat) (w4_25 : Int32) (u_25 : (Nat → Int32)) (H : Heap) (locs : List Loc) (ls : Array Slot), w4_25.toInt.toNat < n25 → okM u_25 → va_P D vwCl (pool G ad (va_up σ 16 u_25)) H → va_S (AA B0) s.heap H locs → lv_has ls 5 [(4, .int w4_25), (3, .int t0_14), (0, .ref (ad (279))), (1, .int a), (2, .int b)] → f7_carries_L25 a b t0_14 n25 w4_25 u_25 = FF → W p l e (headSpec wsX7_carries { frames := 9, cells := 0, slots := 0, locals := 211 }).room s m ([.ref (ad (279)), .int a, .int b] : List Value).toArray below meth c H locs 0 0 (MQ below (va_Qv (fun (z : Nat → Int32) => z = f7_carries u a b ∧ okM z) (fun (z : Nat → Int32) => Ho D G ad (va_up σ 16 z)) (AA B0)) ([.ref (ad (279)), .int a, .int b] : List Value).toArray s 0 0 (AA B0)) (F0 m 25 ls []) := by
      intro n25
      induction n25 with
      | zero => intro w4_25 u_25 H locs ls hm; exact absurd hm (Nat.not_lt_zero _)
      | succ n25 ih25 =>
        intro w4_25 u_25 H locs ls hm25 hO hP hS hl hF
        rw [f7_carries_L25] at hF
        refine lv_iload hx hb dX7_carries_25 (lv_at hl 0 rfl) ?_
        have J45 : ∀ (u_45 : (Nat → Int32)) (H : Heap) (locs : List Loc) (ls : Array Slot), okM u_45 → va_P D vwCl (pool G ad (va_up σ 16 u_45)) H → va_S (AA B0) s.heap H locs → lv_has ls 5 [(0, .ref (ad (279))), (1, .int a), (2, .int b)] → f7_carries_b45 a b u_45 = FF → W p l e (headSpec wsX7_carries { frames := 9, cells := 0, slots := 0, locals := 211 }).room s m ([.ref (ad (279)), .int a, .int b] : List Value).toArray below meth c H locs 0 0 (MQ below (va_Qv (fun (z : Nat → Int32) => z = f7_carries u a b ∧ okM z) (fun (z : Nat → Int32) => Ho D G ad (va_up σ 16 z)) (AA B0)) ([.ref (ad (279)), .int a, .int b] : List Value).toArray s 0 0 (AA B0)) (F0 m 45 ls []) := by
          intro u_45 H locs ls hO hP hS hl hF
          rw [f7_carries_b45] at hF
          refine lv_aload_n hx hb dX7_carries_45 rfl (lv_at hl 0 rfl) ?_
          refine lv_iload_n hx hb dX7_carries_46 rfl (lv_at hl 2 rfl) ?_
          refine lv_iconst (v := 4) hx hb dX7_carries_47 (by decide) ?_
          refine va_calli (va_runV (As := [.int b, .int 4]) (rest := []) ⟨hx, hb, hml, hown, hts⟩ (c7_plate l hA σ u_45 b 4 (vp_in_iff.mpr (by decide)) hbb) (cwV 2 hts gX7_carries_X7_plate rfl rfl rfl hd_X7_plateV ⟨Nat.le_of_ble_eq_true rfl, Nat.le_of_ble_eq_true rfl⟩) ⟨hp_blind, va_recv hK hP (ci := 9) (q0 := 279) rfl c_279, hp_pre hK hN hP⟩ rfl rfl hl.1 rfl (lv_room (Nat.le_of_ble_eq_true rfl)) dX7_carries_48 ⟨Nat.zero_le _, Nat.zero_le _⟩) hS (fun _ _ h => h) (fun _ h => h) (fun r48 _ t H locs ht hvm hw9 hB hz1 hk1 hS => ?_)
          have hP := ho_at ht hB
          have eq48 := hw9
          have hF := bnd_s eq48 hF
          refine lv_istore (lv' := [(4, .int r48), (0, .ref (ad (279))), (1, .int a), (2, .int b)]) hx hb dX7_carries_51 hl (by decide) rfl (fun ls hl => ?_)
          have L53 : ∀ (n53 : Nat) (w4_53 : Int32) (u_53 : (Nat → Int32)) (H : Heap) (locs : List Loc) (ls : Array Slot), w4_53.toInt.toNat < n53 → okM u_53 → va_P D vwCl (pool G ad (va_up σ 16 u_53)) H → va_S (AA B0) s.heap H locs → lv_has ls 5 [(4, .int w4_53), (0, .ref (ad (279))), (1, .int a), (2, .int b)] → f7_carries_L53 a b n53 w4_53 u_53 = FF → W p l e (headSpec wsX7_carries { frames := 9, cells := 0, slots := 0, locals := 211 }).room s m ([.ref (ad (279)), .int a, .int b] : List Value).toArray below meth c H locs 0 0 (MQ below (va_Qv (fun (z : Nat → Int32) => z = f7_carries u a b ∧ okM z) (fun (z : Nat → Int32) => Ho D G ad (va_up σ 16 z)) (AA B0)) ([.ref (ad (279)), .int a, .int b] : List Value).toArray s 0 0 (AA B0)) (F0 m 53 ls []) := by
            intro n53
            induction n53 with
            | zero => intro w4_53 u_53 H locs ls hm; exact absurd hm (Nat.not_lt_zero _)
            | succ n53 ih53 =>
              intro w4_53 u_53 H locs ls hm53 hO hP hS hl hF
              rw [f7_carries_L53] at hF
              refine lv_iload hx hb dX7_carries_53 (lv_at hl 0 rfl) ?_
              have J72 : ∀ (u_72 : (Nat → Int32)) (H : Heap) (locs : List Loc) (ls : Array Slot), okM u_72 → va_P D vwCl (pool G ad (va_up σ 16 u_72)) H → va_S (AA B0) s.heap H locs → lv_has ls 5 [(0, .ref (ad (279))), (1, .int a), (2, .int b)] → f7_carries_b72 a b u_72 = FF → W p l e (headSpec wsX7_carries { frames := 9, cells := 0, slots := 0, locals := 211 }).room s m ([.ref (ad (279)), .int a, .int b] : List Value).toArray below meth c H locs 0 0 (MQ below (va_Qv (fun (z : Nat → Int32) => z = f7_carries u a b ∧ okM z) (fun (z : Nat → Int32) => Ho D G ad (va_up σ 16 z)) (AA B0)) ([.ref (ad (279)), .int a, .int b] : List Value).toArray s 0 0 (AA B0)) (F0 m 72 ls []) := by
                intro u_72 H locs ls hO hP hS hl hF
                rw [f7_carries_b72] at hF
                refine lv_aload_n hx hb dX7_carries_72 rfl (lv_at hl 0 rfl) ?_
                refine lv_iload_n hx hb dX7_carries_73 rfl (lv_at hl 2 rfl) ?_
                refine lv_iconst (v := 4) hx hb dX7_carries_74 (by decide) ?_
                refine va_calli (va_runV (As := [.int b, .int 4]) (rest := []) ⟨hx, hb, hml, hown, hts⟩ (c7_plate l hA σ u_72 b 4 (vp_in_iff.mpr (by decide)) hbb) (cwV 2 hts gX7_carries_X7_plate rfl rfl rfl hd_X7_plateV ⟨Nat.le_of_ble_eq_true rfl, Nat.le_of_ble_eq_true rfl⟩) ⟨hp_blind, va_recv hK hP (ci := 9) (q0 := 279) rfl c_279, hp_pre hK hN hP⟩ rfl rfl hl.1 rfl (lv_room (Nat.le_of_ble_eq_true rfl)) dX7_carries_75 ⟨Nat.zero_le _, Nat.zero_le _⟩) hS (fun _ _ h => h) (fun _ h => h) (fun r75 _ t H locs ht hvm hw9 hB hz1 hk1 hS => ?_)
                have hP := ho_at ht hB
                have eq75 := hw9
                have hF := bnd_s eq75 hF
                refine lv_ineg hx hb dX7_carries_78 ?_
                refine lv_istore (lv' := [(4, .int (-r75)), (0, .ref (ad (279))), (1, .int a), (2, .int b)]) hx hb dX7_carries_79 hl (by decide) rfl (fun ls hl => ?_)
                have L81 : ∀ (n81 : Nat) (w4_81 : Int32) (u_81 : (Nat → Int32)) (H : Heap) (locs : List Loc) (ls : Array Slot), w4_81.toInt.toNat < n81 → okM u_81 → va_P D vwCl (pool G ad (va_up σ 16 u_81)) H → va_S (AA B0) s.heap H locs → lv_has ls 5 [(4, .int w4_81), (0, .ref (ad (279))), (1, .int a), (2, .int b)] → f7_carries_L81 a b n81 w4_81 u_81 = FF → W p l e (headSpec wsX7_carries { frames := 9, cells := 0, slots := 0, locals := 211 }).room s m ([.ref (ad (279)), .int a, .int b] : List Value).toArray below meth c H locs 0 0 (MQ below (va_Qv (fun (z : Nat → Int32) => z = f7_carries u a b ∧ okM z) (fun (z : Nat → Int32) => Ho D G ad (va_up σ 16 z)) (AA B0)) ([.ref (ad (279)), .int a, .int b] : List Value).toArray s 0 0 (AA B0)) (F0 m 81 ls []) := by
                  intro n81
                  induction n81 with
                  | zero => intro w4_81 u_81 H locs ls hm; exact absurd hm (Nat.not_lt_zero _)
                  | succ n81 ih81 =>
                    intro w4_81 u_81 H locs ls hm81 hO hP hS hl hF
                    rw [f7_carries_L81] at hF
                    refine lv_iload hx hb dX7_carries_81 (lv_at hl 0 rfl) ?_
                    refine lv_if_le (tgt := 120) hx hb dX7_carries_83 (by decide) (fun c83 => ?_) (fun c83 => ?_)
                    · have hF := ift c83 hF
                      exact W.vret hx hb hr (fun t ht hW => ⟨⟨u_81, rfl, ⟨hF.trans hFF, hO⟩, ho_of ht hP⟩, hS.F ht⟩) hS.2.2 dX7_carries_120
                    · have hF := iff_ c83 hF
                      refine lv_aload_n hx hb dX7_carries_86 rfl (lv_at hl 1 rfl) ?_
                      refine lv_iload_n hx hb dX7_carries_87 rfl (lv_at hl 2 rfl) ?_
                      refine lv_aload_n hx hb dX7_carries_88 rfl (lv_at hl 1 rfl) ?_
                      refine lv_iload_n hx hb dX7_carries_89 rfl (lv_at hl 2 rfl) ?_
                      refine lv_iconst (v := 0) hx hb dX7_carries_90 (by decide) ?_
                      refine va_calli (va_runV (As := [.int a, .int 0]) (rest := [.int a, .ref (ad (279))]) ⟨hx, hb, hml, hown, hts⟩ (c7_of l hA σ u_81 a 0 (vp_in_iff.mpr (by decide)) hba) (cwV 2 hts gX7_carries_X7_of rfl rfl rfl hd_X7_ofV ⟨Nat.le_of_ble_eq_true rfl, Nat.le_of_ble_eq_true rfl⟩) ⟨hp_blind, va_recv hK hP (ci := 9) (q0 := 279) rfl c_279, hp_pre hK hN hP⟩ rfl rfl hl.1 rfl (lv_room (Nat.le_of_ble_eq_true rfl)) dX7_carries_91 ⟨Nat.zero_le _, Nat.zero_le _⟩) hS (fun _ _ h => h) (fun _ h => h) (fun r91 _ t H locs ht hvm hw9 hB hz1 hk1 hS => ?_)
                      have hP := ho_at ht hB
                      have eq91 := hw9
                      have hF := bnd_s eq91 hF
                      refine lv_aload_n hx hb dX7_carries_94 rfl (lv_at hl 1 rfl) ?_
                      refine lv_iload_n hx hb dX7_carries_95 rfl (lv_at hl 2 rfl) ?_
                      refine lv_iconst (v := 1) hx hb dX7_carries_96 (by decide) ?_
                      refine va_calli (va_runV (As := [.int a, .int 1]) (rest := [.int r91, .int a, .ref (ad (279))]) ⟨hx, hb, hml, hown, hts⟩ (c7_of l hA σ u_81 a 1 (vp_in_iff.mpr (by decide)) hba) (cwV 2 hts gX7_carries_X7_of rfl rfl rfl hd_X7_ofV ⟨Nat.le_of_ble_eq_true rfl, Nat.le_of_ble_eq_true rfl⟩) ⟨hp_blind, va_recv hK hP (ci := 9) (q0 := 279) rfl c_279, hp_pre hK hN hP⟩ rfl rfl hl.1 rfl (lv_room (Nat.le_of_ble_eq_true rfl)) dX7_carries_97 ⟨Nat.zero_le _, Nat.zero_le _⟩) hS (fun _ _ h => h) (fun _ h => h) (fun r97 _ t H locs ht hvm hw9 hB hz1 hk1 hS => ?_)
                      have hP := ho_at ht hB
                      have eq97 := hw9
                      have hF := bnd_s eq97 hF
                      refine lv_iload_n hx hb dX7_carries_100 rfl (lv_at hl 3 rfl) ?_
                      refine va_calli (va_runV (As := [.int a, .int r91, .int r97, .int b]) (rest := []) ⟨hx, hb, hml, hown, hts⟩ (c7_supportBut l hA σ u_81 a r91 r97 b hO hba) (cwV 4 hts gX7_carries_X7_supportBut rfl rfl rfl hd_X7_supportButV ⟨Nat.le_of_ble_eq_true rfl, Nat.le_of_ble_eq_true rfl⟩) ⟨hp_blind, va_recv hK hP (ci := 9) (q0 := 279) rfl c_279, hp_pre hK hN hP⟩ rfl rfl hl.1 rfl (lv_room (Nat.le_of_ble_eq_true rfl)) dX7_carries_101 ⟨Nat.zero_le _, Nat.zero_le _⟩) hS (fun _ _ h => h) (fun _ h => h) (fun r101 _ t H locs ht hvm hw9 hB hz1 hk1 hS => ?_)
                      have hP := ho_at ht hB
                      have eq101 := hw9
                      have hF := bnd_s eq101 hF
                      refine lv_if_ne (tgt := 120) hx hb dX7_carries_104 (by decide) (fun c104 => ?_) (fun c104 => ?_)
                      · have hF := iff_ c104 hF
                        exact W.vret hx hb hr (fun t ht hW => ⟨⟨u_81, rfl, ⟨hF.trans hFF, hO⟩, ho_of ht hP⟩, hS.F ht⟩) hS.2.2 dX7_carries_120
                      · have hF := ift c104 hF
                        refine lv_aload_n hx hb dX7_carries_107 rfl (lv_at hl 1 rfl) ?_
                        refine lv_iload_n hx hb dX7_carries_108 rfl (lv_at hl 2 rfl) ?_
                        refine lv_iconst (v := 1) hx hb dX7_carries_109 (by decide) ?_
                        refine lv_iconst (v := (-1)) hx hb dX7_carries_110 (by decide) ?_
                        refine va_callv (va_runV (As := [.int a, .int 1, .int (-1)]) (rest := []) ⟨hx, hb, hml, hown, hts⟩ (c7_adds l hA σ u_81 a 1 (-1) hO (vp_in_iff.mpr (by decide)) hba) (cwV 3 hts gX7_carries_X7_adds rfl rfl rfl hd_X7_addsV ⟨Nat.le_of_ble_eq_true rfl, Nat.le_of_ble_eq_true rfl⟩) ⟨hp_blind, va_recv hK hP (ci := 9) (q0 := 279) rfl c_279, hp_pre hK hN hP⟩ rfl rfl hl.1 rfl (lv_room (Nat.le_of_ble_eq_true rfl)) dX7_carries_111 ⟨Nat.zero_le _, Nat.zero_le _⟩) hS (fun _ _ h => h) (fun _ h => h) (fun u9 t H locs ht hvm hw9 hB hz1 hk1 hS => ?_)
                        have hP := ho_at ht hB
                        obtain ⟨eq111, ok9⟩ := hw9
                        obtain ⟨u111, e_u111⟩ : ∃ z, z = u9 := ⟨_, rfl⟩
                        rw [← e_u111] at hP eq111 ok9
                        have hO := ok9
                        have hF := bnd_s eq111 hF
                        obtain ⟨v4_114, e_v4_114⟩ : ∃ z : Int32, z = w4_81 + (-1) := ⟨_, rfl⟩
                        have hF := bnd_s e_v4_114 hF
                        refine lv_iinc (v := v4_114) (lv' := [(4, .int v4_114), (0, .ref (ad (279))), (1, .int a), (2, .int b)]) hx hb dX7_carries_114 hl (k := 0) rfl (by rw [e_v4_114]; rfl) (by decide) rfl (fun ls hl => ?_)
                        refine lv_goto (tgt := 81) hx hb dX7_carries_117 (by decide) ?_
                        exact ih81 v4_114 u111 _ _ ls (ms_s (dec_dn (nle_lt c83) e_v4_114) hm81) hO hP hS (lv_sub hl [0, 1, 2, 3] rfl) hF
                exact L81 BIG (-r75) u_72 _ _ ls (big_dn _) hO hP hS (lv_sub hl [0, 1, 2, 3] rfl) hF
              refine lv_if_le (tgt := 72) hx hb dX7_carries_55 (by decide) (fun c55 => ?_) (fun c55 => ?_)
              · have hF := ift c55 hF
                exact J72 u_53 _ _ ls hO hP hS (lv_sub hl [1, 2, 3] rfl) hF
              · have hF := iff_ c55 hF
                refine lv_aload_n hx hb dX7_carries_58 rfl (lv_at hl 1 rfl) ?_
                refine lv_iload_n hx hb dX7_carries_59 rfl (lv_at hl 2 rfl) ?_
                refine va_calli (va_runV (As := [.int a]) (rest := []) ⟨hx, hb, hml, hown, hts⟩ (c7_movesUp l hA σ u_53 a hO hba) (cwV 1 hts gX7_carries_X7_movesUp rfl rfl rfl hd_X7_movesUpV ⟨Nat.le_of_ble_eq_true rfl, Nat.le_of_ble_eq_true rfl⟩) ⟨hp_blind, va_recv hK hP (ci := 9) (q0 := 279) rfl c_279, hp_pre hK hN hP⟩ rfl rfl hl.1 rfl (lv_room (Nat.le_of_ble_eq_true rfl)) dX7_carries_60 ⟨Nat.zero_le _, Nat.zero_le _⟩) hS (fun _ _ h => h) (fun _ h => h) (fun r60 u9 t H locs ht hvm hw9 hB hz1 hk1 hS => ?_)
                have hP := ho_at ht hB
                obtain ⟨eq60, ok9, hb_r60⟩ := hw9
                obtain ⟨u60, e_u60⟩ : ∃ z, z = u9 := ⟨_, rfl⟩
                rw [← e_u60] at hP eq60 ok9
                have hO := ok9
                have hF := bnd2_s eq60 hF
                refine lv_if_eq (tgt := 72) hx hb dX7_carries_63 (by decide) (fun c63 => ?_) (fun c63 => ?_)
                · have hF := ift c63 hF
                  exact J72 u60 _ _ ls hO hP hS (lv_sub hl [1, 2, 3] rfl) hF
                · have hF := iff_ c63 hF
                  obtain ⟨v4_66, e_v4_66⟩ : ∃ z : Int32, z = w4_53 + (-1) := ⟨_, rfl⟩
                  have hF := bnd_s e_v4_66 hF
                  refine lv_iinc (v := v4_66) (lv' := [(4, .int v4_66), (0, .ref (ad (279))), (1, .int a), (2, .int b)]) hx hb dX7_carries_66 hl (k := 0) rfl (by rw [e_v4_66]; rfl) (by decide) rfl (fun ls hl => ?_)
                  refine lv_goto (tgt := 53) hx hb dX7_carries_69 (by decide) ?_
                  exact ih53 v4_66 u60 _ _ ls (ms_s (dec_dn (nle_lt c55) e_v4_66) hm53) hO hP hS (lv_sub hl [0, 1, 2, 3] rfl) hF
          exact L53 BIG r48 u_45 _ _ ls (big_dn _) hO hP hS (lv_sub hl [0, 1, 2, 3] rfl) hF
        refine lv_if_le (tgt := 45) hx hb dX7_carries_27 (by decide) (fun c27 => ?_) (fun c27 => ?_)
        · have hF := ift c27 hF
          exact J45 u_25 _ _ ls hO hP hS (lv_sub hl [2, 3, 4] rfl) hF
        · have hF := iff_ c27 hF
          refine lv_aload_n hx hb dX7_carries_30 rfl (lv_at hl 2 rfl) ?_
          refine lv_iload_n hx hb dX7_carries_31 rfl (lv_at hl 3 rfl) ?_
          refine lv_iload_n hx hb dX7_carries_32 rfl (lv_at hl 1 rfl) ?_
          refine va_calli (va_runV (As := [.int a, .int t0_14]) (rest := []) ⟨hx, hb, hml, hown, hts⟩ (c7_movesAcross l hA σ u_25 a t0_14 hO hba) (cwV 2 hts gX7_carries_X7_movesAcross rfl rfl rfl hd_X7_movesAcrossV ⟨Nat.le_of_ble_eq_true rfl, Nat.le_of_ble_eq_true rfl⟩) ⟨hp_blind, va_recv hK hP (ci := 9) (q0 := 279) rfl c_279, hp_pre hK hN hP⟩ rfl rfl hl.1 rfl (lv_room (Nat.le_of_ble_eq_true rfl)) dX7_carries_33 ⟨Nat.zero_le _, Nat.zero_le _⟩) hS (fun _ _ h => h) (fun _ h => h) (fun r33 u9 t H locs ht hvm hw9 hB hz1 hk1 hS => ?_)
          have hP := ho_at ht hB
          obtain ⟨eq33, ok9, hb_r33⟩ := hw9
          obtain ⟨u33, e_u33⟩ : ∃ z, z = u9 := ⟨_, rfl⟩
          rw [← e_u33] at hP eq33 ok9
          have hO := ok9
          have hF := bnd2_s eq33 hF
          refine lv_if_eq (tgt := 45) hx hb dX7_carries_36 (by decide) (fun c36 => ?_) (fun c36 => ?_)
          · have hF := ift c36 hF
            exact J45 u33 _ _ ls hO hP hS (lv_sub hl [2, 3, 4] rfl) hF
          · have hF := iff_ c36 hF
            obtain ⟨v4_39, e_v4_39⟩ : ∃ z : Int32, z = w4_25 + (-1) := ⟨_, rfl⟩
            have hF := bnd_s e_v4_39 hF
            refine lv_iinc (v := v4_39) (lv' := [(4, .int v4_39), (3, .int t0_14), (0, .ref (ad (279))), (1, .int a), (2, .int b)]) hx hb dX7_carries_39 hl (k := 0) rfl (by rw [e_v4_39]; rfl) (by decide) rfl (fun ls hl => ?_)
            refine lv_goto (tgt := 25) hx hb dX7_carries_42 (by decide) ?_
            exact ih25 v4_39 u33 _ _ ls (ms_s (dec_dn (nle_lt c27) e_v4_39) hm25) hO hP hS (lv_sub hl [0, 1, 2, 3, 4] rfl) hF
    exact L25 BIG v4_23 u _ _ ls (big_dn _) hO hP hS (lv_sub hl [0, 1, 2, 3, 4] rfl) hF
  refine lv_if_ge (tgt := 13) hx hb dX7_carries_6 (by decide) (fun c6 => ?_) (fun c6 => ?_)
  · have hF := ift c6 hF
    refine lv_iconst (v := 1) hx hb dX7_carries_13 (by decide) ?_
    exact J14 1 _ _ ls hP hS (lv_sub hl [0, 1, 2] rfl) hF
  · have hF := iff_ c6 hF
    refine lv_iconst (v := (-1)) hx hb dX7_carries_9 (by decide) ?_
    refine lv_goto (tgt := 14) hx hb dX7_carries_10 (by decide) ?_
    exact J14 (-1) _ _ ls hP hS (lv_sub hl [0, 1, 2] rfl) hF
theorem hd_X7_carriesV : yX7_carries.cls = RX7 ∧ yX7_carries.cls ≠ "java/lang/invoke/MethodHandle" ∧ yX7_carries.cls ≠ "java/lang/invoke/VarHandle" ∧ (parseMethodDescriptor yX7_carries.desc).map (fun d => d.parameters.length) = some 2 := by decide +kernel
set_option maxHeartbeats 4000000 in
set_option maxRecDepth 100000 in
theorem c7_goesPlatform (l : Launch) {D : va_G} {G : CY} {ad : Nat → Nat} {B0 : Nat} (hA : adOK B0 ad) (σ : Nat → Nat → Int32) (u : Nat → Int32) (a : Int32) (hO : okM u) (hba : vp_in a 4) : Met l yX7_goesPlatform wsX7_goesPlatform { frames := 10, cells := 0, slots := 0, locals := 235 } (va_Pc [.ref (ad (279)), .int a] (Hp D G ad (va_up σ 16 u))) (va_Qv (fun (z : Nat → Int32) => z = f7_goesPlatform u a ∧ okM z) (fun (z : Nat → Int32) => Ho D G ad (va_up σ 16 z)) (AA B0)) 0 0 (AA B0) := by
  refine Met.ofW (cc := cX7_goesPlatform) (maxL := 3) (ret := none) (by decide) rfl ?_
  intro p e s m args below meth c s₁ B hml hv
  obtain ⟨rfl, hP, hK, hN⟩ := hv
  have hx := B.exec
  have hb := B.bytes
  have hr := B.returns
  have hts := atoms_spec (ws := wsX7_goesPlatform) B.pre
  have hown : s.vm.findClass RX7 = some m.cls := findClass_of_methodNamed B.named
  have hlocks := B.notSynchronized
  have inX7 : ∀ w ∈ wsX70, w ∈ wsX7_goesPlatform := (fun w h => List.mem_cons_of_mem _ (List.mem_append_left _ (List.mem_append_right _ h)))
  have hP : va_P D vwCl (pool G ad (va_up σ 16 u)) s.heap := hP
  have hS : va_S (AA B0) s.heap s.heap [] := va_S.rf
  have hl := lv_entry ([.ref (ad (279)), .int a]) (n := 3) (Nat.le_of_ble_eq_true rfl)
  rw [lg_entry_eq]
  generalize (lg_sl ([.ref (ad (279)), .int a]) ++ List.replicate (3 - (lg_sl ([.ref (ad (279)), .int a])).length) Slot.unset).toArray = ls at hl ⊢
  have hl : lv_has ls 3 [(0, .ref (ad (279))), (1, .int a)] := hl
  obtain ⟨FF, hFF⟩ : ∃ z, z = f7_goesPlatform u a := ⟨_, rfl⟩
  have hF := hFF.symm
  rw [f7_goesPlatform] at hF
  refine lv_iconst (v := 0) hx hb dX7_goesPlatform_0 (by decide) ?_
  refine lv_istore_n (lv' := [(2, .int 0), (0, .ref (ad (279))), (1, .int a)]) hx hb dX7_goesPlatform_1 rfl hl (by decide) rfl (fun ls hl => ?_)
  have L2 : ∀ (n2 : Nat) (w2_2 : Int32) (u_2 : (Nat → Int32)) (H : Heap) (locs : List Loc) (ls : Array Slot), (4 - w2_2.toInt).toNat < n2 → 0 ≤ w2_2 → okM u_2 → va_P D vwCl (pool G ad (va_up σ 16 u_2)) H → va_S (AA B0) s.heap H locs → lv_has ls 3 [(2, .int w2_2), (0, .ref (ad (279))), (1, .int a)] → f7_goesPlatform_L2 a n2 w2_2 u_2 = FF → W p l e (headSpec wsX7_goesPlatform { frames := 10, cells := 0, slots := 0, locals := 235 }).room s m ([.ref (ad (279)), .int a] : List Value).toArray below meth c H locs 0 0 (MQ below (va_Qv (fun (z : Nat → Int32) => z = f7_goesPlatform u a ∧ okM z) (fun (z : Nat → Int32) => Ho D G ad (va_up σ 16 z)) (AA B0)) ([.ref (ad (279)), .int a] : List Value).toArray s 0 0 (AA B0)) (F0 m 2 ls []) := by
    intro n2
    induction n2 with
    | zero => intro w2_2 u_2 H locs ls hm; exact absurd hm (Nat.not_lt_zero _)
    | succ n2 ih2 =>
      intro w2_2 u_2 H locs ls hm2 h2 hO hP hS hl hF
      rw [f7_goesPlatform_L2] at hF
      refine lv_iload_n hx hb dX7_goesPlatform_2 rfl (lv_at hl 0 rfl) ?_
      refine lv_aload_n hx hb dX7_goesPlatform_3 rfl (lv_at hl 1 rfl) ?_
      refine va_get (D := D) (ci := 9) (C := RX7) (T := TX7) (N := 17) hx hb hts inX7 hown hK hP (279) c_279 rfl 1 (by decide) (hts (.fieldLink RX7 7 "TileRunnersModel" "world" "[I") (List.mem_of_getElem? (i := 1) rfl)) (fun _ h9 => h9) rfl dX7_goesPlatform_4 ?_
      refine lv_sipush (v := 464) hx hb dX7_goesPlatform_7 (by decide) ?_
      refine pald (n := 480) (o := 0) (t := 464) (i := 464) hx hb hK hP c_280 (vp_in_iff.mpr (by decide)) rfl dX7_goesPlatform_10 ?_
      refine lv_icmp_ge (tgt := 36) hx hb dX7_goesPlatform_11 (by decide) (fun c11 => ?_) (fun c11 => ?_)
      · have hF := ift c11 hF
        refine lv_aload_n hx hb dX7_goesPlatform_36 rfl (lv_at hl 1 rfl) ?_
        refine lv_iload_n hx hb dX7_goesPlatform_37 rfl (lv_at hl 2 rfl) ?_
        refine lv_iconst (v := 0) hx hb dX7_goesPlatform_38 (by decide) ?_
        refine lv_aload_n hx hb dX7_goesPlatform_39 rfl (lv_at hl 1 rfl) ?_
        refine lv_iload_n hx hb dX7_goesPlatform_40 rfl (lv_at hl 2 rfl) ?_
        refine lv_iconst (v := 0) hx hb dX7_goesPlatform_41 (by decide) ?_
        refine va_calli (va_runV (As := [.int a, .int 0]) (rest := [.int 0, .int a, .ref (ad (279))]) ⟨hx, hb, hml, hown, hts⟩ (c7_plate l hA σ u_2 a 0 (vp_in_iff.mpr (by decide)) hba) (cwV 2 hts gX7_goesPlatform_X7_plate rfl rfl rfl hd_X7_plateV ⟨Nat.le_of_ble_eq_true rfl, Nat.le_of_ble_eq_true rfl⟩) ⟨hp_blind, va_recv hK hP (ci := 9) (q0 := 279) rfl c_279, hp_pre hK hN hP⟩ rfl rfl hl.1 rfl (lv_room (Nat.le_of_ble_eq_true rfl)) dX7_goesPlatform_42 ⟨Nat.zero_le _, Nat.zero_le _⟩) hS (fun _ _ h => h) (fun _ h => h) (fun r42 _ t H locs ht hvm hw9 hB hz1 hk1 hS => ?_)
        have hP := ho_at ht hB
        have eq42 := hw9
        have hF := bnd_s eq42 hF
        refine lv_aload_n hx hb dX7_goesPlatform_45 rfl (lv_at hl 1 rfl) ?_
        refine lv_iload_n hx hb dX7_goesPlatform_46 rfl (lv_at hl 2 rfl) ?_
        refine lv_iconst (v := 3) hx hb dX7_goesPlatform_47 (by decide) ?_
        refine va_calli (va_runV (As := [.int a, .int 3]) (rest := [.int r42, .int 0, .int a, .ref (ad (279))]) ⟨hx, hb, hml, hown, hts⟩ (c7_plate l hA σ u_2 a 3 (vp_in_iff.mpr (by decide)) hba) (cwV 2 hts gX7_goesPlatform_X7_plate rfl rfl rfl hd_X7_plateV ⟨Nat.le_of_ble_eq_true rfl, Nat.le_of_ble_eq_true rfl⟩) ⟨hp_blind, va_recv hK hP (ci := 9) (q0 := 279) rfl c_279, hp_pre hK hN hP⟩ rfl rfl hl.1 rfl (lv_room (Nat.le_of_ble_eq_true rfl)) dX7_goesPlatform_48 ⟨Nat.zero_le _, Nat.zero_le _⟩) hS (fun _ _ h => h) (fun _ h => h) (fun r48 _ t H locs ht hvm hw9 hB hz1 hk1 hS => ?_)
        have hP := ho_at ht hB
        have eq48 := hw9
        have hF := bnd_s eq48 hF
        refine lv_iadd hx hb dX7_goesPlatform_51 ?_
        refine va_callv (va_runV (As := [.int a, .int 0, .int (r42 + r48)]) (rest := []) ⟨hx, hb, hml, hown, hts⟩ (c7_setsPlate l hA σ u_2 a 0 (r42 + r48) hO (vp_in_iff.mpr (by decide)) hba) (cwV 3 hts gX7_goesPlatform_X7_setsPlate rfl rfl rfl hd_X7_setsPlateV ⟨Nat.le_of_ble_eq_true rfl, Nat.le_of_ble_eq_true rfl⟩) ⟨hp_blind, va_recv hK hP (ci := 9) (q0 := 279) rfl c_279, hp_pre hK hN hP⟩ rfl rfl hl.1 rfl (lv_room (Nat.le_of_ble_eq_true rfl)) dX7_goesPlatform_52 ⟨Nat.zero_le _, Nat.zero_le _⟩) hS (fun _ _ h => h) (fun _ h => h) (fun u9 t H locs ht hvm hw9 hB hz1 hk1 hS => ?_)
        have hP := ho_at ht hB
        obtain ⟨eq52, ok9⟩ := hw9
        obtain ⟨u52, e_u52⟩ : ∃ z, z = u9 := ⟨_, rfl⟩
        rw [← e_u52] at hP eq52 ok9
        have hO := ok9
        have hF := bnd_s eq52 hF
        refine lv_aload_n hx hb dX7_goesPlatform_55 rfl (lv_at hl 1 rfl) ?_
        refine lv_iload_n hx hb dX7_goesPlatform_56 rfl (lv_at hl 2 rfl) ?_
        refine lv_iconst (v := 1) hx hb dX7_goesPlatform_57 (by decide) ?_
        refine lv_aload_n hx hb dX7_goesPlatform_58 rfl (lv_at hl 1 rfl) ?_
        refine lv_iload_n hx hb dX7_goesPlatform_59 rfl (lv_at hl 2 rfl) ?_
        refine lv_iconst (v := 1) hx hb dX7_goesPlatform_60 (by decide) ?_
        refine va_calli (va_runV (As := [.int a, .int 1]) (rest := [.int 1, .int a, .ref (ad (279))]) ⟨hx, hb, hml, hown, hts⟩ (c7_plate l hA σ u52 a 1 (vp_in_iff.mpr (by decide)) hba) (cwV 2 hts gX7_goesPlatform_X7_plate rfl rfl rfl hd_X7_plateV ⟨Nat.le_of_ble_eq_true rfl, Nat.le_of_ble_eq_true rfl⟩) ⟨hp_blind, va_recv hK hP (ci := 9) (q0 := 279) rfl c_279, hp_pre hK hN hP⟩ rfl rfl hl.1 rfl (lv_room (Nat.le_of_ble_eq_true rfl)) dX7_goesPlatform_61 ⟨Nat.zero_le _, Nat.zero_le _⟩) hS (fun _ _ h => h) (fun _ h => h) (fun r61 _ t H locs ht hvm hw9 hB hz1 hk1 hS => ?_)
        have hP := ho_at ht hB
        have eq61 := hw9
        have hF := bnd_s eq61 hF
        refine lv_aload_n hx hb dX7_goesPlatform_64 rfl (lv_at hl 1 rfl) ?_
        refine lv_iload_n hx hb dX7_goesPlatform_65 rfl (lv_at hl 2 rfl) ?_
        refine lv_iconst (v := 4) hx hb dX7_goesPlatform_66 (by decide) ?_
        refine va_calli (va_runV (As := [.int a, .int 4]) (rest := [.int r61, .int 1, .int a, .ref (ad (279))]) ⟨hx, hb, hml, hown, hts⟩ (c7_plate l hA σ u52 a 4 (vp_in_iff.mpr (by decide)) hba) (cwV 2 hts gX7_goesPlatform_X7_plate rfl rfl rfl hd_X7_plateV ⟨Nat.le_of_ble_eq_true rfl, Nat.le_of_ble_eq_true rfl⟩) ⟨hp_blind, va_recv hK hP (ci := 9) (q0 := 279) rfl c_279, hp_pre hK hN hP⟩ rfl rfl hl.1 rfl (lv_room (Nat.le_of_ble_eq_true rfl)) dX7_goesPlatform_67 ⟨Nat.zero_le _, Nat.zero_le _⟩) hS (fun _ _ h => h) (fun _ h => h) (fun r67 _ t H locs ht hvm hw9 hB hz1 hk1 hS => ?_)
        have hP := ho_at ht hB
        have eq67 := hw9
        have hF := bnd_s eq67 hF
        refine lv_iadd hx hb dX7_goesPlatform_70 ?_
        refine va_callv (va_runV (As := [.int a, .int 1, .int (r61 + r67)]) (rest := []) ⟨hx, hb, hml, hown, hts⟩ (c7_setsPlate l hA σ u52 a 1 (r61 + r67) hO (vp_in_iff.mpr (by decide)) hba) (cwV 3 hts gX7_goesPlatform_X7_setsPlate rfl rfl rfl hd_X7_setsPlateV ⟨Nat.le_of_ble_eq_true rfl, Nat.le_of_ble_eq_true rfl⟩) ⟨hp_blind, va_recv hK hP (ci := 9) (q0 := 279) rfl c_279, hp_pre hK hN hP⟩ rfl rfl hl.1 rfl (lv_room (Nat.le_of_ble_eq_true rfl)) dX7_goesPlatform_71 ⟨Nat.zero_le _, Nat.zero_le _⟩) hS (fun _ _ h => h) (fun _ h => h) (fun u9 t H locs ht hvm hw9 hB hz1 hk1 hS => ?_)
        have hP := ho_at ht hB
        obtain ⟨eq71, ok9⟩ := hw9
        obtain ⟨u71, e_u71⟩ : ∃ z, z = u9 := ⟨_, rfl⟩
        rw [← e_u71] at hP eq71 ok9
        have hO := ok9
        have hF := bnd_s eq71 hF
        refine lv_aload_n hx hb dX7_goesPlatform_74 rfl (lv_at hl 1 rfl) ?_
        refine lv_iload_n hx hb dX7_goesPlatform_75 rfl (lv_at hl 2 rfl) ?_
        refine lv_iconst (v := 5) hx hb dX7_goesPlatform_76 (by decide) ?_
        refine lv_aload_n hx hb dX7_goesPlatform_77 rfl (lv_at hl 1 rfl) ?_
        refine lv_iload_n hx hb dX7_goesPlatform_78 rfl (lv_at hl 2 rfl) ?_
        refine lv_iconst (v := 5) hx hb dX7_goesPlatform_79 (by decide) ?_
        refine va_calli (va_runV (As := [.int a, .int 5]) (rest := [.int 5, .int a, .ref (ad (279))]) ⟨hx, hb, hml, hown, hts⟩ (c7_plate l hA σ u71 a 5 (vp_in_iff.mpr (by decide)) hba) (cwV 2 hts gX7_goesPlatform_X7_plate rfl rfl rfl hd_X7_plateV ⟨Nat.le_of_ble_eq_true rfl, Nat.le_of_ble_eq_true rfl⟩) ⟨hp_blind, va_recv hK hP (ci := 9) (q0 := 279) rfl c_279, hp_pre hK hN hP⟩ rfl rfl hl.1 rfl (lv_room (Nat.le_of_ble_eq_true rfl)) dX7_goesPlatform_80 ⟨Nat.zero_le _, Nat.zero_le _⟩) hS (fun _ _ h => h) (fun _ h => h) (fun r80 _ t H locs ht hvm hw9 hB hz1 hk1 hS => ?_)
        have hP := ho_at ht hB
        have eq80 := hw9
        have hF := bnd_s eq80 hF
        refine lv_iconst (v := 1) hx hb dX7_goesPlatform_83 (by decide) ?_
        refine lv_isub hx hb dX7_goesPlatform_84 ?_
        refine va_callv (va_runV (As := [.int a, .int 5, .int (r80 - 1)]) (rest := []) ⟨hx, hb, hml, hown, hts⟩ (c7_setsPlate l hA σ u71 a 5 (r80 - 1) hO (vp_in_iff.mpr (by decide)) hba) (cwV 3 hts gX7_goesPlatform_X7_setsPlate rfl rfl rfl hd_X7_setsPlateV ⟨Nat.le_of_ble_eq_true rfl, Nat.le_of_ble_eq_true rfl⟩) ⟨hp_blind, va_recv hK hP (ci := 9) (q0 := 279) rfl c_279, hp_pre hK hN hP⟩ rfl rfl hl.1 rfl (lv_room (Nat.le_of_ble_eq_true rfl)) dX7_goesPlatform_85 ⟨Nat.zero_le _, Nat.zero_le _⟩) hS (fun _ _ h => h) (fun _ h => h) (fun u9 t H locs ht hvm hw9 hB hz1 hk1 hS => ?_)
        have hP := ho_at ht hB
        obtain ⟨eq85, ok9⟩ := hw9
        obtain ⟨u85, e_u85⟩ : ∃ z, z = u9 := ⟨_, rfl⟩
        rw [← e_u85] at hP eq85 ok9
        have hO := ok9
        have hF := bnd_s eq85 hF
        refine lv_aload_n hx hb dX7_goesPlatform_88 rfl (lv_at hl 1 rfl) ?_
        refine lv_iload_n hx hb dX7_goesPlatform_89 rfl (lv_at hl 2 rfl) ?_
        refine lv_iconst (v := 5) hx hb dX7_goesPlatform_90 (by decide) ?_
        refine va_calli (va_runV (As := [.int a, .int 5]) (rest := []) ⟨hx, hb, hml, hown, hts⟩ (c7_plate l hA σ u85 a 5 (vp_in_iff.mpr (by decide)) hba) (cwV 2 hts gX7_goesPlatform_X7_plate rfl rfl rfl hd_X7_plateV ⟨Nat.le_of_ble_eq_true rfl, Nat.le_of_ble_eq_true rfl⟩) ⟨hp_blind, va_recv hK hP (ci := 9) (q0 := 279) rfl c_279, hp_pre hK hN hP⟩ rfl rfl hl.1 rfl (lv_room (Nat.le_of_ble_eq_true rfl)) dX7_goesPlatform_91 ⟨Nat.zero_le _, Nat.zero_le _⟩) hS (fun _ _ h => h) (fun _ h => h) (fun r91 _ t H locs ht hvm hw9 hB hz1 hk1 hS => ?_)
        have hP := ho_at ht hB
        have eq91 := hw9
        have hF := bnd_s eq91 hF
        refine lv_if_le (tgt := 98) hx hb dX7_goesPlatform_94 (by decide) (fun c94 => ?_) (fun c94 => ?_)
        · have hF := ift c94 hF
          refine lv_aload_n hx hb dX7_goesPlatform_98 rfl (lv_at hl 1 rfl) ?_
          refine lv_iload_n hx hb dX7_goesPlatform_99 rfl (lv_at hl 2 rfl) ?_
          refine lv_iconst (v := 5) hx hb dX7_goesPlatform_100 (by decide) ?_
          refine lv_aload_n hx hb dX7_goesPlatform_101 rfl (lv_at hl 1 rfl) ?_
          refine lv_iload_n hx hb dX7_goesPlatform_102 rfl (lv_at hl 2 rfl) ?_
          refine lv_bipush (v := 6) hx hb dX7_goesPlatform_103 (by decide) ?_
          refine va_calli (va_runV (As := [.int a, .int 6]) (rest := [.int 5, .int a, .ref (ad (279))]) ⟨hx, hb, hml, hown, hts⟩ (c7_plate l hA σ u85 a 6 (vp_in_iff.mpr (by decide)) hba) (cwV 2 hts gX7_goesPlatform_X7_plate rfl rfl rfl hd_X7_plateV ⟨Nat.le_of_ble_eq_true rfl, Nat.le_of_ble_eq_true rfl⟩) ⟨hp_blind, va_recv hK hP (ci := 9) (q0 := 279) rfl c_279, hp_pre hK hN hP⟩ rfl rfl hl.1 rfl (lv_room (Nat.le_of_ble_eq_true rfl)) dX7_goesPlatform_105 ⟨Nat.zero_le _, Nat.zero_le _⟩) hS (fun _ _ h => h) (fun _ h => h) (fun r105 _ t H locs ht hvm hw9 hB hz1 hk1 hS => ?_)
          have hP := ho_at ht hB
          have eq105 := hw9
          have hF := bnd_s eq105 hF
          refine va_callv (va_runV (As := [.int a, .int 5, .int r105]) (rest := []) ⟨hx, hb, hml, hown, hts⟩ (c7_setsPlate l hA σ u85 a 5 r105 hO (vp_in_iff.mpr (by decide)) hba) (cwV 3 hts gX7_goesPlatform_X7_setsPlate rfl rfl rfl hd_X7_setsPlateV ⟨Nat.le_of_ble_eq_true rfl, Nat.le_of_ble_eq_true rfl⟩) ⟨hp_blind, va_recv hK hP (ci := 9) (q0 := 279) rfl c_279, hp_pre hK hN hP⟩ rfl rfl hl.1 rfl (lv_room (Nat.le_of_ble_eq_true rfl)) dX7_goesPlatform_108 ⟨Nat.zero_le _, Nat.zero_le _⟩) hS (fun _ _ h => h) (fun _ h => h) (fun u9 t H locs ht hvm hw9 hB hz1 hk1 hS => ?_)
          have hP := ho_at ht hB
          obtain ⟨eq108, ok9⟩ := hw9
          obtain ⟨u108, e_u108⟩ : ∃ z, z = u9 := ⟨_, rfl⟩
          rw [← e_u108] at hP eq108 ok9
          have hO := ok9
          have hF := bnd_s eq108 hF
          refine lv_aload_n hx hb dX7_goesPlatform_111 rfl (lv_at hl 1 rfl) ?_
          refine lv_iload_n hx hb dX7_goesPlatform_112 rfl (lv_at hl 2 rfl) ?_
          refine lv_iconst (v := 3) hx hb dX7_goesPlatform_113 (by decide) ?_
          refine lv_aload_n hx hb dX7_goesPlatform_114 rfl (lv_at hl 1 rfl) ?_
          refine lv_iload_n hx hb dX7_goesPlatform_115 rfl (lv_at hl 2 rfl) ?_
          refine lv_iconst (v := 3) hx hb dX7_goesPlatform_116 (by decide) ?_
          refine va_calli (va_runV (As := [.int a, .int 3]) (rest := [.int 3, .int a, .ref (ad (279))]) ⟨hx, hb, hml, hown, hts⟩ (c7_plate l hA σ u108 a 3 (vp_in_iff.mpr (by decide)) hba) (cwV 2 hts gX7_goesPlatform_X7_plate rfl rfl rfl hd_X7_plateV ⟨Nat.le_of_ble_eq_true rfl, Nat.le_of_ble_eq_true rfl⟩) ⟨hp_blind, va_recv hK hP (ci := 9) (q0 := 279) rfl c_279, hp_pre hK hN hP⟩ rfl rfl hl.1 rfl (lv_room (Nat.le_of_ble_eq_true rfl)) dX7_goesPlatform_117 ⟨Nat.zero_le _, Nat.zero_le _⟩) hS (fun _ _ h => h) (fun _ h => h) (fun r117 _ t H locs ht hvm hw9 hB hz1 hk1 hS => ?_)
          have hP := ho_at ht hB
          have eq117 := hw9
          have hF := bnd_s eq117 hF
          refine lv_ineg hx hb dX7_goesPlatform_120 ?_
          refine va_callv (va_runV (As := [.int a, .int 3, .int (-r117)]) (rest := []) ⟨hx, hb, hml, hown, hts⟩ (c7_setsPlate l hA σ u108 a 3 (-r117) hO (vp_in_iff.mpr (by decide)) hba) (cwV 3 hts gX7_goesPlatform_X7_setsPlate rfl rfl rfl hd_X7_setsPlateV ⟨Nat.le_of_ble_eq_true rfl, Nat.le_of_ble_eq_true rfl⟩) ⟨hp_blind, va_recv hK hP (ci := 9) (q0 := 279) rfl c_279, hp_pre hK hN hP⟩ rfl rfl hl.1 rfl (lv_room (Nat.le_of_ble_eq_true rfl)) dX7_goesPlatform_121 ⟨Nat.zero_le _, Nat.zero_le _⟩) hS (fun _ _ h => h) (fun _ h => h) (fun u9 t H locs ht hvm hw9 hB hz1 hk1 hS => ?_)
          have hP := ho_at ht hB
          obtain ⟨eq121, ok9⟩ := hw9
          obtain ⟨u121, e_u121⟩ : ∃ z, z = u9 := ⟨_, rfl⟩
          rw [← e_u121] at hP eq121 ok9
          have hO := ok9
          have hF := bnd_s eq121 hF
          refine lv_aload_n hx hb dX7_goesPlatform_124 rfl (lv_at hl 1 rfl) ?_
          refine lv_iload_n hx hb dX7_goesPlatform_125 rfl (lv_at hl 2 rfl) ?_
          refine lv_iconst (v := 4) hx hb dX7_goesPlatform_126 (by decide) ?_
          refine lv_aload_n hx hb dX7_goesPlatform_127 rfl (lv_at hl 1 rfl) ?_
          refine lv_iload_n hx hb dX7_goesPlatform_128 rfl (lv_at hl 2 rfl) ?_
          refine lv_iconst (v := 4) hx hb dX7_goesPlatform_129 (by decide) ?_
          refine va_calli (va_runV (As := [.int a, .int 4]) (rest := [.int 4, .int a, .ref (ad (279))]) ⟨hx, hb, hml, hown, hts⟩ (c7_plate l hA σ u121 a 4 (vp_in_iff.mpr (by decide)) hba) (cwV 2 hts gX7_goesPlatform_X7_plate rfl rfl rfl hd_X7_plateV ⟨Nat.le_of_ble_eq_true rfl, Nat.le_of_ble_eq_true rfl⟩) ⟨hp_blind, va_recv hK hP (ci := 9) (q0 := 279) rfl c_279, hp_pre hK hN hP⟩ rfl rfl hl.1 rfl (lv_room (Nat.le_of_ble_eq_true rfl)) dX7_goesPlatform_130 ⟨Nat.zero_le _, Nat.zero_le _⟩) hS (fun _ _ h => h) (fun _ h => h) (fun r130 _ t H locs ht hvm hw9 hB hz1 hk1 hS => ?_)
          have hP := ho_at ht hB
          have eq130 := hw9
          have hF := bnd_s eq130 hF
          refine lv_ineg hx hb dX7_goesPlatform_133 ?_
          refine va_callv (va_runV (As := [.int a, .int 4, .int (-r130)]) (rest := []) ⟨hx, hb, hml, hown, hts⟩ (c7_setsPlate l hA σ u121 a 4 (-r130) hO (vp_in_iff.mpr (by decide)) hba) (cwV 3 hts gX7_goesPlatform_X7_setsPlate rfl rfl rfl hd_X7_setsPlateV ⟨Nat.le_of_ble_eq_true rfl, Nat.le_of_ble_eq_true rfl⟩) ⟨hp_blind, va_recv hK hP (ci := 9) (q0 := 279) rfl c_279, hp_pre hK hN hP⟩ rfl rfl hl.1 rfl (lv_room (Nat.le_of_ble_eq_true rfl)) dX7_goesPlatform_134 ⟨Nat.zero_le _, Nat.zero_le _⟩) hS (fun _ _ h => h) (fun _ h => h) (fun u9 t H locs ht hvm hw9 hB hz1 hk1 hS => ?_)
          have hP := ho_at ht hB
          obtain ⟨eq134, ok9⟩ := hw9
          obtain ⟨u134, e_u134⟩ : ∃ z, z = u9 := ⟨_, rfl⟩
          rw [← e_u134] at hP eq134 ok9
          have hO := ok9
          have hF := bnd_s eq134 hF
          exact W.vret hx hb hr (fun t ht hW => ⟨⟨u134, rfl, ⟨hF.trans hFF, hO⟩, ho_of ht hP⟩, hS.F ht⟩) hS.2.2 dX7_goesPlatform_137
        · have hF := iff_ c94 hF
          exact W.vret hx hb hr (fun t ht hW => ⟨⟨u85, rfl, ⟨hF.trans hFF, hO⟩, ho_of ht hP⟩, hS.F ht⟩) hS.2.2 dX7_goesPlatform_97
      · have hF := iff_ c11 hF
        have hbw2_2 : vp_in w2_2 4 := in_n h2 (nle_lt c11) hO.1.2.1
        refine lv_aload_n hx hb dX7_goesPlatform_14 rfl (lv_at hl 1 rfl) ?_
        refine va_get (D := D) (ci := 9) (C := RX7) (T := TX7) (N := 17) hx hb hts inX7 hown hK hP (279) c_279 rfl 3 (by decide) (hts (.fieldLink RX7 16 "TileRunnersModel" "carrier" "[I") (List.mem_of_getElem? (i := 2) rfl)) (fun _ h9 => h9) rfl dX7_goesPlatform_15 ?_
        refine lv_iload_n hx hb dX7_goesPlatform_18 rfl (lv_at hl 0 rfl) ?_
        refine pald (n := 4) (o := 484) (t := 484+w2_2.toNatClampNeg) (i := w2_2) hx hb hK hP c_282 hbw2_2 rfl dX7_goesPlatform_19 ?_
        refine lv_iload_n hx hb dX7_goesPlatform_20 rfl (lv_at hl 2 rfl) ?_
        have J30 : ∀ (u_30 : (Nat → Int32)) (H : Heap) (locs : List Loc) (ls : Array Slot), okM u_30 → va_P D vwCl (pool G ad (va_up σ 16 u_30)) H → va_S (AA B0) s.heap H locs → lv_has ls 3 [(2, .int w2_2), (0, .ref (ad (279))), (1, .int a)] → f7_goesPlatform_b30 (f7_goesPlatform_L2 a n2) w2_2 u_30 = FF → W p l e (headSpec wsX7_goesPlatform { frames := 10, cells := 0, slots := 0, locals := 235 }).room s m ([.ref (ad (279)), .int a] : List Value).toArray below meth c H locs 0 0 (MQ below (va_Qv (fun (z : Nat → Int32) => z = f7_goesPlatform u a ∧ okM z) (fun (z : Nat → Int32) => Ho D G ad (va_up σ 16 z)) (AA B0)) ([.ref (ad (279)), .int a] : List Value).toArray s 0 0 (AA B0)) (F0 m 30 ls []) := by
          intro u_30 H locs ls hO hP hS hl hF
          rw [f7_goesPlatform_b30] at hF
          obtain ⟨v2_30, e_v2_30⟩ : ∃ z : Int32, z = w2_2 + 1 := ⟨_, rfl⟩
          have hF := bnd_s e_v2_30 hF
          refine lv_iinc (v := v2_30) (lv' := [(2, .int v2_30), (0, .ref (ad (279))), (1, .int a)]) hx hb dX7_goesPlatform_30 hl (k := 0) rfl (by rw [e_v2_30]; rfl) (by decide) rfl (fun ls hl => ?_)
          refine lv_goto (tgt := 2) hx hb dX7_goesPlatform_33 (by decide) ?_
          exact ih2 v2_30 u_30 _ _ ls (ms_s (dec_i4 hbw2_2 e_v2_30) hm2) (ge0_i4 hbw2_2 e_v2_30) hO hP hS (lv_sub hl [0, 1, 2] rfl) hF
        refine lv_icmp_ne (tgt := 30) hx hb dX7_goesPlatform_21 (by decide) (fun c21 => ?_) (fun c21 => ?_)
        · have hF := iff_ c21 hF
          exact J30 u_2 _ _ ls hO hP hS (lv_sub hl [0, 1, 2] rfl) hF
        · have hF := ift c21 hF
          refine lv_aload_n hx hb dX7_goesPlatform_24 rfl (lv_at hl 1 rfl) ?_
          refine lv_iload_n hx hb dX7_goesPlatform_25 rfl (lv_at hl 0 rfl) ?_
          refine lv_iload_n hx hb dX7_goesPlatform_26 rfl (lv_at hl 2 rfl) ?_
          refine va_callv (va_runV (As := [.int w2_2, .int a]) (rest := []) ⟨hx, hb, hml, hown, hts⟩ (c7_carries l hA σ u_2 w2_2 a hO hbw2_2 hba) (cwV 2 hts gX7_goesPlatform_X7_carries rfl rfl rfl hd_X7_carriesV ⟨Nat.le_of_ble_eq_true rfl, Nat.le_of_ble_eq_true rfl⟩) ⟨hp_blind, va_recv hK hP (ci := 9) (q0 := 279) rfl c_279, hp_pre hK hN hP⟩ rfl rfl hl.1 rfl (lv_room (Nat.le_of_ble_eq_true rfl)) dX7_goesPlatform_27 ⟨Nat.zero_le _, Nat.zero_le _⟩) hS (fun _ _ h => h) (fun _ h => h) (fun u9 t H locs ht hvm hw9 hB hz1 hk1 hS => ?_)
          have hP := ho_at ht hB
          obtain ⟨eq27, ok9⟩ := hw9
          obtain ⟨u27, e_u27⟩ : ∃ z, z = u9 := ⟨_, rfl⟩
          rw [← e_u27] at hP eq27 ok9
          have hO := ok9
          have hF := bnd_s eq27 hF
          exact J30 u27 _ _ ls hO hP hS (lv_sub hl [0, 1, 2] rfl) hF
  exact L2 BIG 0 u _ _ ls (big_i4 _) le0 hO hP hS (lv_sub hl [0, 1, 2] rfl) hF
theorem hd_X7_goesPlatformV : yX7_goesPlatform.cls = RX7 ∧ yX7_goesPlatform.cls ≠ "java/lang/invoke/MethodHandle" ∧ yX7_goesPlatform.cls ≠ "java/lang/invoke/VarHandle" ∧ (parseMethodDescriptor yX7_goesPlatform.desc).map (fun d => d.parameters.length) = some 1 := by decide +kernel
set_option maxHeartbeats 4000000 in
set_option maxRecDepth 100000 in
theorem c7_counts (l : Launch) {D : va_G} {G : CY} {ad : Nat → Nat} {B0 : Nat} (hA : adOK B0 ad) (σ : Nat → Nat → Int32) (u : Nat → Int32) (a : Int32) (b : Int32) (c1 : Int32) (d : Int32) (hO : okM u) (hwb : vp_in b 24) (hba : vp_in a 4) : Met l yX7_counts wsX7_counts { frames := 1, cells := 0, slots := 0, locals := 23 } (va_Pc [.ref (ad (279)), .int a, .int b, .int c1, .int d] (Hp D G ad (va_up σ 16 u))) (va_Qv (fun (z : Nat → Int32) => z = f7_counts u a b c1 d ∧ okM z) (fun (z : Nat → Int32) => Ho D G ad (va_up σ 16 z)) (AA B0)) 0 0 (AA B0) := by
  refine Met.ofW (cc := cX7_counts) (maxL := 5) (ret := none) (by decide) rfl ?_
  intro p e s m args below meth c s₁ B hml hv
  obtain ⟨rfl, hP, hK, hN⟩ := hv
  have hx := B.exec
  have hb := B.bytes
  have hr := B.returns
  have hts := atoms_spec (ws := wsX7_counts) B.pre
  have hown : s.vm.findClass RX7 = some m.cls := findClass_of_methodNamed B.named
  have hlocks := B.notSynchronized
  have hP : va_P D vwCl (pool G ad (va_up σ 16 u)) s.heap := hP
  have hS : va_S (AA B0) s.heap s.heap [] := va_S.rf
  have hl := lv_entry ([.ref (ad (279)), .int a, .int b, .int c1, .int d]) (n := 5) (Nat.le_of_ble_eq_true rfl)
  rw [lg_entry_eq]
  generalize (lg_sl ([.ref (ad (279)), .int a, .int b, .int c1, .int d]) ++ List.replicate (5 - (lg_sl ([.ref (ad (279)), .int a, .int b, .int c1, .int d])).length) Slot.unset).toArray = ls at hl ⊢
  have hl : lv_has ls 5 [(0, .ref (ad (279))), (1, .int a), (2, .int b), (3, .int c1), (4, .int d)] := hl
  obtain ⟨FF, hFF⟩ : ∃ z, z = f7_counts u a b c1 d := ⟨_, rfl⟩
  have hF := hFF.symm
  rw [f7_counts] at hF
  refine lv_aload_n hx hb dX7_counts_0 rfl (lv_at hl 0 rfl) ?_
  refine lv_iload_n hx hb dX7_counts_1 rfl (lv_at hl 1 rfl) ?_
  refine lv_iload_n hx hb dX7_counts_2 rfl (lv_at hl 2 rfl) ?_
  refine lv_iload hx hb dX7_counts_3 (lv_at hl 4 rfl) ?_
  refine lv_if_eq (tgt := 12) hx hb dX7_counts_5 (by decide) (fun c5 => ?_) (fun c5 => ?_)
  · have hF := ift c5 hF
    refine lv_aload_n hx hb dX7_counts_12 rfl (lv_at hl 0 rfl) ?_
    refine lv_iload_n hx hb dX7_counts_13 rfl (lv_at hl 1 rfl) ?_
    refine lv_iload_n hx hb dX7_counts_14 rfl (lv_at hl 2 rfl) ?_
    refine va_calli (va_runV (As := [.int a, .int b]) (rest := [.int b, .int a, .ref (ad (279))]) ⟨hx, hb, hml, hown, hts⟩ (c7_of l hA σ u a b hwb hba) (cwV 2 hts gX7_counts_X7_of rfl rfl rfl hd_X7_ofV ⟨Nat.le_of_ble_eq_true rfl, Nat.le_of_ble_eq_true rfl⟩) ⟨hp_blind, va_recv hK hP (ci := 9) (q0 := 279) rfl c_279, hp_pre hK hN hP⟩ rfl rfl hl.1 rfl (lv_room (Nat.le_of_ble_eq_true rfl)) dX7_counts_15 ⟨Nat.zero_le _, Nat.zero_le _⟩) hS (fun _ _ h => h) (fun _ h => h) (fun r15 _ t H locs ht hvm hw9 hB hz1 hk1 hS => ?_)
    have hP := ho_at ht hB
    have eq15 := hw9
    have hF := bnd_s eq15 hF
    refine lv_if_le (tgt := 32) hx hb dX7_counts_18 (by decide) (fun c18 => ?_) (fun c18 => ?_)
    · have hF := ift c18 hF
      refine lv_iconst (v := 0) hx hb dX7_counts_32 (by decide) ?_
      refine va_callv (va_runV (As := [.int a, .int b, .int 0]) (rest := []) ⟨hx, hb, hml, hown, hts⟩ (c7_sets l hA σ u a b 0 hO hwb hba) (cwV 3 hts gX7_counts_X7_sets rfl rfl rfl hd_X7_setsV ⟨Nat.le_of_ble_eq_true rfl, Nat.le_of_ble_eq_true rfl⟩) ⟨hp_blind, va_recv hK hP (ci := 9) (q0 := 279) rfl c_279, hp_pre hK hN hP⟩ rfl rfl hl.1 rfl (lv_room (Nat.le_of_ble_eq_true rfl)) dX7_counts_33 ⟨Nat.zero_le _, Nat.zero_le _⟩) hS (fun _ _ h => h) (fun _ h => h) (fun u9 t H locs ht hvm hw9 hB hz1 hk1 hS => ?_)
      have hP := ho_at ht hB
      obtain ⟨eq33, ok9⟩ := hw9
      obtain ⟨u33, e_u33⟩ : ∃ z, z = u9 := ⟨_, rfl⟩
      rw [← e_u33] at hP eq33 ok9
      have hO := ok9
      have hF := bnd_s eq33 hF
      exact W.vret hx hb hr (fun t ht hW => ⟨⟨u33, rfl, ⟨hF.trans hFF, hO⟩, ho_of ht hP⟩, hS.F ht⟩) hS.2.2 dX7_counts_36
    · have hF := iff_ c18 hF
      refine lv_aload_n hx hb dX7_counts_21 rfl (lv_at hl 0 rfl) ?_
      refine lv_iload_n hx hb dX7_counts_22 rfl (lv_at hl 1 rfl) ?_
      refine lv_iload_n hx hb dX7_counts_23 rfl (lv_at hl 2 rfl) ?_
      refine va_calli (va_runV (As := [.int a, .int b]) (rest := [.int b, .int a, .ref (ad (279))]) ⟨hx, hb, hml, hown, hts⟩ (c7_of l hA σ u a b hwb hba) (cwV 2 hts gX7_counts_X7_of rfl rfl rfl hd_X7_ofV ⟨Nat.le_of_ble_eq_true rfl, Nat.le_of_ble_eq_true rfl⟩) ⟨hp_blind, va_recv hK hP (ci := 9) (q0 := 279) rfl c_279, hp_pre hK hN hP⟩ rfl rfl hl.1 rfl (lv_room (Nat.le_of_ble_eq_true rfl)) dX7_counts_24 ⟨Nat.zero_le _, Nat.zero_le _⟩) hS (fun _ _ h => h) (fun _ h => h) (fun r24 _ t H locs ht hvm hw9 hB hz1 hk1 hS => ?_)
      have hP := ho_at ht hB
      have eq24 := hw9
      have hF := bnd_s eq24 hF
      refine lv_iconst (v := 1) hx hb dX7_counts_27 (by decide) ?_
      refine lv_isub hx hb dX7_counts_28 ?_
      refine lv_goto (tgt := 33) hx hb dX7_counts_29 (by decide) ?_
      refine va_callv (va_runV (As := [.int a, .int b, .int (r24 - 1)]) (rest := []) ⟨hx, hb, hml, hown, hts⟩ (c7_sets l hA σ u a b (r24 - 1) hO hwb hba) (cwV 3 hts gX7_counts_X7_sets rfl rfl rfl hd_X7_setsV ⟨Nat.le_of_ble_eq_true rfl, Nat.le_of_ble_eq_true rfl⟩) ⟨hp_blind, va_recv hK hP (ci := 9) (q0 := 279) rfl c_279, hp_pre hK hN hP⟩ rfl rfl hl.1 rfl (lv_room (Nat.le_of_ble_eq_true rfl)) dX7_counts_33 ⟨Nat.zero_le _, Nat.zero_le _⟩) hS (fun _ _ h => h) (fun _ h => h) (fun u9 t H locs ht hvm hw9 hB hz1 hk1 hS => ?_)
      have hP := ho_at ht hB
      obtain ⟨eq33, ok9⟩ := hw9
      obtain ⟨u33, e_u33⟩ : ∃ z, z = u9 := ⟨_, rfl⟩
      rw [← e_u33] at hP eq33 ok9
      have hO := ok9
      have hF := bnd_s eq33 hF
      exact W.vret hx hb hr (fun t ht hW => ⟨⟨u33, rfl, ⟨hF.trans hFF, hO⟩, ho_of ht hP⟩, hS.F ht⟩) hS.2.2 dX7_counts_36
  · have hF := iff_ c5 hF
    refine lv_iload_n hx hb dX7_counts_8 rfl (lv_at hl 3 rfl) ?_
    refine lv_goto (tgt := 33) hx hb dX7_counts_9 (by decide) ?_
    refine va_callv (va_runV (As := [.int a, .int b, .int c1]) (rest := []) ⟨hx, hb, hml, hown, hts⟩ (c7_sets l hA σ u a b c1 hO hwb hba) (cwV 3 hts gX7_counts_X7_sets rfl rfl rfl hd_X7_setsV ⟨Nat.le_of_ble_eq_true rfl, Nat.le_of_ble_eq_true rfl⟩) ⟨hp_blind, va_recv hK hP (ci := 9) (q0 := 279) rfl c_279, hp_pre hK hN hP⟩ rfl rfl hl.1 rfl (lv_room (Nat.le_of_ble_eq_true rfl)) dX7_counts_33 ⟨Nat.zero_le _, Nat.zero_le _⟩) hS (fun _ _ h => h) (fun _ h => h) (fun u9 t H locs ht hvm hw9 hB hz1 hk1 hS => ?_)
    have hP := ho_at ht hB
    obtain ⟨eq33, ok9⟩ := hw9
    obtain ⟨u33, e_u33⟩ : ∃ z, z = u9 := ⟨_, rfl⟩
    rw [← e_u33] at hP eq33 ok9
    have hO := ok9
    have hF := bnd_s eq33 hF
    exact W.vret hx hb hr (fun t ht hW => ⟨⟨u33, rfl, ⟨hF.trans hFF, hO⟩, ho_of ht hP⟩, hS.F ht⟩) hS.2.2 dX7_counts_36
theorem hd_X7_countsV : yX7_counts.cls = RX7 ∧ yX7_counts.cls ≠ "java/lang/invoke/MethodHandle" ∧ yX7_counts.cls ≠ "java/lang/invoke/VarHandle" ∧ (parseMethodDescriptor yX7_counts.desc).map (fun d => d.parameters.length) = some 4 := by decide +kernel
set_option maxHeartbeats 4000000 in
set_option maxRecDepth 100000 in
theorem c7_speedsUp (l : Launch) {D : va_G} {G : CY} {ad : Nat → Nat} {B0 : Nat} (hA : adOK B0 ad) (σ : Nat → Nat → Int32) (u : Nat → Int32) (a : Int32) (b : Int32) (c1 : Int32) (hO : okM u) (hba : vp_in a 4) : Met l yX7_speedsUp wsX7_speedsUp { frames := 6, cells := 0, slots := 0, locals := 136 } (va_Pc [.ref (ad (279)), .int a, .int b, .int c1] (Hp D G ad (va_up σ 16 u))) (va_Qv (fun (z : Nat → Int32) => z = f7_speedsUp u a b c1 ∧ okM z) (fun (z : Nat → Int32) => Ho D G ad (va_up σ 16 z)) (AA B0)) 0 0 (AA B0) := by
  refine Met.ofW (cc := cX7_speedsUp) (maxL := 6) (ret := none) (by decide) rfl ?_
  intro p e s m args below meth c s₁ B hml hv
  obtain ⟨rfl, hP, hK, hN⟩ := hv
  have hx := B.exec
  have hb := B.bytes
  have hr := B.returns
  have hts := atoms_spec (ws := wsX7_speedsUp) B.pre
  have hown : s.vm.findClass RX7 = some m.cls := findClass_of_methodNamed B.named
  have hlocks := B.notSynchronized
  have inX7 : ∀ w ∈ wsX70, w ∈ wsX7_speedsUp := (fun w h => List.mem_cons_of_mem _ (List.mem_append_left _ (List.mem_append_right _ h)))
  have hP : va_P D vwCl (pool G ad (va_up σ 16 u)) s.heap := hP
  have hS : va_S (AA B0) s.heap s.heap [] := va_S.rf
  have hl := lv_entry ([.ref (ad (279)), .int a, .int b, .int c1]) (n := 6) (Nat.le_of_ble_eq_true rfl)
  rw [lg_entry_eq]
  generalize (lg_sl ([.ref (ad (279)), .int a, .int b, .int c1]) ++ List.replicate (6 - (lg_sl ([.ref (ad (279)), .int a, .int b, .int c1])).length) Slot.unset).toArray = ls at hl ⊢
  have hl : lv_has ls 6 [(0, .ref (ad (279))), (1, .int a), (2, .int b), (3, .int c1)] := hl
  obtain ⟨FF, hFF⟩ : ∃ z, z = f7_speedsUp u a b c1 := ⟨_, rfl⟩
  have hF := hFF.symm
  rw [f7_speedsUp] at hF
  refine lv_aload_n hx hb dX7_speedsUp_0 rfl (lv_at hl 0 rfl) ?_
  refine lv_iload_n hx hb dX7_speedsUp_1 rfl (lv_at hl 1 rfl) ?_
  refine lv_iconst (v := 2) hx hb dX7_speedsUp_2 (by decide) ?_
  refine va_calli (va_runV (As := [.int a, .int 2]) (rest := []) ⟨hx, hb, hml, hown, hts⟩ (c7_of l hA σ u a 2 (vp_in_iff.mpr (by decide)) hba) (cwV 2 hts gX7_speedsUp_X7_of rfl rfl rfl hd_X7_ofV ⟨Nat.le_of_ble_eq_true rfl, Nat.le_of_ble_eq_true rfl⟩) ⟨hp_blind, va_recv hK hP (ci := 9) (q0 := 279) rfl c_279, hp_pre hK hN hP⟩ rfl rfl hl.1 rfl (lv_room (Nat.le_of_ble_eq_true rfl)) dX7_speedsUp_3 ⟨Nat.zero_le _, Nat.zero_le _⟩) hS (fun _ _ h => h) (fun _ h => h) (fun r3 _ t H locs ht hvm hw9 hB hz1 hk1 hS => ?_)
  have hP := ho_at ht hB
  have eq3 := hw9
  have hF := bnd_s eq3 hF
  refine lv_iload_n hx hb dX7_speedsUp_6 rfl (lv_at hl 2 rfl) ?_
  refine lv_imul hx hb dX7_speedsUp_7 ?_
  refine lv_topi (fun v4_8 e_v4_8 => ?_)
  have hF := bnd_s e_v4_8 hF
  refine lv_istore (lv' := [(4, .int v4_8), (0, .ref (ad (279))), (1, .int a), (2, .int b), (3, .int c1)]) hx hb dX7_speedsUp_8 hl (by decide) rfl (fun ls hl => ?_)
  refine lv_aload_n hx hb dX7_speedsUp_10 rfl (lv_at hl 1 rfl) ?_
  refine va_get (D := D) (ci := 9) (C := RX7) (T := TX7) (N := 17) hx hb hts inX7 hown hK hP (279) c_279 rfl 2 (by decide) (hts (.fieldLink RX7 13 "TileRunnersModel" "setting" "[I") (List.mem_of_getElem? (i := 1) rfl)) (fun _ h9 => h9) rfl dX7_speedsUp_11 ?_
  refine lv_iconst (v := 0) hx hb dX7_speedsUp_14 (by decide) ?_
  refine pald (n := 4) (o := 480) (t := 480) (i := 0) hx hb hK hP c_281 (vp_in_iff.mpr (by decide)) rfl dX7_speedsUp_15 ?_
  refine lv_topi (fun v5_16 e_v5_16 => ?_)
  have hF := bnd_s e_v5_16 hF
  refine lv_istore (lv' := [(5, .int v5_16), (4, .int v4_8), (0, .ref (ad (279))), (1, .int a), (2, .int b), (3, .int c1)]) hx hb dX7_speedsUp_16 hl (by decide) rfl (fun ls hl => ?_)
  refine lv_iload hx hb dX7_speedsUp_18 (lv_at hl 1 rfl) ?_
  refine lv_iload hx hb dX7_speedsUp_20 (lv_at hl 0 rfl) ?_
  refine lv_icmp_le (tgt := 26) hx hb dX7_speedsUp_22 (by decide) (fun c22 => ?_) (fun c22 => ?_)
  · have hF := ift c22 hF
    refine lv_iload hx hb dX7_speedsUp_26 (lv_at hl 1 rfl) ?_
    refine lv_iload_n hx hb dX7_speedsUp_28 rfl (lv_at hl 5 rfl) ?_
    have J45 : ∀ (t0_45 : Int32) (H : Heap) (locs : List Loc) (ls : Array Slot), va_P D vwCl (pool G ad (va_up σ 16 u)) H → va_S (AA B0) s.heap H locs → lv_has ls 6 [(5, .int v5_16), (0, .ref (ad (279))), (1, .int a), (2, .int b)] → f7_speedsUp_b45 u a b v4_8 v5_16 t0_45 = FF → W p l e (headSpec wsX7_speedsUp { frames := 6, cells := 0, slots := 0, locals := 136 }).room s m ([.ref (ad (279)), .int a, .int b, .int c1] : List Value).toArray below meth c H locs 0 0 (MQ below (va_Qv (fun (z : Nat → Int32) => z = f7_speedsUp u a b c1 ∧ okM z) (fun (z : Nat → Int32) => Ho D G ad (va_up σ 16 z)) (AA B0)) ([.ref (ad (279)), .int a, .int b, .int c1] : List Value).toArray s 0 0 (AA B0)) (F0 m 45 ls [.int t0_45, .int v4_8]) := by
      intro t0_45 H locs ls hP hS hl hF
      rw [f7_speedsUp_b45] at hF
      refine lv_iadd hx hb dX7_speedsUp_45 ?_
      refine lv_topi (fun v4_46 e_v4_46 => ?_)
      have hF := bnd_s e_v4_46 hF
      refine lv_istore (lv' := [(4, .int v4_46), (5, .int v5_16), (0, .ref (ad (279))), (1, .int a), (2, .int b)]) hx hb dX7_speedsUp_46 hl (by decide) rfl (fun ls hl => ?_)
      refine lv_aload_n hx hb dX7_speedsUp_48 rfl (lv_at hl 2 rfl) ?_
      refine lv_iload_n hx hb dX7_speedsUp_49 rfl (lv_at hl 3 rfl) ?_
      refine lv_iconst (v := 2) hx hb dX7_speedsUp_50 (by decide) ?_
      refine lv_iload_n hx hb dX7_speedsUp_51 rfl (lv_at hl 4 rfl) ?_
      refine lv_iload hx hb dX7_speedsUp_52 (lv_at hl 0 rfl) ?_
      refine lv_iload hx hb dX7_speedsUp_54 (lv_at hl 1 rfl) ?_
      refine lv_icmp_le (tgt := 64) hx hb dX7_speedsUp_56 (by decide) (fun c56 => ?_) (fun c56 => ?_)
      · have hF := ift c56 hF
        refine lv_iload hx hb dX7_speedsUp_64 (lv_at hl 0 rfl) ?_
        refine lv_imul hx hb dX7_speedsUp_66 ?_
        refine va_callv (va_runV (As := [.int a, .int 2, .int (b * v4_46)]) (rest := []) ⟨hx, hb, hml, hown, hts⟩ (c7_sets l hA σ u a 2 (b * v4_46) hO (vp_in_iff.mpr (by decide)) hba) (cwV 3 hts gX7_speedsUp_X7_sets rfl rfl rfl hd_X7_setsV ⟨Nat.le_of_ble_eq_true rfl, Nat.le_of_ble_eq_true rfl⟩) ⟨hp_blind, va_recv hK hP (ci := 9) (q0 := 279) rfl c_279, hp_pre hK hN hP⟩ rfl rfl hl.1 rfl (lv_room (Nat.le_of_ble_eq_true rfl)) dX7_speedsUp_67 ⟨Nat.zero_le _, Nat.zero_le _⟩) hS (fun _ _ h => h) (fun _ h => h) (fun u9 t H locs ht hvm hw9 hB hz1 hk1 hS => ?_)
        have hP := ho_at ht hB
        obtain ⟨eq67, ok9⟩ := hw9
        obtain ⟨u67, e_u67⟩ : ∃ z, z = u9 := ⟨_, rfl⟩
        rw [← e_u67] at hP eq67 ok9
        have hO := ok9
        have hF := bnd_s eq67 hF
        exact W.vret hx hb hr (fun t ht hW => ⟨⟨u67, rfl, ⟨hF.trans hFF, hO⟩, ho_of ht hP⟩, hS.F ht⟩) hS.2.2 dX7_speedsUp_70
      · have hF := iff_ c56 hF
        refine lv_iload hx hb dX7_speedsUp_59 (lv_at hl 1 rfl) ?_
        refine lv_goto (tgt := 66) hx hb dX7_speedsUp_61 (by decide) ?_
        refine lv_imul hx hb dX7_speedsUp_66 ?_
        refine va_callv (va_runV (As := [.int a, .int 2, .int (b * v5_16)]) (rest := []) ⟨hx, hb, hml, hown, hts⟩ (c7_sets l hA σ u a 2 (b * v5_16) hO (vp_in_iff.mpr (by decide)) hba) (cwV 3 hts gX7_speedsUp_X7_sets rfl rfl rfl hd_X7_setsV ⟨Nat.le_of_ble_eq_true rfl, Nat.le_of_ble_eq_true rfl⟩) ⟨hp_blind, va_recv hK hP (ci := 9) (q0 := 279) rfl c_279, hp_pre hK hN hP⟩ rfl rfl hl.1 rfl (lv_room (Nat.le_of_ble_eq_true rfl)) dX7_speedsUp_67 ⟨Nat.zero_le _, Nat.zero_le _⟩) hS (fun _ _ h => h) (fun _ h => h) (fun u9 t H locs ht hvm hw9 hB hz1 hk1 hS => ?_)
        have hP := ho_at ht hB
        obtain ⟨eq67, ok9⟩ := hw9
        obtain ⟨u67, e_u67⟩ : ∃ z, z = u9 := ⟨_, rfl⟩
        rw [← e_u67] at hP eq67 ok9
        have hO := ok9
        have hF := bnd_s eq67 hF
        exact W.vret hx hb hr (fun t ht hW => ⟨⟨u67, rfl, ⟨hF.trans hFF, hO⟩, ho_of ht hP⟩, hS.F ht⟩) hS.2.2 dX7_speedsUp_70
    have J44 : ∀  (H : Heap) (locs : List Loc) (ls : Array Slot), va_P D vwCl (pool G ad (va_up σ 16 u)) H → va_S (AA B0) s.heap H locs → lv_has ls 6 [(5, .int v5_16), (0, .ref (ad (279))), (1, .int a), (2, .int b)] → f7_speedsUp_b44 u a b v4_8 v5_16  = FF → W p l e (headSpec wsX7_speedsUp { frames := 6, cells := 0, slots := 0, locals := 136 }).room s m ([.ref (ad (279)), .int a, .int b, .int c1] : List Value).toArray below meth c H locs 0 0 (MQ below (va_Qv (fun (z : Nat → Int32) => z = f7_speedsUp u a b c1 ∧ okM z) (fun (z : Nat → Int32) => Ho D G ad (va_up σ 16 z)) (AA B0)) ([.ref (ad (279)), .int a, .int b, .int c1] : List Value).toArray s 0 0 (AA B0)) (F0 m 44 ls [.int v4_8]) := by
      intro  H locs ls hP hS hl hF
      rw [f7_speedsUp_b44] at hF
      refine lv_iconst (v := 1) hx hb dX7_speedsUp_44 (by decide) ?_
      exact J45 1 _ _ ls hP hS (lv_sub hl [0, 1, 2, 3] rfl) hF
    refine lv_if_eq (tgt := 44) hx hb dX7_speedsUp_29 (by decide) (fun c29 => ?_) (fun c29 => ?_)
    · have hF := ift c29 hF
      exact J44  _ _ ls hP hS (lv_sub hl [0, 2, 3, 4] rfl) hF
    · have hF := iff_ c29 hF
      refine lv_aload_n hx hb dX7_speedsUp_32 rfl (lv_at hl 2 rfl) ?_
      refine lv_iload_n hx hb dX7_speedsUp_33 rfl (lv_at hl 3 rfl) ?_
      refine va_calli (va_runV (As := [.int a]) (rest := [.int v4_8]) ⟨hx, hb, hml, hown, hts⟩ (c7_isOnIce l hA σ u a hba) (cwV 1 hts gX7_speedsUp_X7_isOnIce rfl rfl rfl hd_X7_isOnIceV ⟨Nat.le_of_ble_eq_true rfl, Nat.le_of_ble_eq_true rfl⟩) ⟨hp_blind, va_recv hK hP (ci := 9) (q0 := 279) rfl c_279, hp_pre hK hN hP⟩ rfl rfl hl.1 rfl (lv_room (Nat.le_of_ble_eq_true rfl)) dX7_speedsUp_34 ⟨Nat.zero_le _, Nat.zero_le _⟩) hS (fun _ _ h => h) (fun _ h => h) (fun r34 _ t H locs ht hvm hw9 hB hz1 hk1 hS => ?_)
      have hP := ho_at ht hB
      obtain ⟨eq34, hb_r34⟩ := hw9
      have hF := bnd_s eq34 hF
      refine lv_if_ne (tgt := 44) hx hb dX7_speedsUp_37 (by decide) (fun c37 => ?_) (fun c37 => ?_)
      · have hF := iff_ c37 hF
        exact J44  _ _ ls hP hS (lv_sub hl [0, 2, 3, 4] rfl) hF
      · have hF := ift c37 hF
        refine lv_iconst (v := 2) hx hb dX7_speedsUp_40 (by decide) ?_
        refine lv_goto (tgt := 45) hx hb dX7_speedsUp_41 (by decide) ?_
        exact J45 2 _ _ ls hP hS (lv_sub hl [0, 2, 3, 4] rfl) hF
  · have hF := iff_ c22 hF
    exact W.vret hx hb hr (fun t ht hW => ⟨⟨u, rfl, ⟨hF.trans hFF, hO⟩, ho_of ht hP⟩, hS.F ht⟩) hS.2.2 dX7_speedsUp_25
theorem hd_X7_speedsUpV : yX7_speedsUp.cls = RX7 ∧ yX7_speedsUp.cls ≠ "java/lang/invoke/MethodHandle" ∧ yX7_speedsUp.cls ≠ "java/lang/invoke/VarHandle" ∧ (parseMethodDescriptor yX7_speedsUp.desc).map (fun d => d.parameters.length) = some 3 := by decide +kernel
set_option maxHeartbeats 4000000 in
set_option maxRecDepth 100000 in
theorem c7_slowsDown (l : Launch) {D : va_G} {G : CY} {ad : Nat → Nat} {B0 : Nat} (hA : adOK B0 ad) (σ : Nat → Nat → Int32) (u : Nat → Int32) (a : Int32) (hO : okM u) (hba : vp_in a 4) : Met l yX7_slowsDown wsX7_slowsDown { frames := 1, cells := 0, slots := 0, locals := 23 } (va_Pc [.ref (ad (279)), .int a] (Hp D G ad (va_up σ 16 u))) (va_Qv (fun (z : Nat → Int32) => z = f7_slowsDown u a ∧ okM z) (fun (z : Nat → Int32) => Ho D G ad (va_up σ 16 z)) (AA B0)) 0 0 (AA B0) := by
  refine Met.ofW (cc := cX7_slowsDown) (maxL := 3) (ret := none) (by decide) rfl ?_
  intro p e s m args below meth c s₁ B hml hv
  obtain ⟨rfl, hP, hK, hN⟩ := hv
  have hx := B.exec
  have hb := B.bytes
  have hr := B.returns
  have hts := atoms_spec (ws := wsX7_slowsDown) B.pre
  have hown : s.vm.findClass RX7 = some m.cls := findClass_of_methodNamed B.named
  have hlocks := B.notSynchronized
  have hP : va_P D vwCl (pool G ad (va_up σ 16 u)) s.heap := hP
  have hS : va_S (AA B0) s.heap s.heap [] := va_S.rf
  have hl := lv_entry ([.ref (ad (279)), .int a]) (n := 3) (Nat.le_of_ble_eq_true rfl)
  rw [lg_entry_eq]
  generalize (lg_sl ([.ref (ad (279)), .int a]) ++ List.replicate (3 - (lg_sl ([.ref (ad (279)), .int a])).length) Slot.unset).toArray = ls at hl ⊢
  have hl : lv_has ls 3 [(0, .ref (ad (279))), (1, .int a)] := hl
  obtain ⟨FF, hFF⟩ : ∃ z, z = f7_slowsDown u a := ⟨_, rfl⟩
  have hF := hFF.symm
  rw [f7_slowsDown] at hF
  refine lv_aload_n hx hb dX7_slowsDown_0 rfl (lv_at hl 0 rfl) ?_
  refine lv_iload_n hx hb dX7_slowsDown_1 rfl (lv_at hl 1 rfl) ?_
  refine lv_iconst (v := 2) hx hb dX7_slowsDown_2 (by decide) ?_
  refine va_calli (va_runV (As := [.int a, .int 2]) (rest := []) ⟨hx, hb, hml, hown, hts⟩ (c7_of l hA σ u a 2 (vp_in_iff.mpr (by decide)) hba) (cwV 2 hts gX7_slowsDown_X7_of rfl rfl rfl hd_X7_ofV ⟨Nat.le_of_ble_eq_true rfl, Nat.le_of_ble_eq_true rfl⟩) ⟨hp_blind, va_recv hK hP (ci := 9) (q0 := 279) rfl c_279, hp_pre hK hN hP⟩ rfl rfl hl.1 rfl (lv_room (Nat.le_of_ble_eq_true rfl)) dX7_slowsDown_3 ⟨Nat.zero_le _, Nat.zero_le _⟩) hS (fun _ _ h => h) (fun _ h => h) (fun r3 _ t H locs ht hvm hw9 hB hz1 hk1 hS => ?_)
  have hP := ho_at ht hB
  have eq3 := hw9
  have hF := bnd_s eq3 hF
  refine lv_istore_n (lv' := [(2, .int r3), (0, .ref (ad (279))), (1, .int a)]) hx hb dX7_slowsDown_6 rfl hl (by decide) rfl (fun ls hl => ?_)
  refine lv_aload_n hx hb dX7_slowsDown_7 rfl (lv_at hl 1 rfl) ?_
  refine lv_iload_n hx hb dX7_slowsDown_8 rfl (lv_at hl 2 rfl) ?_
  refine lv_iconst (v := 2) hx hb dX7_slowsDown_9 (by decide) ?_
  refine lv_iload_n hx hb dX7_slowsDown_10 rfl (lv_at hl 0 rfl) ?_
  refine lv_iconst (v := 2) hx hb dX7_slowsDown_11 (by decide) ?_
  refine lv_icmp_le (tgt := 21) hx hb dX7_slowsDown_12 (by decide) (fun c12 => ?_) (fun c12 => ?_)
  · have hF := ift c12 hF
    refine lv_iload_n hx hb dX7_slowsDown_21 rfl (lv_at hl 0 rfl) ?_
    refine lv_bipush (v := (-2)) hx hb dX7_slowsDown_22 (by decide) ?_
    refine lv_icmp_ge (tgt := 33) hx hb dX7_slowsDown_24 (by decide) (fun c24 => ?_) (fun c24 => ?_)
    · have hF := ift c24 hF
      refine lv_iconst (v := 0) hx hb dX7_slowsDown_33 (by decide) ?_
      refine va_callv (va_runV (As := [.int a, .int 2, .int 0]) (rest := []) ⟨hx, hb, hml, hown, hts⟩ (c7_sets l hA σ u a 2 0 hO (vp_in_iff.mpr (by decide)) hba) (cwV 3 hts gX7_slowsDown_X7_sets rfl rfl rfl hd_X7_setsV ⟨Nat.le_of_ble_eq_true rfl, Nat.le_of_ble_eq_true rfl⟩) ⟨hp_blind, va_recv hK hP (ci := 9) (q0 := 279) rfl c_279, hp_pre hK hN hP⟩ rfl rfl hl.1 rfl (lv_room (Nat.le_of_ble_eq_true rfl)) dX7_slowsDown_34 ⟨Nat.zero_le _, Nat.zero_le _⟩) hS (fun _ _ h => h) (fun _ h => h) (fun u9 t H locs ht hvm hw9 hB hz1 hk1 hS => ?_)
      have hP := ho_at ht hB
      obtain ⟨eq34, ok9⟩ := hw9
      obtain ⟨u34, e_u34⟩ : ∃ z, z = u9 := ⟨_, rfl⟩
      rw [← e_u34] at hP eq34 ok9
      have hO := ok9
      have hF := bnd_s eq34 hF
      exact W.vret hx hb hr (fun t ht hW => ⟨⟨u34, rfl, ⟨hF.trans hFF, hO⟩, ho_of ht hP⟩, hS.F ht⟩) hS.2.2 dX7_slowsDown_37
    · have hF := iff_ c24 hF
      refine lv_iload_n hx hb dX7_slowsDown_27 rfl (lv_at hl 0 rfl) ?_
      refine lv_iconst (v := 2) hx hb dX7_slowsDown_28 (by decide) ?_
      refine lv_iadd hx hb dX7_slowsDown_29 ?_
      refine lv_goto (tgt := 34) hx hb dX7_slowsDown_30 (by decide) ?_
      refine va_callv (va_runV (As := [.int a, .int 2, .int (r3 + 2)]) (rest := []) ⟨hx, hb, hml, hown, hts⟩ (c7_sets l hA σ u a 2 (r3 + 2) hO (vp_in_iff.mpr (by decide)) hba) (cwV 3 hts gX7_slowsDown_X7_sets rfl rfl rfl hd_X7_setsV ⟨Nat.le_of_ble_eq_true rfl, Nat.le_of_ble_eq_true rfl⟩) ⟨hp_blind, va_recv hK hP (ci := 9) (q0 := 279) rfl c_279, hp_pre hK hN hP⟩ rfl rfl hl.1 rfl (lv_room (Nat.le_of_ble_eq_true rfl)) dX7_slowsDown_34 ⟨Nat.zero_le _, Nat.zero_le _⟩) hS (fun _ _ h => h) (fun _ h => h) (fun u9 t H locs ht hvm hw9 hB hz1 hk1 hS => ?_)
      have hP := ho_at ht hB
      obtain ⟨eq34, ok9⟩ := hw9
      obtain ⟨u34, e_u34⟩ : ∃ z, z = u9 := ⟨_, rfl⟩
      rw [← e_u34] at hP eq34 ok9
      have hO := ok9
      have hF := bnd_s eq34 hF
      exact W.vret hx hb hr (fun t ht hW => ⟨⟨u34, rfl, ⟨hF.trans hFF, hO⟩, ho_of ht hP⟩, hS.F ht⟩) hS.2.2 dX7_slowsDown_37
  · have hF := iff_ c12 hF
    refine lv_iload_n hx hb dX7_slowsDown_15 rfl (lv_at hl 0 rfl) ?_
    refine lv_iconst (v := 2) hx hb dX7_slowsDown_16 (by decide) ?_
    refine lv_isub hx hb dX7_slowsDown_17 ?_
    refine lv_goto (tgt := 34) hx hb dX7_slowsDown_18 (by decide) ?_
    refine va_callv (va_runV (As := [.int a, .int 2, .int (r3 - 2)]) (rest := []) ⟨hx, hb, hml, hown, hts⟩ (c7_sets l hA σ u a 2 (r3 - 2) hO (vp_in_iff.mpr (by decide)) hba) (cwV 3 hts gX7_slowsDown_X7_sets rfl rfl rfl hd_X7_setsV ⟨Nat.le_of_ble_eq_true rfl, Nat.le_of_ble_eq_true rfl⟩) ⟨hp_blind, va_recv hK hP (ci := 9) (q0 := 279) rfl c_279, hp_pre hK hN hP⟩ rfl rfl hl.1 rfl (lv_room (Nat.le_of_ble_eq_true rfl)) dX7_slowsDown_34 ⟨Nat.zero_le _, Nat.zero_le _⟩) hS (fun _ _ h => h) (fun _ h => h) (fun u9 t H locs ht hvm hw9 hB hz1 hk1 hS => ?_)
    have hP := ho_at ht hB
    obtain ⟨eq34, ok9⟩ := hw9
    obtain ⟨u34, e_u34⟩ : ∃ z, z = u9 := ⟨_, rfl⟩
    rw [← e_u34] at hP eq34 ok9
    have hO := ok9
    have hF := bnd_s eq34 hF
    exact W.vret hx hb hr (fun t ht hW => ⟨⟨u34, rfl, ⟨hF.trans hFF, hO⟩, ho_of ht hP⟩, hS.F ht⟩) hS.2.2 dX7_slowsDown_37
theorem hd_X7_slowsDownV : yX7_slowsDown.cls = RX7 ∧ yX7_slowsDown.cls ≠ "java/lang/invoke/MethodHandle" ∧ yX7_slowsDown.cls ≠ "java/lang/invoke/VarHandle" ∧ (parseMethodDescriptor yX7_slowsDown.desc).map (fun d => d.parameters.length) = some 1 := by decide +kernel
set_option maxHeartbeats 4000000 in
set_option maxRecDepth 100000 in
theorem c7_jumps (l : Launch) {D : va_G} {G : CY} {ad : Nat → Nat} {B0 : Nat} (hA : adOK B0 ad) (σ : Nat → Nat → Int32) (u : Nat → Int32) (a : Int32) (b : Int32) (hO : okM u) (hba : vp_in a 4) : Met l yX7_jumps wsX7_jumps { frames := 5, cells := 0, slots := 0, locals := 113 } (va_Pc [.ref (ad (279)), .int a, .int b] (Hp D G ad (va_up σ 16 u))) (va_Qi (fun (r : Int32) (z : Nat → Int32) => (r, z) = f7_jumps u a b ∧ okM z ∧ bl r) (fun (z : Nat → Int32) => Ho D G ad (va_up σ 16 z)) (AA B0)) 0 0 (AA B0) := by
  refine Met.ofW (cc := cX7_jumps) (maxL := 6) (ret := (some .boolean)) (by decide) rfl ?_
  intro p e s m args below meth c s₁ B hml hv
  obtain ⟨rfl, hP, hK, hN⟩ := hv
  have hx := B.exec
  have hb := B.bytes
  have hr := B.returns
  have hts := atoms_spec (ws := wsX7_jumps) B.pre
  have hown : s.vm.findClass RX7 = some m.cls := findClass_of_methodNamed B.named
  have hlocks := B.notSynchronized
  have inX7 : ∀ w ∈ wsX70, w ∈ wsX7_jumps := (fun w h => List.mem_cons_of_mem _ (List.mem_append_left _ (List.mem_append_right _ h)))
  have hP : va_P D vwCl (pool G ad (va_up σ 16 u)) s.heap := hP
  have hS : va_S (AA B0) s.heap s.heap [] := va_S.rf
  have hl := lv_entry ([.ref (ad (279)), .int a, .int b]) (n := 6) (Nat.le_of_ble_eq_true rfl)
  rw [lg_entry_eq]
  generalize (lg_sl ([.ref (ad (279)), .int a, .int b]) ++ List.replicate (6 - (lg_sl ([.ref (ad (279)), .int a, .int b])).length) Slot.unset).toArray = ls at hl ⊢
  have hl : lv_has ls 6 [(0, .ref (ad (279))), (1, .int a), (2, .int b)] := hl
  obtain ⟨FF, hFF⟩ : ∃ z, z = f7_jumps u a b := ⟨_, rfl⟩
  have hF := hFF.symm
  rw [f7_jumps] at hF
  refine lv_aload_n hx hb dX7_jumps_0 rfl (lv_at hl 0 rfl) ?_
  refine lv_iload_n hx hb dX7_jumps_1 rfl (lv_at hl 1 rfl) ?_
  refine lv_iconst (v := 5) hx hb dX7_jumps_2 (by decide) ?_
  refine va_calli (va_runV (As := [.int a, .int 5]) (rest := []) ⟨hx, hb, hml, hown, hts⟩ (c7_of l hA σ u a 5 (vp_in_iff.mpr (by decide)) hba) (cwV 2 hts gX7_jumps_X7_of rfl rfl rfl hd_X7_ofV ⟨Nat.le_of_ble_eq_true rfl, Nat.le_of_ble_eq_true rfl⟩) ⟨hp_blind, va_recv hK hP (ci := 9) (q0 := 279) rfl c_279, hp_pre hK hN hP⟩ rfl rfl hl.1 rfl (lv_room (Nat.le_of_ble_eq_true rfl)) dX7_jumps_3 ⟨Nat.zero_le _, Nat.zero_le _⟩) hS (fun _ _ h => h) (fun _ h => h) (fun r3 _ t H locs ht hvm hw9 hB hz1 hk1 hS => ?_)
  have hP := ho_at ht hB
  have eq3 := hw9
  have hF := bnd_s eq3 hF
  refine lv_if_ne (tgt := 11) hx hb dX7_jumps_6 (by decide) (fun c6 => ?_) (fun c6 => ?_)
  · have hF := iff_ c6 hF
    refine lv_aload_n hx hb dX7_jumps_11 rfl (lv_at hl 0 rfl) ?_
    refine lv_iload_n hx hb dX7_jumps_12 rfl (lv_at hl 1 rfl) ?_
    refine lv_iconst (v := 4) hx hb dX7_jumps_13 (by decide) ?_
    refine va_calli (va_runV (As := [.int a, .int 4]) (rest := []) ⟨hx, hb, hml, hown, hts⟩ (c7_of l hA σ u a 4 (vp_in_iff.mpr (by decide)) hba) (cwV 2 hts gX7_jumps_X7_of rfl rfl rfl hd_X7_ofV ⟨Nat.le_of_ble_eq_true rfl, Nat.le_of_ble_eq_true rfl⟩) ⟨hp_blind, va_recv hK hP (ci := 9) (q0 := 279) rfl c_279, hp_pre hK hN hP⟩ rfl rfl hl.1 rfl (lv_room (Nat.le_of_ble_eq_true rfl)) dX7_jumps_14 ⟨Nat.zero_le _, Nat.zero_le _⟩) hS (fun _ _ h => h) (fun _ h => h) (fun r14 _ t H locs ht hvm hw9 hB hz1 hk1 hS => ?_)
    have hP := ho_at ht hB
    have eq14 := hw9
    have hF := bnd_s eq14 hF
    have J25 : ∀ (t0_25 : Int32) (H : Heap) (locs : List Loc) (ls : Array Slot), bl t0_25 → va_P D vwCl (pool G ad (va_up σ 16 u)) H → va_S (AA B0) s.heap H locs → lv_has ls 6 [(0, .ref (ad (279))), (1, .int a), (2, .int b)] → f7_jumps_b25 u a b t0_25 = FF → W p l e (headSpec wsX7_jumps { frames := 5, cells := 0, slots := 0, locals := 113 }).room s m ([.ref (ad (279)), .int a, .int b] : List Value).toArray below meth c H locs 0 0 (MQ below (va_Qi (fun (r : Int32) (z : Nat → Int32) => (r, z) = f7_jumps u a b ∧ okM z ∧ bl r) (fun (z : Nat → Int32) => Ho D G ad (va_up σ 16 z)) (AA B0)) ([.ref (ad (279)), .int a, .int b] : List Value).toArray s 0 0 (AA B0)) (F0 m 25 ls [.int t0_25]) := by
      intro t0_25 H locs ls hb_t0_25 hP hS hl hF
      rw [f7_jumps_b25] at hF
      refine lv_istore_n (lv' := [(3, .int t0_25), (0, .ref (ad (279))), (1, .int a), (2, .int b)]) hx hb dX7_jumps_25 rfl hl (by decide) rfl (fun ls hl => ?_)
      refine lv_iload_n hx hb dX7_jumps_26 rfl (lv_at hl 0 rfl) ?_
      have J61 : ∀ (t0_61 : Int32) (H : Heap) (locs : List Loc) (ls : Array Slot), bl t0_61 → va_P D vwCl (pool G ad (va_up σ 16 u)) H → va_S (AA B0) s.heap H locs → lv_has ls 6 [(3, .int t0_25), (0, .ref (ad (279))), (1, .int a), (2, .int b)] → f7_jumps_b61 u a b t0_25 t0_61 = FF → W p l e (headSpec wsX7_jumps { frames := 5, cells := 0, slots := 0, locals := 113 }).room s m ([.ref (ad (279)), .int a, .int b] : List Value).toArray below meth c H locs 0 0 (MQ below (va_Qi (fun (r : Int32) (z : Nat → Int32) => (r, z) = f7_jumps u a b ∧ okM z ∧ bl r) (fun (z : Nat → Int32) => Ho D G ad (va_up σ 16 z)) (AA B0)) ([.ref (ad (279)), .int a, .int b] : List Value).toArray s 0 0 (AA B0)) (F0 m 61 ls [.int t0_61]) := by
        intro t0_61 H locs ls hb_t0_61 hP hS hl hF
        rw [f7_jumps_b61] at hF
        refine lv_istore (lv' := [(4, .int t0_61), (3, .int t0_25), (0, .ref (ad (279))), (1, .int a), (2, .int b)]) hx hb dX7_jumps_61 hl (by decide) rfl (fun ls hl => ?_)
        refine lv_iload_n hx hb dX7_jumps_63 rfl (lv_at hl 1 rfl) ?_
        have J98 : ∀ (t0_98 : Int32) (H : Heap) (locs : List Loc) (ls : Array Slot), bl t0_98 → va_P D vwCl (pool G ad (va_up σ 16 u)) H → va_S (AA B0) s.heap H locs → lv_has ls 6 [(4, .int t0_61), (3, .int t0_25), (0, .ref (ad (279))), (1, .int a)] → f7_jumps_b98 u a t0_25 t0_61 t0_98 = FF → W p l e (headSpec wsX7_jumps { frames := 5, cells := 0, slots := 0, locals := 113 }).room s m ([.ref (ad (279)), .int a, .int b] : List Value).toArray below meth c H locs 0 0 (MQ below (va_Qi (fun (r : Int32) (z : Nat → Int32) => (r, z) = f7_jumps u a b ∧ okM z ∧ bl r) (fun (z : Nat → Int32) => Ho D G ad (va_up σ 16 z)) (AA B0)) ([.ref (ad (279)), .int a, .int b] : List Value).toArray s 0 0 (AA B0)) (F0 m 98 ls [.int t0_98]) := by
          intro t0_98 H locs ls hb_t0_98 hP hS hl hF
          rw [f7_jumps_b98] at hF
          refine lv_istore (lv' := [(5, .int t0_98), (4, .int t0_61), (3, .int t0_25), (0, .ref (ad (279))), (1, .int a)]) hx hb dX7_jumps_98 hl (by decide) rfl (fun ls hl => ?_)
          refine lv_iload_n hx hb dX7_jumps_100 rfl (lv_at hl 2 rfl) ?_
          have J116 : ∀  (H : Heap) (locs : List Loc) (ls : Array Slot), va_P D vwCl (pool G ad (va_up σ 16 u)) H → va_S (AA B0) s.heap H locs → lv_has ls 6 [(4, .int t0_61), (3, .int t0_25), (0, .ref (ad (279))), (1, .int a)] → f7_jumps_b116 u a t0_25 t0_61  = FF → W p l e (headSpec wsX7_jumps { frames := 5, cells := 0, slots := 0, locals := 113 }).room s m ([.ref (ad (279)), .int a, .int b] : List Value).toArray below meth c H locs 0 0 (MQ below (va_Qi (fun (r : Int32) (z : Nat → Int32) => (r, z) = f7_jumps u a b ∧ okM z ∧ bl r) (fun (z : Nat → Int32) => Ho D G ad (va_up σ 16 z)) (AA B0)) ([.ref (ad (279)), .int a, .int b] : List Value).toArray s 0 0 (AA B0)) (F0 m 116 ls []) := by
            intro  H locs ls hP hS hl hF
            rw [f7_jumps_b116] at hF
            refine lv_aload_n hx hb dX7_jumps_116 rfl (lv_at hl 2 rfl) ?_
            refine lv_iload_n hx hb dX7_jumps_117 rfl (lv_at hl 3 rfl) ?_
            refine lv_iconst (v := 3) hx hb dX7_jumps_118 (by decide) ?_
            refine lv_aload_n hx hb dX7_jumps_119 rfl (lv_at hl 2 rfl) ?_
            refine va_get (D := D) (ci := 9) (C := RX7) (T := TX7) (N := 17) hx hb hts inX7 hown hK hP (279) c_279 rfl 2 (by decide) (hts (.fieldLink RX7 13 "TileRunnersModel" "setting" "[I") (List.mem_of_getElem? (i := 1) rfl)) (fun _ h9 => h9) rfl dX7_jumps_120 ?_
            refine lv_iconst (v := 1) hx hb dX7_jumps_123 (by decide) ?_
            refine pald (n := 4) (o := 480) (t := 481) (i := 1) hx hb hK hP c_281 (vp_in_iff.mpr (by decide)) rfl dX7_jumps_124 ?_
            refine va_callv (va_runV (As := [.int a, .int 3, .int (u 481)]) (rest := []) ⟨hx, hb, hml, hown, hts⟩ (c7_sets l hA σ u a 3 (u 481) hO (vp_in_iff.mpr (by decide)) hba) (cwV 3 hts gX7_jumps_X7_sets rfl rfl rfl hd_X7_setsV ⟨Nat.le_of_ble_eq_true rfl, Nat.le_of_ble_eq_true rfl⟩) ⟨hp_blind, va_recv hK hP (ci := 9) (q0 := 279) rfl c_279, hp_pre hK hN hP⟩ rfl rfl hl.1 rfl (lv_room (Nat.le_of_ble_eq_true rfl)) dX7_jumps_125 ⟨Nat.zero_le _, Nat.zero_le _⟩) hS (fun _ _ h => h) (fun _ h => h) (fun u9 t H locs ht hvm hw9 hB hz1 hk1 hS => ?_)
            have hP := ho_at ht hB
            obtain ⟨eq125, ok9⟩ := hw9
            obtain ⟨u125, e_u125⟩ : ∃ z, z = u9 := ⟨_, rfl⟩
            rw [← e_u125] at hP eq125 ok9
            have hO := ok9
            have hF := bnd_s eq125 hF
            refine lv_aload_n hx hb dX7_jumps_128 rfl (lv_at hl 2 rfl) ?_
            refine lv_iload_n hx hb dX7_jumps_129 rfl (lv_at hl 3 rfl) ?_
            refine lv_iconst (v := 5) hx hb dX7_jumps_130 (by decide) ?_
            refine lv_iconst (v := 0) hx hb dX7_jumps_131 (by decide) ?_
            refine va_callv (va_runV (As := [.int a, .int 5, .int 0]) (rest := []) ⟨hx, hb, hml, hown, hts⟩ (c7_sets l hA σ u125 a 5 0 hO (vp_in_iff.mpr (by decide)) hba) (cwV 3 hts gX7_jumps_X7_sets rfl rfl rfl hd_X7_setsV ⟨Nat.le_of_ble_eq_true rfl, Nat.le_of_ble_eq_true rfl⟩) ⟨hp_blind, va_recv hK hP (ci := 9) (q0 := 279) rfl c_279, hp_pre hK hN hP⟩ rfl rfl hl.1 rfl (lv_room (Nat.le_of_ble_eq_true rfl)) dX7_jumps_132 ⟨Nat.zero_le _, Nat.zero_le _⟩) hS (fun _ _ h => h) (fun _ h => h) (fun u9 t H locs ht hvm hw9 hB hz1 hk1 hS => ?_)
            have hP := ho_at ht hB
            obtain ⟨eq132, ok9⟩ := hw9
            obtain ⟨u132, e_u132⟩ : ∃ z, z = u9 := ⟨_, rfl⟩
            rw [← e_u132] at hP eq132 ok9
            have hO := ok9
            have hF := bnd_s eq132 hF
            refine lv_iload_n hx hb dX7_jumps_135 rfl (lv_at hl 1 rfl) ?_
            have J176 : ∀ (u_176 : (Nat → Int32)) (H : Heap) (locs : List Loc) (ls : Array Slot), okM u_176 → va_P D vwCl (pool G ad (va_up σ 16 u_176)) H → va_S (AA B0) s.heap H locs → lv_has ls 6 [(0, .ref (ad (279))), (1, .int a)] → f7_jumps_b176 a u_176 = FF → W p l e (headSpec wsX7_jumps { frames := 5, cells := 0, slots := 0, locals := 113 }).room s m ([.ref (ad (279)), .int a, .int b] : List Value).toArray below meth c H locs 0 0 (MQ below (va_Qi (fun (r : Int32) (z : Nat → Int32) => (r, z) = f7_jumps u a b ∧ okM z ∧ bl r) (fun (z : Nat → Int32) => Ho D G ad (va_up σ 16 z)) (AA B0)) ([.ref (ad (279)), .int a, .int b] : List Value).toArray s 0 0 (AA B0)) (F0 m 176 ls []) := by
              intro u_176 H locs ls hO hP hS hl hF
              rw [f7_jumps_b176] at hF
              refine lv_aload_n hx hb dX7_jumps_176 rfl (lv_at hl 0 rfl) ?_
              refine lv_iload_n hx hb dX7_jumps_177 rfl (lv_at hl 1 rfl) ?_
              refine lv_bipush (v := 11) hx hb dX7_jumps_178 (by decide) ?_
              refine lv_iconst (v := 1) hx hb dX7_jumps_180 (by decide) ?_
              refine va_callv (va_runV (As := [.int a, .int 11, .int 1]) (rest := []) ⟨hx, hb, hml, hown, hts⟩ (c7_sets l hA σ u_176 a 11 1 hO (vp_in_iff.mpr (by decide)) hba) (cwV 3 hts gX7_jumps_X7_sets rfl rfl rfl hd_X7_setsV ⟨Nat.le_of_ble_eq_true rfl, Nat.le_of_ble_eq_true rfl⟩) ⟨hp_blind, va_recv hK hP (ci := 9) (q0 := 279) rfl c_279, hp_pre hK hN hP⟩ rfl rfl hl.1 rfl (lv_room (Nat.le_of_ble_eq_true rfl)) dX7_jumps_181 ⟨Nat.zero_le _, Nat.zero_le _⟩) hS (fun _ _ h => h) (fun _ h => h) (fun u9 t H locs ht hvm hw9 hB hz1 hk1 hS => ?_)
              have hP := ho_at ht hB
              obtain ⟨eq181, ok9⟩ := hw9
              obtain ⟨u181, e_u181⟩ : ∃ z, z = u9 := ⟨_, rfl⟩
              rw [← e_u181] at hP eq181 ok9
              have hO := ok9
              have hF := bnd_s eq181 hF
              refine lv_aload_n hx hb dX7_jumps_184 rfl (lv_at hl 0 rfl) ?_
              refine lv_iload_n hx hb dX7_jumps_185 rfl (lv_at hl 1 rfl) ?_
              refine lv_bipush (v := 16) hx hb dX7_jumps_186 (by decide) ?_
              refine lv_iconst (v := 1) hx hb dX7_jumps_188 (by decide) ?_
              refine va_callv (va_runV (As := [.int a, .int 16, .int 1]) (rest := []) ⟨hx, hb, hml, hown, hts⟩ (c7_adds l hA σ u181 a 16 1 hO (vp_in_iff.mpr (by decide)) hba) (cwV 3 hts gX7_jumps_X7_adds rfl rfl rfl hd_X7_addsV ⟨Nat.le_of_ble_eq_true rfl, Nat.le_of_ble_eq_true rfl⟩) ⟨hp_blind, va_recv hK hP (ci := 9) (q0 := 279) rfl c_279, hp_pre hK hN hP⟩ rfl rfl hl.1 rfl (lv_room (Nat.le_of_ble_eq_true rfl)) dX7_jumps_189 ⟨Nat.zero_le _, Nat.zero_le _⟩) hS (fun _ _ h => h) (fun _ h => h) (fun u9 t H locs ht hvm hw9 hB hz1 hk1 hS => ?_)
              have hP := ho_at ht hB
              obtain ⟨eq189, ok9⟩ := hw9
              obtain ⟨u189, e_u189⟩ : ∃ z, z = u9 := ⟨_, rfl⟩
              rw [← e_u189] at hP eq189 ok9
              have hO := ok9
              have hF := bnd_s eq189 hF
              refine lv_iconst (v := 1) hx hb dX7_jumps_192 (by decide) ?_
              exact W.zret (v := 1) hx hb hr (bl_nar bl1) (fun t ht hW => ⟨⟨1, u189, rfl, ⟨hF.trans hFF, hO, bl1⟩, ho_of ht hP⟩, hS.F ht⟩) hS.2.2 dX7_jumps_193
            refine lv_if_eq (tgt := 149) hx hb dX7_jumps_136 (by decide) (fun c136 => ?_) (fun c136 => ?_)
            · have hF := ift c136 hF
              refine lv_aload_n hx hb dX7_jumps_149 rfl (lv_at hl 2 rfl) ?_
              refine lv_iload_n hx hb dX7_jumps_150 rfl (lv_at hl 3 rfl) ?_
              refine lv_iconst (v := 2) hx hb dX7_jumps_151 (by decide) ?_
              refine lv_iload hx hb dX7_jumps_152 (lv_at hl 0 rfl) ?_
              have J173 : ∀ (t0_173 : Int32) (H : Heap) (locs : List Loc) (ls : Array Slot), va_P D vwCl (pool G ad (va_up σ 16 u132)) H → va_S (AA B0) s.heap H locs → lv_has ls 6 [(0, .ref (ad (279))), (1, .int a)] → f7_jumps_b173 a u132 t0_173 = FF → W p l e (headSpec wsX7_jumps { frames := 5, cells := 0, slots := 0, locals := 113 }).room s m ([.ref (ad (279)), .int a, .int b] : List Value).toArray below meth c H locs 0 0 (MQ below (va_Qi (fun (r : Int32) (z : Nat → Int32) => (r, z) = f7_jumps u a b ∧ okM z ∧ bl r) (fun (z : Nat → Int32) => Ho D G ad (va_up σ 16 z)) (AA B0)) ([.ref (ad (279)), .int a, .int b] : List Value).toArray s 0 0 (AA B0)) (F0 m 173 ls [.int t0_173, .int 2, .int a, .ref (ad (279))]) := by
                intro t0_173 H locs ls hP hS hl hF
                rw [f7_jumps_b173] at hF
                refine va_callv (va_runV (As := [.int a, .int 2, .int t0_173]) (rest := []) ⟨hx, hb, hml, hown, hts⟩ (c7_sets l hA σ u132 a 2 t0_173 hO (vp_in_iff.mpr (by decide)) hba) (cwV 3 hts gX7_jumps_X7_sets rfl rfl rfl hd_X7_setsV ⟨Nat.le_of_ble_eq_true rfl, Nat.le_of_ble_eq_true rfl⟩) ⟨hp_blind, va_recv hK hP (ci := 9) (q0 := 279) rfl c_279, hp_pre hK hN hP⟩ rfl rfl hl.1 rfl (lv_room (Nat.le_of_ble_eq_true rfl)) dX7_jumps_173 ⟨Nat.zero_le _, Nat.zero_le _⟩) hS (fun _ _ h => h) (fun _ h => h) (fun u9 t H locs ht hvm hw9 hB hz1 hk1 hS => ?_)
                have hP := ho_at ht hB
                obtain ⟨eq173, ok9⟩ := hw9
                obtain ⟨u173, e_u173⟩ : ∃ z, z = u9 := ⟨_, rfl⟩
                rw [← e_u173] at hP eq173 ok9
                have hO := ok9
                have hF := bnd_s eq173 hF
                exact J176 u173 _ _ ls hO hP hS (lv_sub hl [0, 1] rfl) hF
              refine lv_if_eq (tgt := 167) hx hb dX7_jumps_154 (by decide) (fun c154 => ?_) (fun c154 => ?_)
              · have hF := ift c154 hF
                refine lv_aload_n hx hb dX7_jumps_167 rfl (lv_at hl 2 rfl) ?_
                refine va_get (D := D) (ci := 9) (C := RX7) (T := TX7) (N := 17) hx hb hts inX7 hown hK hP (279) c_279 rfl 2 (by decide) (hts (.fieldLink RX7 13 "TileRunnersModel" "setting" "[I") (List.mem_of_getElem? (i := 1) rfl)) (fun _ h9 => h9) rfl dX7_jumps_168 ?_
                refine lv_iconst (v := 0) hx hb dX7_jumps_171 (by decide) ?_
                refine pald (n := 4) (o := 480) (t := 480) (i := 0) hx hb hK hP c_281 (vp_in_iff.mpr (by decide)) rfl dX7_jumps_172 ?_
                exact J173 (u132 480) _ _ ls hP hS (lv_sub hl [2, 3] rfl) hF
              · have hF := iff_ c154 hF
                refine lv_aload_n hx hb dX7_jumps_157 rfl (lv_at hl 2 rfl) ?_
                refine va_get (D := D) (ci := 9) (C := RX7) (T := TX7) (N := 17) hx hb hts inX7 hown hK hP (279) c_279 rfl 2 (by decide) (hts (.fieldLink RX7 13 "TileRunnersModel" "setting" "[I") (List.mem_of_getElem? (i := 1) rfl)) (fun _ h9 => h9) rfl dX7_jumps_158 ?_
                refine lv_iconst (v := 0) hx hb dX7_jumps_161 (by decide) ?_
                refine pald (n := 4) (o := 480) (t := 480) (i := 0) hx hb hK hP c_281 (vp_in_iff.mpr (by decide)) rfl dX7_jumps_162 ?_
                refine lv_ineg hx hb dX7_jumps_163 ?_
                refine lv_goto (tgt := 173) hx hb dX7_jumps_164 (by decide) ?_
                exact J173 (-(u132 480)) _ _ ls hP hS (lv_sub hl [2, 3] rfl) hF
            · have hF := iff_ c136 hF
              refine lv_aload_n hx hb dX7_jumps_139 rfl (lv_at hl 2 rfl) ?_
              refine lv_iload_n hx hb dX7_jumps_140 rfl (lv_at hl 3 rfl) ?_
              refine lv_iconst (v := 4) hx hb dX7_jumps_141 (by decide) ?_
              refine lv_iconst (v := 0) hx hb dX7_jumps_142 (by decide) ?_
              refine va_callv (va_runV (As := [.int a, .int 4, .int 0]) (rest := []) ⟨hx, hb, hml, hown, hts⟩ (c7_sets l hA σ u132 a 4 0 hO (vp_in_iff.mpr (by decide)) hba) (cwV 3 hts gX7_jumps_X7_sets rfl rfl rfl hd_X7_setsV ⟨Nat.le_of_ble_eq_true rfl, Nat.le_of_ble_eq_true rfl⟩) ⟨hp_blind, va_recv hK hP (ci := 9) (q0 := 279) rfl c_279, hp_pre hK hN hP⟩ rfl rfl hl.1 rfl (lv_room (Nat.le_of_ble_eq_true rfl)) dX7_jumps_143 ⟨Nat.zero_le _, Nat.zero_le _⟩) hS (fun _ _ h => h) (fun _ h => h) (fun u9 t H locs ht hvm hw9 hB hz1 hk1 hS => ?_)
              have hP := ho_at ht hB
              obtain ⟨eq143, ok9⟩ := hw9
              obtain ⟨u143, e_u143⟩ : ∃ z, z = u9 := ⟨_, rfl⟩
              rw [← e_u143] at hP eq143 ok9
              have hO := ok9
              have hF := bnd_s eq143 hF
              refine lv_goto (tgt := 176) hx hb dX7_jumps_146 (by decide) ?_
              exact J176 u143 _ _ ls hO hP hS (lv_sub hl [2, 3] rfl) hF
          refine lv_if_ne (tgt := 116) hx hb dX7_jumps_101 (by decide) (fun c101 => ?_) (fun c101 => ?_)
          · have hF := iff_ c101 hF
            exact J116  _ _ ls hP hS (lv_sub hl [1, 2, 3, 4] rfl) hF
          · have hF := ift c101 hF
            refine lv_iload hx hb dX7_jumps_104 (lv_at hl 1 rfl) ?_
            refine lv_if_ne (tgt := 116) hx hb dX7_jumps_106 (by decide) (fun c106 => ?_) (fun c106 => ?_)
            · have hF := iff_ c106 hF
              exact J116  _ _ ls hP hS (lv_sub hl [1, 2, 3, 4] rfl) hF
            · have hF := ift c106 hF
              refine lv_iload hx hb dX7_jumps_109 (lv_at hl 0 rfl) ?_
              refine lv_if_ne (tgt := 116) hx hb dX7_jumps_111 (by decide) (fun c111 => ?_) (fun c111 => ?_)
              · have hF := iff_ c111 hF
                exact J116  _ _ ls hP hS (lv_sub hl [1, 2, 3, 4] rfl) hF
              · have hF := ift c111 hF
                refine lv_iconst (v := 0) hx hb dX7_jumps_114 (by decide) ?_
                exact W.zret (v := 0) hx hb hr (bl_nar bl0) (fun t ht hW => ⟨⟨0, u, rfl, ⟨hF.trans hFF, hO, bl0⟩, ho_of ht hP⟩, hS.F ht⟩) hS.2.2 dX7_jumps_115
        have J97 : ∀  (H : Heap) (locs : List Loc) (ls : Array Slot), va_P D vwCl (pool G ad (va_up σ 16 u)) H → va_S (AA B0) s.heap H locs → lv_has ls 6 [(4, .int t0_61), (3, .int t0_25), (0, .ref (ad (279))), (1, .int a)] → f7_jumps_b97 u a t0_25 t0_61  = FF → W p l e (headSpec wsX7_jumps { frames := 5, cells := 0, slots := 0, locals := 113 }).room s m ([.ref (ad (279)), .int a, .int b] : List Value).toArray below meth c H locs 0 0 (MQ below (va_Qi (fun (r : Int32) (z : Nat → Int32) => (r, z) = f7_jumps u a b ∧ okM z ∧ bl r) (fun (z : Nat → Int32) => Ho D G ad (va_up σ 16 z)) (AA B0)) ([.ref (ad (279)), .int a, .int b] : List Value).toArray s 0 0 (AA B0)) (F0 m 97 ls []) := by
          intro  H locs ls hP hS hl hF
          rw [f7_jumps_b97] at hF
          refine lv_iconst (v := 0) hx hb dX7_jumps_97 (by decide) ?_
          exact J98 0 _ _ ls bl0 hP hS (lv_sub hl [0, 1, 2, 3] rfl) hF
        refine lv_if_ne (tgt := 97) hx hb dX7_jumps_64 (by decide) (fun c64 => ?_) (fun c64 => ?_)
        · have hF := iff_ c64 hF
          exact J97  _ _ ls hP hS (lv_sub hl [0, 1, 2, 3] rfl) hF
        · have hF := ift c64 hF
          refine lv_iload_n hx hb dX7_jumps_67 rfl (lv_at hl 4 rfl) ?_
          refine lv_if_ne (tgt := 97) hx hb dX7_jumps_68 (by decide) (fun c68 => ?_) (fun c68 => ?_)
          · have hF := iff_ c68 hF
            exact J97  _ _ ls hP hS (lv_sub hl [0, 1, 2, 3] rfl) hF
          · have hF := ift c68 hF
            refine lv_aload_n hx hb dX7_jumps_71 rfl (lv_at hl 2 rfl) ?_
            refine lv_iload_n hx hb dX7_jumps_72 rfl (lv_at hl 3 rfl) ?_
            refine lv_aload_n hx hb dX7_jumps_73 rfl (lv_at hl 2 rfl) ?_
            refine lv_iload_n hx hb dX7_jumps_74 rfl (lv_at hl 3 rfl) ?_
            refine lv_iconst (v := 0) hx hb dX7_jumps_75 (by decide) ?_
            refine va_calli (va_runV (As := [.int a, .int 0]) (rest := [.int a, .ref (ad (279))]) ⟨hx, hb, hml, hown, hts⟩ (c7_of l hA σ u a 0 (vp_in_iff.mpr (by decide)) hba) (cwV 2 hts gX7_jumps_X7_of rfl rfl rfl hd_X7_ofV ⟨Nat.le_of_ble_eq_true rfl, Nat.le_of_ble_eq_true rfl⟩) ⟨hp_blind, va_recv hK hP (ci := 9) (q0 := 279) rfl c_279, hp_pre hK hN hP⟩ rfl rfl hl.1 rfl (lv_room (Nat.le_of_ble_eq_true rfl)) dX7_jumps_76 ⟨Nat.zero_le _, Nat.zero_le _⟩) hS (fun _ _ h => h) (fun _ h => h) (fun r76 _ t H locs ht hvm hw9 hB hz1 hk1 hS => ?_)
            have hP := ho_at ht hB
            have eq76 := hw9
            have hF := bnd_s eq76 hF
            refine lv_iconst (v := 1) hx hb dX7_jumps_79 (by decide) ?_
            refine lv_isub hx hb dX7_jumps_80 ?_
            refine lv_aload_n hx hb dX7_jumps_81 rfl (lv_at hl 2 rfl) ?_
            refine lv_iload_n hx hb dX7_jumps_82 rfl (lv_at hl 3 rfl) ?_
            refine lv_iconst (v := 1) hx hb dX7_jumps_83 (by decide) ?_
            refine va_calli (va_runV (As := [.int a, .int 1]) (rest := [.int (r76 - 1), .int a, .ref (ad (279))]) ⟨hx, hb, hml, hown, hts⟩ (c7_of l hA σ u a 1 (vp_in_iff.mpr (by decide)) hba) (cwV 2 hts gX7_jumps_X7_of rfl rfl rfl hd_X7_ofV ⟨Nat.le_of_ble_eq_true rfl, Nat.le_of_ble_eq_true rfl⟩) ⟨hp_blind, va_recv hK hP (ci := 9) (q0 := 279) rfl c_279, hp_pre hK hN hP⟩ rfl rfl hl.1 rfl (lv_room (Nat.le_of_ble_eq_true rfl)) dX7_jumps_84 ⟨Nat.zero_le _, Nat.zero_le _⟩) hS (fun _ _ h => h) (fun _ h => h) (fun r84 _ t H locs ht hvm hw9 hB hz1 hk1 hS => ?_)
            have hP := ho_at ht hB
            have eq84 := hw9
            have hF := bnd_s eq84 hF
            refine va_calli (va_runV (As := [.int a, .int (r76 - 1), .int r84]) (rest := []) ⟨hx, hb, hml, hown, hts⟩ (c7_blocks l hA σ u a (r76 - 1) r84 hba) (cwV 3 hts gX7_jumps_X7_blocks rfl rfl rfl hd_X7_blocksV ⟨Nat.le_of_ble_eq_true rfl, Nat.le_of_ble_eq_true rfl⟩) ⟨hp_blind, va_recv hK hP (ci := 9) (q0 := 279) rfl c_279, hp_pre hK hN hP⟩ rfl rfl hl.1 rfl (lv_room (Nat.le_of_ble_eq_true rfl)) dX7_jumps_87 ⟨Nat.zero_le _, Nat.zero_le _⟩) hS (fun _ _ h => h) (fun _ h => h) (fun r87 _ t H locs ht hvm hw9 hB hz1 hk1 hS => ?_)
            have hP := ho_at ht hB
            obtain ⟨eq87, hb_r87⟩ := hw9
            have hF := bnd_s eq87 hF
            refine lv_if_eq (tgt := 97) hx hb dX7_jumps_90 (by decide) (fun c90 => ?_) (fun c90 => ?_)
            · have hF := ift c90 hF
              exact J97  _ _ ls hP hS (lv_sub hl [0, 1, 2, 3] rfl) hF
            · have hF := iff_ c90 hF
              refine lv_iconst (v := 1) hx hb dX7_jumps_93 (by decide) ?_
              refine lv_goto (tgt := 98) hx hb dX7_jumps_94 (by decide) ?_
              exact J98 1 _ _ ls bl1 hP hS (lv_sub hl [0, 1, 2, 3] rfl) hF
      have J60 : ∀  (H : Heap) (locs : List Loc) (ls : Array Slot), va_P D vwCl (pool G ad (va_up σ 16 u)) H → va_S (AA B0) s.heap H locs → lv_has ls 6 [(3, .int t0_25), (0, .ref (ad (279))), (1, .int a), (2, .int b)] → f7_jumps_b60 u a b t0_25  = FF → W p l e (headSpec wsX7_jumps { frames := 5, cells := 0, slots := 0, locals := 113 }).room s m ([.ref (ad (279)), .int a, .int b] : List Value).toArray below meth c H locs 0 0 (MQ below (va_Qi (fun (r : Int32) (z : Nat → Int32) => (r, z) = f7_jumps u a b ∧ okM z ∧ bl r) (fun (z : Nat → Int32) => Ho D G ad (va_up σ 16 z)) (AA B0)) ([.ref (ad (279)), .int a, .int b] : List Value).toArray s 0 0 (AA B0)) (F0 m 60 ls []) := by
        intro  H locs ls hP hS hl hF
        rw [f7_jumps_b60] at hF
        refine lv_iconst (v := 0) hx hb dX7_jumps_60 (by decide) ?_
        exact J61 0 _ _ ls bl0 hP hS (lv_sub hl [0, 1, 2, 3] rfl) hF
      refine lv_if_ne (tgt := 60) hx hb dX7_jumps_27 (by decide) (fun c27 => ?_) (fun c27 => ?_)
      · have hF := iff_ c27 hF
        exact J60  _ _ ls hP hS (lv_sub hl [0, 1, 2, 3] rfl) hF
      · have hF := ift c27 hF
        refine lv_iload_n hx hb dX7_jumps_30 rfl (lv_at hl 3 rfl) ?_
        refine lv_if_ne (tgt := 60) hx hb dX7_jumps_31 (by decide) (fun c31 => ?_) (fun c31 => ?_)
        · have hF := iff_ c31 hF
          exact J60  _ _ ls hP hS (lv_sub hl [0, 1, 2, 3] rfl) hF
        · have hF := ift c31 hF
          refine lv_aload_n hx hb dX7_jumps_34 rfl (lv_at hl 1 rfl) ?_
          refine lv_iload_n hx hb dX7_jumps_35 rfl (lv_at hl 2 rfl) ?_
          refine lv_aload_n hx hb dX7_jumps_36 rfl (lv_at hl 1 rfl) ?_
          refine lv_iload_n hx hb dX7_jumps_37 rfl (lv_at hl 2 rfl) ?_
          refine lv_iconst (v := 0) hx hb dX7_jumps_38 (by decide) ?_
          refine va_calli (va_runV (As := [.int a, .int 0]) (rest := [.int a, .ref (ad (279))]) ⟨hx, hb, hml, hown, hts⟩ (c7_of l hA σ u a 0 (vp_in_iff.mpr (by decide)) hba) (cwV 2 hts gX7_jumps_X7_of rfl rfl rfl hd_X7_ofV ⟨Nat.le_of_ble_eq_true rfl, Nat.le_of_ble_eq_true rfl⟩) ⟨hp_blind, va_recv hK hP (ci := 9) (q0 := 279) rfl c_279, hp_pre hK hN hP⟩ rfl rfl hl.1 rfl (lv_room (Nat.le_of_ble_eq_true rfl)) dX7_jumps_39 ⟨Nat.zero_le _, Nat.zero_le _⟩) hS (fun _ _ h => h) (fun _ h => h) (fun r39 _ t H locs ht hvm hw9 hB hz1 hk1 hS => ?_)
          have hP := ho_at ht hB
          have eq39 := hw9
          have hF := bnd_s eq39 hF
          refine lv_iconst (v := 1) hx hb dX7_jumps_42 (by decide) ?_
          refine lv_iadd hx hb dX7_jumps_43 ?_
          refine lv_aload_n hx hb dX7_jumps_44 rfl (lv_at hl 1 rfl) ?_
          refine lv_iload_n hx hb dX7_jumps_45 rfl (lv_at hl 2 rfl) ?_
          refine lv_iconst (v := 1) hx hb dX7_jumps_46 (by decide) ?_
          refine va_calli (va_runV (As := [.int a, .int 1]) (rest := [.int (r39 + 1), .int a, .ref (ad (279))]) ⟨hx, hb, hml, hown, hts⟩ (c7_of l hA σ u a 1 (vp_in_iff.mpr (by decide)) hba) (cwV 2 hts gX7_jumps_X7_of rfl rfl rfl hd_X7_ofV ⟨Nat.le_of_ble_eq_true rfl, Nat.le_of_ble_eq_true rfl⟩) ⟨hp_blind, va_recv hK hP (ci := 9) (q0 := 279) rfl c_279, hp_pre hK hN hP⟩ rfl rfl hl.1 rfl (lv_room (Nat.le_of_ble_eq_true rfl)) dX7_jumps_47 ⟨Nat.zero_le _, Nat.zero_le _⟩) hS (fun _ _ h => h) (fun _ h => h) (fun r47 _ t H locs ht hvm hw9 hB hz1 hk1 hS => ?_)
          have hP := ho_at ht hB
          have eq47 := hw9
          have hF := bnd_s eq47 hF
          refine va_calli (va_runV (As := [.int a, .int (r39 + 1), .int r47]) (rest := []) ⟨hx, hb, hml, hown, hts⟩ (c7_blocks l hA σ u a (r39 + 1) r47 hba) (cwV 3 hts gX7_jumps_X7_blocks rfl rfl rfl hd_X7_blocksV ⟨Nat.le_of_ble_eq_true rfl, Nat.le_of_ble_eq_true rfl⟩) ⟨hp_blind, va_recv hK hP (ci := 9) (q0 := 279) rfl c_279, hp_pre hK hN hP⟩ rfl rfl hl.1 rfl (lv_room (Nat.le_of_ble_eq_true rfl)) dX7_jumps_50 ⟨Nat.zero_le _, Nat.zero_le _⟩) hS (fun _ _ h => h) (fun _ h => h) (fun r50 _ t H locs ht hvm hw9 hB hz1 hk1 hS => ?_)
          have hP := ho_at ht hB
          obtain ⟨eq50, hb_r50⟩ := hw9
          have hF := bnd_s eq50 hF
          refine lv_if_eq (tgt := 60) hx hb dX7_jumps_53 (by decide) (fun c53 => ?_) (fun c53 => ?_)
          · have hF := ift c53 hF
            exact J60  _ _ ls hP hS (lv_sub hl [0, 1, 2, 3] rfl) hF
          · have hF := iff_ c53 hF
            refine lv_iconst (v := 1) hx hb dX7_jumps_56 (by decide) ?_
            refine lv_goto (tgt := 61) hx hb dX7_jumps_57 (by decide) ?_
            exact J61 1 _ _ ls bl1 hP hS (lv_sub hl [0, 1, 2, 3] rfl) hF
    refine lv_if_le (tgt := 24) hx hb dX7_jumps_17 (by decide) (fun c17 => ?_) (fun c17 => ?_)
    · have hF := ift c17 hF
      refine lv_iconst (v := 0) hx hb dX7_jumps_24 (by decide) ?_
      exact J25 0 _ _ ls bl0 hP hS (lv_sub hl [0, 1, 2] rfl) hF
    · have hF := iff_ c17 hF
      refine lv_iconst (v := 1) hx hb dX7_jumps_20 (by decide) ?_
      refine lv_goto (tgt := 25) hx hb dX7_jumps_21 (by decide) ?_
      exact J25 1 _ _ ls bl1 hP hS (lv_sub hl [0, 1, 2] rfl) hF
  · have hF := ift c6 hF
    refine lv_iconst (v := 0) hx hb dX7_jumps_9 (by decide) ?_
    exact W.zret (v := 0) hx hb hr (bl_nar bl0) (fun t ht hW => ⟨⟨0, u, rfl, ⟨hF.trans hFF, hO, bl0⟩, ho_of ht hP⟩, hS.F ht⟩) hS.2.2 dX7_jumps_10
theorem hd_X7_jumpsV : yX7_jumps.cls = RX7 ∧ yX7_jumps.cls ≠ "java/lang/invoke/MethodHandle" ∧ yX7_jumps.cls ≠ "java/lang/invoke/VarHandle" ∧ (parseMethodDescriptor yX7_jumps.desc).map (fun d => d.parameters.length) = some 2 := by decide +kernel
set_option maxHeartbeats 4000000 in
set_option maxRecDepth 100000 in
theorem c7_falls (l : Launch) {D : va_G} {G : CY} {ad : Nat → Nat} {B0 : Nat} (hA : adOK B0 ad) (σ : Nat → Nat → Int32) (u : Nat → Int32) (a : Int32) (b : Int32) (hO : okM u) (hba : vp_in a 4) : Met l yX7_falls wsX7_falls { frames := 5, cells := 0, slots := 0, locals := 113 } (va_Pc [.ref (ad (279)), .int a, .int b] (Hp D G ad (va_up σ 16 u))) (va_Qv (fun (z : Nat → Int32) => z = f7_falls u a b ∧ okM z) (fun (z : Nat → Int32) => Ho D G ad (va_up σ 16 z)) (AA B0)) 0 0 (AA B0) := by
  refine Met.ofW (cc := cX7_falls) (maxL := 4) (ret := none) (by decide) rfl ?_
  intro p e s m args below meth c s₁ B hml hv
  obtain ⟨rfl, hP, hK, hN⟩ := hv
  have hx := B.exec
  have hb := B.bytes
  have hr := B.returns
  have hts := atoms_spec (ws := wsX7_falls) B.pre
  have hown : s.vm.findClass RX7 = some m.cls := findClass_of_methodNamed B.named
  have hlocks := B.notSynchronized
  have hP : va_P D vwCl (pool G ad (va_up σ 16 u)) s.heap := hP
  have hS : va_S (AA B0) s.heap s.heap [] := va_S.rf
  have hl := lv_entry ([.ref (ad (279)), .int a, .int b]) (n := 4) (Nat.le_of_ble_eq_true rfl)
  rw [lg_entry_eq]
  generalize (lg_sl ([.ref (ad (279)), .int a, .int b]) ++ List.replicate (4 - (lg_sl ([.ref (ad (279)), .int a, .int b])).length) Slot.unset).toArray = ls at hl ⊢
  have hl : lv_has ls 4 [(0, .ref (ad (279))), (1, .int a), (2, .int b)] := hl
  obtain ⟨FF, hFF⟩ : ∃ z, z = f7_falls u a b := ⟨_, rfl⟩
  have hF := hFF.symm
  rw [f7_falls] at hF
  refine lv_aload_n hx hb dX7_falls_0 rfl (lv_at hl 0 rfl) ?_
  refine lv_iload_n hx hb dX7_falls_1 rfl (lv_at hl 1 rfl) ?_
  refine lv_iconst (v := 3) hx hb dX7_falls_2 (by decide) ?_
  refine va_calli (va_runV (As := [.int a, .int 3]) (rest := []) ⟨hx, hb, hml, hown, hts⟩ (c7_of l hA σ u a 3 (vp_in_iff.mpr (by decide)) hba) (cwV 2 hts gX7_falls_X7_of rfl rfl rfl hd_X7_ofV ⟨Nat.le_of_ble_eq_true rfl, Nat.le_of_ble_eq_true rfl⟩) ⟨hp_blind, va_recv hK hP (ci := 9) (q0 := 279) rfl c_279, hp_pre hK hN hP⟩ rfl rfl hl.1 rfl (lv_room (Nat.le_of_ble_eq_true rfl)) dX7_falls_3 ⟨Nat.zero_le _, Nat.zero_le _⟩) hS (fun _ _ h => h) (fun _ h => h) (fun r3 _ t H locs ht hvm hw9 hB hz1 hk1 hS => ?_)
  have hP := ho_at ht hB
  have eq3 := hw9
  have hF := bnd_s eq3 hF
  refine lv_iconst (v := 1) hx hb dX7_falls_6 (by decide) ?_
  refine lv_isub hx hb dX7_falls_7 ?_
  refine lv_topi (fun v3_8 e_v3_8 => ?_)
  have hF := bnd_s e_v3_8 hF
  refine lv_istore_n (lv' := [(3, .int v3_8), (0, .ref (ad (279))), (1, .int a), (2, .int b)]) hx hb dX7_falls_8 rfl hl (by decide) rfl (fun ls hl => ?_)
  refine lv_iload_n hx hb dX7_falls_9 rfl (lv_at hl 0 rfl) ?_
  refine lv_bipush (v := (-12)) hx hb dX7_falls_10 (by decide) ?_
  have J21 : ∀ (t0_21 : Int32) (H : Heap) (locs : List Loc) (ls : Array Slot), va_P D vwCl (pool G ad (va_up σ 16 u)) H → va_S (AA B0) s.heap H locs → lv_has ls 4 [(0, .ref (ad (279))), (1, .int a), (2, .int b)] → f7_falls_b21 u a b t0_21 = FF → W p l e (headSpec wsX7_falls { frames := 5, cells := 0, slots := 0, locals := 113 }).room s m ([.ref (ad (279)), .int a, .int b] : List Value).toArray below meth c H locs 0 0 (MQ below (va_Qv (fun (z : Nat → Int32) => z = f7_falls u a b ∧ okM z) (fun (z : Nat → Int32) => Ho D G ad (va_up σ 16 z)) (AA B0)) ([.ref (ad (279)), .int a, .int b] : List Value).toArray s 0 0 (AA B0)) (F0 m 21 ls [.int t0_21]) := by
    intro t0_21 H locs ls hP hS hl hF
    rw [f7_falls_b21] at hF
    refine lv_istore_n (lv' := [(3, .int t0_21), (0, .ref (ad (279))), (1, .int a), (2, .int b)]) hx hb dX7_falls_21 rfl hl (by decide) rfl (fun ls hl => ?_)
    refine lv_iload_n hx hb dX7_falls_22 rfl (lv_at hl 3 rfl) ?_
    have J57 : ∀ (w3_57 : Int32) (H : Heap) (locs : List Loc) (ls : Array Slot), va_P D vwCl (pool G ad (va_up σ 16 u)) H → va_S (AA B0) s.heap H locs → lv_has ls 4 [(3, .int w3_57), (0, .ref (ad (279))), (1, .int a)] → f7_falls_b57 u a w3_57 = FF → W p l e (headSpec wsX7_falls { frames := 5, cells := 0, slots := 0, locals := 113 }).room s m ([.ref (ad (279)), .int a, .int b] : List Value).toArray below meth c H locs 0 0 (MQ below (va_Qv (fun (z : Nat → Int32) => z = f7_falls u a b ∧ okM z) (fun (z : Nat → Int32) => Ho D G ad (va_up σ 16 z)) (AA B0)) ([.ref (ad (279)), .int a, .int b] : List Value).toArray s 0 0 (AA B0)) (F0 m 57 ls []) := by
      intro w3_57 H locs ls hP hS hl hF
      rw [f7_falls_b57] at hF
      refine lv_aload_n hx hb dX7_falls_57 rfl (lv_at hl 1 rfl) ?_
      refine lv_iload_n hx hb dX7_falls_58 rfl (lv_at hl 2 rfl) ?_
      refine lv_iconst (v := 3) hx hb dX7_falls_59 (by decide) ?_
      refine lv_iload_n hx hb dX7_falls_60 rfl (lv_at hl 0 rfl) ?_
      refine va_callv (va_runV (As := [.int a, .int 3, .int w3_57]) (rest := []) ⟨hx, hb, hml, hown, hts⟩ (c7_sets l hA σ u a 3 w3_57 hO (vp_in_iff.mpr (by decide)) hba) (cwV 3 hts gX7_falls_X7_sets rfl rfl rfl hd_X7_setsV ⟨Nat.le_of_ble_eq_true rfl, Nat.le_of_ble_eq_true rfl⟩) ⟨hp_blind, va_recv hK hP (ci := 9) (q0 := 279) rfl c_279, hp_pre hK hN hP⟩ rfl rfl hl.1 rfl (lv_room (Nat.le_of_ble_eq_true rfl)) dX7_falls_61 ⟨Nat.zero_le _, Nat.zero_le _⟩) hS (fun _ _ h => h) (fun _ h => h) (fun u9 t H locs ht hvm hw9 hB hz1 hk1 hS => ?_)
      have hP := ho_at ht hB
      obtain ⟨eq61, ok9⟩ := hw9
      obtain ⟨u61, e_u61⟩ : ∃ z, z = u9 := ⟨_, rfl⟩
      rw [← e_u61] at hP eq61 ok9
      have hO := ok9
      have hF := bnd_s eq61 hF
      exact W.vret hx hb hr (fun t ht hW => ⟨⟨u61, rfl, ⟨hF.trans hFF, hO⟩, ho_of ht hP⟩, hS.F ht⟩) hS.2.2 dX7_falls_64
    refine lv_if_eq (tgt := 57) hx hb dX7_falls_23 (by decide) (fun c23 => ?_) (fun c23 => ?_)
    · have hF := ift c23 hF
      exact J57 t0_21 _ _ ls hP hS (lv_sub hl [0, 1, 2] rfl) hF
    · have hF := iff_ c23 hF
      refine lv_iload_n hx hb dX7_falls_26 rfl (lv_at hl 0 rfl) ?_
      refine lv_bipush (v := (-3)) hx hb dX7_falls_27 (by decide) ?_
      refine lv_icmp_ge (tgt := 57) hx hb dX7_falls_29 (by decide) (fun c29 => ?_) (fun c29 => ?_)
      · have hF := ift c29 hF
        exact J57 t0_21 _ _ ls hP hS (lv_sub hl [0, 1, 2] rfl) hF
      · have hF := iff_ c29 hF
        refine lv_aload_n hx hb dX7_falls_32 rfl (lv_at hl 1 rfl) ?_
        refine lv_iload_n hx hb dX7_falls_33 rfl (lv_at hl 2 rfl) ?_
        refine lv_aload_n hx hb dX7_falls_34 rfl (lv_at hl 1 rfl) ?_
        refine lv_iload_n hx hb dX7_falls_35 rfl (lv_at hl 2 rfl) ?_
        refine lv_iconst (v := 0) hx hb dX7_falls_36 (by decide) ?_
        refine va_calli (va_runV (As := [.int a, .int 0]) (rest := [.int a, .ref (ad (279))]) ⟨hx, hb, hml, hown, hts⟩ (c7_of l hA σ u a 0 (vp_in_iff.mpr (by decide)) hba) (cwV 2 hts gX7_falls_X7_of rfl rfl rfl hd_X7_ofV ⟨Nat.le_of_ble_eq_true rfl, Nat.le_of_ble_eq_true rfl⟩) ⟨hp_blind, va_recv hK hP (ci := 9) (q0 := 279) rfl c_279, hp_pre hK hN hP⟩ rfl rfl hl.1 rfl (lv_room (Nat.le_of_ble_eq_true rfl)) dX7_falls_37 ⟨Nat.zero_le _, Nat.zero_le _⟩) hS (fun _ _ h => h) (fun _ h => h) (fun r37 _ t H locs ht hvm hw9 hB hz1 hk1 hS => ?_)
        have hP := ho_at ht hB
        have eq37 := hw9
        have hF := bnd_s eq37 hF
        refine lv_iload_n hx hb dX7_falls_40 rfl (lv_at hl 3 rfl) ?_
        refine lv_iadd hx hb dX7_falls_41 ?_
        refine lv_aload_n hx hb dX7_falls_42 rfl (lv_at hl 1 rfl) ?_
        refine lv_iload_n hx hb dX7_falls_43 rfl (lv_at hl 2 rfl) ?_
        refine lv_iconst (v := 1) hx hb dX7_falls_44 (by decide) ?_
        refine va_calli (va_runV (As := [.int a, .int 1]) (rest := [.int (r37 + b), .int a, .ref (ad (279))]) ⟨hx, hb, hml, hown, hts⟩ (c7_of l hA σ u a 1 (vp_in_iff.mpr (by decide)) hba) (cwV 2 hts gX7_falls_X7_of rfl rfl rfl hd_X7_ofV ⟨Nat.le_of_ble_eq_true rfl, Nat.le_of_ble_eq_true rfl⟩) ⟨hp_blind, va_recv hK hP (ci := 9) (q0 := 279) rfl c_279, hp_pre hK hN hP⟩ rfl rfl hl.1 rfl (lv_room (Nat.le_of_ble_eq_true rfl)) dX7_falls_45 ⟨Nat.zero_le _, Nat.zero_le _⟩) hS (fun _ _ h => h) (fun _ h => h) (fun r45 _ t H locs ht hvm hw9 hB hz1 hk1 hS => ?_)
        have hP := ho_at ht hB
        have eq45 := hw9
        have hF := bnd_s eq45 hF
        refine va_calli (va_runV (As := [.int a, .int (r37 + b), .int r45]) (rest := []) ⟨hx, hb, hml, hown, hts⟩ (c7_blocks l hA σ u a (r37 + b) r45 hba) (cwV 3 hts gX7_falls_X7_blocks rfl rfl rfl hd_X7_blocksV ⟨Nat.le_of_ble_eq_true rfl, Nat.le_of_ble_eq_true rfl⟩) ⟨hp_blind, va_recv hK hP (ci := 9) (q0 := 279) rfl c_279, hp_pre hK hN hP⟩ rfl rfl hl.1 rfl (lv_room (Nat.le_of_ble_eq_true rfl)) dX7_falls_48 ⟨Nat.zero_le _, Nat.zero_le _⟩) hS (fun _ _ h => h) (fun _ h => h) (fun r48 _ t H locs ht hvm hw9 hB hz1 hk1 hS => ?_)
        have hP := ho_at ht hB
        obtain ⟨eq48, hb_r48⟩ := hw9
        have hF := bnd_s eq48 hF
        refine lv_if_eq (tgt := 57) hx hb dX7_falls_51 (by decide) (fun c51 => ?_) (fun c51 => ?_)
        · have hF := ift c51 hF
          exact J57 t0_21 _ _ ls hP hS (lv_sub hl [0, 1, 2] rfl) hF
        · have hF := iff_ c51 hF
          refine lv_bipush (v := (-3)) hx hb dX7_falls_54 (by decide) ?_
          refine lv_istore_n (lv' := [(3, .int (-3)), (0, .ref (ad (279))), (1, .int a), (2, .int b)]) hx hb dX7_falls_56 rfl hl (by decide) rfl (fun ls hl => ?_)
          exact J57 (-3) _ _ ls hP hS (lv_sub hl [0, 1, 2] rfl) hF
  refine lv_icmp_ge (tgt := 20) hx hb dX7_falls_12 (by decide) (fun c12 => ?_) (fun c12 => ?_)
  · have hF := ift c12 hF
    refine lv_iload_n hx hb dX7_falls_20 rfl (lv_at hl 0 rfl) ?_
    exact J21 v3_8 _ _ ls hP hS (lv_sub hl [1, 2, 3] rfl) hF
  · have hF := iff_ c12 hF
    refine lv_bipush (v := (-12)) hx hb dX7_falls_15 (by decide) ?_
    refine lv_goto (tgt := 21) hx hb dX7_falls_17 (by decide) ?_
    exact J21 (-12) _ _ ls hP hS (lv_sub hl [1, 2, 3] rfl) hF
theorem hd_X7_fallsV : yX7_falls.cls = RX7 ∧ yX7_falls.cls ≠ "java/lang/invoke/MethodHandle" ∧ yX7_falls.cls ≠ "java/lang/invoke/VarHandle" ∧ (parseMethodDescriptor yX7_falls.desc).map (fun d => d.parameters.length) = some 2 := by decide +kernel
set_option maxHeartbeats 4000000 in
set_option maxRecDepth 100000 in
theorem c7_stepsAcross (l : Launch) {D : va_G} {G : CY} {ad : Nat → Nat} {B0 : Nat} (hA : adOK B0 ad) (σ : Nat → Nat → Int32) (u : Nat → Int32) (a : Int32) (b : Int32) (hO : okM u) (hba : vp_in a 4) : Met l yX7_stepsAcross wsX7_stepsAcross { frames := 9, cells := 0, slots := 0, locals := 211 } (va_Pc [.ref (ad (279)), .int a, .int b] (Hp D G ad (va_up σ 16 u))) (va_Qi (fun (r : Int32) (z : Nat → Int32) => (r, z) = f7_stepsAcross u a b ∧ okM z ∧ bl r) (fun (z : Nat → Int32) => Ho D G ad (va_up σ 16 z)) (AA B0)) 0 0 (AA B0) := by
  refine Met.ofW (cc := cX7_stepsAcross) (maxL := 4) (ret := (some .boolean)) (by decide) rfl ?_
  intro p e s m args below meth c s₁ B hml hv
  obtain ⟨rfl, hP, hK, hN⟩ := hv
  have hx := B.exec
  have hb := B.bytes
  have hr := B.returns
  have hts := atoms_spec (ws := wsX7_stepsAcross) B.pre
  have hown : s.vm.findClass RX7 = some m.cls := findClass_of_methodNamed B.named
  have hlocks := B.notSynchronized
  have hP : va_P D vwCl (pool G ad (va_up σ 16 u)) s.heap := hP
  have hS : va_S (AA B0) s.heap s.heap [] := va_S.rf
  have hl := lv_entry ([.ref (ad (279)), .int a, .int b]) (n := 4) (Nat.le_of_ble_eq_true rfl)
  rw [lg_entry_eq]
  generalize (lg_sl ([.ref (ad (279)), .int a, .int b]) ++ List.replicate (4 - (lg_sl ([.ref (ad (279)), .int a, .int b])).length) Slot.unset).toArray = ls at hl ⊢
  have hl : lv_has ls 4 [(0, .ref (ad (279))), (1, .int a), (2, .int b)] := hl
  obtain ⟨FF, hFF⟩ : ∃ z, z = f7_stepsAcross u a b := ⟨_, rfl⟩
  have hF := hFF.symm
  rw [f7_stepsAcross] at hF
  refine lv_aload_n hx hb dX7_stepsAcross_0 rfl (lv_at hl 0 rfl) ?_
  refine lv_iload_n hx hb dX7_stepsAcross_1 rfl (lv_at hl 1 rfl) ?_
  refine lv_iload_n hx hb dX7_stepsAcross_2 rfl (lv_at hl 2 rfl) ?_
  refine va_calli (va_runV (As := [.int a, .int b]) (rest := []) ⟨hx, hb, hml, hown, hts⟩ (c7_movesAcross l hA σ u a b hO hba) (cwV 2 hts gX7_stepsAcross_X7_movesAcross rfl rfl rfl hd_X7_movesAcrossV ⟨Nat.le_of_ble_eq_true rfl, Nat.le_of_ble_eq_true rfl⟩) ⟨hp_blind, va_recv hK hP (ci := 9) (q0 := 279) rfl c_279, hp_pre hK hN hP⟩ rfl rfl hl.1 rfl (lv_room (Nat.le_of_ble_eq_true rfl)) dX7_stepsAcross_3 ⟨Nat.zero_le _, Nat.zero_le _⟩) hS (fun _ _ h => h) (fun _ h => h) (fun r3 u9 t H locs ht hvm hw9 hB hz1 hk1 hS => ?_)
  have hP := ho_at ht hB
  obtain ⟨eq3, ok9, hb_r3⟩ := hw9
  obtain ⟨u3, e_u3⟩ : ∃ z, z = u9 := ⟨_, rfl⟩
  rw [← e_u3] at hP eq3 ok9
  have hO := ok9
  have hF := bnd2_s eq3 hF
  refine lv_istore_n (lv' := [(3, .int r3), (0, .ref (ad (279))), (1, .int a), (2, .int b)]) hx hb dX7_stepsAcross_6 rfl hl (by decide) rfl (fun ls hl => ?_)
  refine lv_aload_n hx hb dX7_stepsAcross_7 rfl (lv_at hl 1 rfl) ?_
  refine lv_iload_n hx hb dX7_stepsAcross_8 rfl (lv_at hl 2 rfl) ?_
  refine lv_bipush (v := 18) hx hb dX7_stepsAcross_9 (by decide) ?_
  refine lv_iload_n hx hb dX7_stepsAcross_11 rfl (lv_at hl 0 rfl) ?_
  refine lv_if_eq (tgt := 19) hx hb dX7_stepsAcross_12 (by decide) (fun c12 => ?_) (fun c12 => ?_)
  · have hF := ift c12 hF
    refine lv_iconst (v := 0) hx hb dX7_stepsAcross_19 (by decide) ?_
    refine va_callv (va_runV (As := [.int a, .int 18, .int 0]) (rest := []) ⟨hx, hb, hml, hown, hts⟩ (c7_adds l hA σ u3 a 18 0 hO (vp_in_iff.mpr (by decide)) hba) (cwV 3 hts gX7_stepsAcross_X7_adds rfl rfl rfl hd_X7_addsV ⟨Nat.le_of_ble_eq_true rfl, Nat.le_of_ble_eq_true rfl⟩) ⟨hp_blind, va_recv hK hP (ci := 9) (q0 := 279) rfl c_279, hp_pre hK hN hP⟩ rfl rfl hl.1 rfl (lv_room (Nat.le_of_ble_eq_true rfl)) dX7_stepsAcross_20 ⟨Nat.zero_le _, Nat.zero_le _⟩) hS (fun _ _ h => h) (fun _ h => h) (fun u9 t H locs ht hvm hw9 hB hz1 hk1 hS => ?_)
    have hP := ho_at ht hB
    obtain ⟨eq20, ok9⟩ := hw9
    obtain ⟨u20, e_u20⟩ : ∃ z, z = u9 := ⟨_, rfl⟩
    rw [← e_u20] at hP eq20 ok9
    have hO := ok9
    have hF := bnd_s eq20 hF
    refine lv_iload_n hx hb dX7_stepsAcross_23 rfl (lv_at hl 0 rfl) ?_
    exact W.zret (v := r3) hx hb hr (bl_nar hb_r3) (fun t ht hW => ⟨⟨r3, u20, rfl, ⟨hF.trans hFF, hO, hb_r3⟩, ho_of ht hP⟩, hS.F ht⟩) hS.2.2 dX7_stepsAcross_24
  · have hF := iff_ c12 hF
    refine lv_iconst (v := 1) hx hb dX7_stepsAcross_15 (by decide) ?_
    refine lv_goto (tgt := 20) hx hb dX7_stepsAcross_16 (by decide) ?_
    refine va_callv (va_runV (As := [.int a, .int 18, .int 1]) (rest := []) ⟨hx, hb, hml, hown, hts⟩ (c7_adds l hA σ u3 a 18 1 hO (vp_in_iff.mpr (by decide)) hba) (cwV 3 hts gX7_stepsAcross_X7_adds rfl rfl rfl hd_X7_addsV ⟨Nat.le_of_ble_eq_true rfl, Nat.le_of_ble_eq_true rfl⟩) ⟨hp_blind, va_recv hK hP (ci := 9) (q0 := 279) rfl c_279, hp_pre hK hN hP⟩ rfl rfl hl.1 rfl (lv_room (Nat.le_of_ble_eq_true rfl)) dX7_stepsAcross_20 ⟨Nat.zero_le _, Nat.zero_le _⟩) hS (fun _ _ h => h) (fun _ h => h) (fun u9 t H locs ht hvm hw9 hB hz1 hk1 hS => ?_)
    have hP := ho_at ht hB
    obtain ⟨eq20, ok9⟩ := hw9
    obtain ⟨u20, e_u20⟩ : ∃ z, z = u9 := ⟨_, rfl⟩
    rw [← e_u20] at hP eq20 ok9
    have hO := ok9
    have hF := bnd_s eq20 hF
    refine lv_iload_n hx hb dX7_stepsAcross_23 rfl (lv_at hl 0 rfl) ?_
    exact W.zret (v := r3) hx hb hr (bl_nar hb_r3) (fun t ht hW => ⟨⟨r3, u20, rfl, ⟨hF.trans hFF, hO, hb_r3⟩, ho_of ht hP⟩, hS.F ht⟩) hS.2.2 dX7_stepsAcross_24
theorem hd_X7_stepsAcrossV : yX7_stepsAcross.cls = RX7 ∧ yX7_stepsAcross.cls ≠ "java/lang/invoke/MethodHandle" ∧ yX7_stepsAcross.cls ≠ "java/lang/invoke/VarHandle" ∧ (parseMethodDescriptor yX7_stepsAcross.desc).map (fun d => d.parameters.length) = some 2 := by decide +kernel
set_option maxHeartbeats 4000000 in
set_option maxRecDepth 100000 in
theorem c7_goesAcross (l : Launch) {D : va_G} {G : CY} {ad : Nat → Nat} {B0 : Nat} (hA : adOK B0 ad) (σ : Nat → Nat → Int32) (u : Nat → Int32) (a : Int32) (hO : okM u) (hba : vp_in a 4) : Met l yX7_goesAcross wsX7_goesAcross { frames := 10, cells := 0, slots := 0, locals := 234 } (va_Pc [.ref (ad (279)), .int a] (Hp D G ad (va_up σ 16 u))) (va_Qv (fun (z : Nat → Int32) => z = f7_goesAcross u a ∧ okM z) (fun (z : Nat → Int32) => Ho D G ad (va_up σ 16 z)) (AA B0)) 0 0 (AA B0) := by
  refine Met.ofW (cc := cX7_goesAcross) (maxL := 4) (ret := none) (by decide) rfl ?_
  intro p e s m args below meth c s₁ B hml hv
  obtain ⟨rfl, hP, hK, hN⟩ := hv
  have hx := B.exec
  have hb := B.bytes
  have hr := B.returns
  have hts := atoms_spec (ws := wsX7_goesAcross) B.pre
  have hown : s.vm.findClass RX7 = some m.cls := findClass_of_methodNamed B.named
  have hlocks := B.notSynchronized
  have hP : va_P D vwCl (pool G ad (va_up σ 16 u)) s.heap := hP
  have hS : va_S (AA B0) s.heap s.heap [] := va_S.rf
  have hl := lv_entry ([.ref (ad (279)), .int a]) (n := 4) (Nat.le_of_ble_eq_true rfl)
  rw [lg_entry_eq]
  generalize (lg_sl ([.ref (ad (279)), .int a]) ++ List.replicate (4 - (lg_sl ([.ref (ad (279)), .int a])).length) Slot.unset).toArray = ls at hl ⊢
  have hl : lv_has ls 4 [(0, .ref (ad (279))), (1, .int a)] := hl
  obtain ⟨FF, hFF⟩ : ∃ z, z = f7_goesAcross u a := ⟨_, rfl⟩
  have hF := hFF.symm
  rw [f7_goesAcross] at hF
  refine lv_aload_n hx hb dX7_goesAcross_0 rfl (lv_at hl 0 rfl) ?_
  refine lv_iload_n hx hb dX7_goesAcross_1 rfl (lv_at hl 1 rfl) ?_
  refine lv_iconst (v := 2) hx hb dX7_goesAcross_2 (by decide) ?_
  refine va_calli (va_runV (As := [.int a, .int 2]) (rest := []) ⟨hx, hb, hml, hown, hts⟩ (c7_of l hA σ u a 2 (vp_in_iff.mpr (by decide)) hba) (cwV 2 hts gX7_goesAcross_X7_of rfl rfl rfl hd_X7_ofV ⟨Nat.le_of_ble_eq_true rfl, Nat.le_of_ble_eq_true rfl⟩) ⟨hp_blind, va_recv hK hP (ci := 9) (q0 := 279) rfl c_279, hp_pre hK hN hP⟩ rfl rfl hl.1 rfl (lv_room (Nat.le_of_ble_eq_true rfl)) dX7_goesAcross_3 ⟨Nat.zero_le _, Nat.zero_le _⟩) hS (fun _ _ h => h) (fun _ h => h) (fun r3 _ t H locs ht hvm hw9 hB hz1 hk1 hS => ?_)
  have hP := ho_at ht hB
  have eq3 := hw9
  have hF := bnd_s eq3 hF
  have J14 : ∀ (t0_14 : Int32) (H : Heap) (locs : List Loc) (ls : Array Slot), va_P D vwCl (pool G ad (va_up σ 16 u)) H → va_S (AA B0) s.heap H locs → lv_has ls 4 [(0, .ref (ad (279))), (1, .int a)] → f7_goesAcross_b14 u a t0_14 = FF → W p l e (headSpec wsX7_goesAcross { frames := 10, cells := 0, slots := 0, locals := 234 }).room s m ([.ref (ad (279)), .int a] : List Value).toArray below meth c H locs 0 0 (MQ below (va_Qv (fun (z : Nat → Int32) => z = f7_goesAcross u a ∧ okM z) (fun (z : Nat → Int32) => Ho D G ad (va_up σ 16 z)) (AA B0)) ([.ref (ad (279)), .int a] : List Value).toArray s 0 0 (AA B0)) (F0 m 14 ls [.int t0_14]) := by
    intro t0_14 H locs ls hP hS hl hF
    rw [f7_goesAcross_b14] at hF
    refine lv_istore_n (lv' := [(2, .int t0_14), (0, .ref (ad (279))), (1, .int a)]) hx hb dX7_goesAcross_14 rfl hl (by decide) rfl (fun ls hl => ?_)
    refine lv_aload_n hx hb dX7_goesAcross_15 rfl (lv_at hl 1 rfl) ?_
    refine lv_iload_n hx hb dX7_goesAcross_16 rfl (lv_at hl 2 rfl) ?_
    refine lv_iconst (v := 2) hx hb dX7_goesAcross_17 (by decide) ?_
    refine va_calli (va_runV (As := [.int a, .int 2]) (rest := []) ⟨hx, hb, hml, hown, hts⟩ (c7_of l hA σ u a 2 (vp_in_iff.mpr (by decide)) hba) (cwV 2 hts gX7_goesAcross_X7_of rfl rfl rfl hd_X7_ofV ⟨Nat.le_of_ble_eq_true rfl, Nat.le_of_ble_eq_true rfl⟩) ⟨hp_blind, va_recv hK hP (ci := 9) (q0 := 279) rfl c_279, hp_pre hK hN hP⟩ rfl rfl hl.1 rfl (lv_room (Nat.le_of_ble_eq_true rfl)) dX7_goesAcross_18 ⟨Nat.zero_le _, Nat.zero_le _⟩) hS (fun _ _ h => h) (fun _ h => h) (fun r18 _ t H locs ht hvm hw9 hB hz1 hk1 hS => ?_)
    have hP := ho_at ht hB
    have eq18 := hw9
    have hF := bnd_s eq18 hF
    refine lv_iload_n hx hb dX7_goesAcross_21 rfl (lv_at hl 0 rfl) ?_
    refine lv_imul hx hb dX7_goesAcross_22 ?_
    refine lv_topi (fun v3_23 e_v3_23 => ?_)
    have hF := bnd_s e_v3_23 hF
    refine lv_istore_n (lv' := [(3, .int v3_23), (2, .int t0_14), (0, .ref (ad (279))), (1, .int a)]) hx hb dX7_goesAcross_23 rfl hl (by decide) rfl (fun ls hl => ?_)
    have L24 : ∀ (n24 : Nat) (w3_24 : Int32) (u_24 : (Nat → Int32)) (H : Heap) (locs : List Loc) (ls : Array Slot), w3_24.toInt.toNat < n24 → okM u_24 → va_P D vwCl (pool G ad (va_up σ 16 u_24)) H → va_S (AA B0) s.heap H locs → lv_has ls 4 [(3, .int w3_24), (2, .int t0_14), (0, .ref (ad (279))), (1, .int a)] → f7_goesAcross_L24 a t0_14 n24 w3_24 u_24 = FF → W p l e (headSpec wsX7_goesAcross { frames := 10, cells := 0, slots := 0, locals := 234 }).room s m ([.ref (ad (279)), .int a] : List Value).toArray below meth c H locs 0 0 (MQ below (va_Qv (fun (z : Nat → Int32) => z = f7_goesAcross u a ∧ okM z) (fun (z : Nat → Int32) => Ho D G ad (va_up σ 16 z)) (AA B0)) ([.ref (ad (279)), .int a] : List Value).toArray s 0 0 (AA B0)) (F0 m 24 ls []) := by
      intro n24
      induction n24 with
      | zero => intro w3_24 u_24 H locs ls hm; exact absurd hm (Nat.not_lt_zero _)
      | succ n24 ih24 =>
        intro w3_24 u_24 H locs ls hm24 hO hP hS hl hF
        rw [f7_goesAcross_L24] at hF
        refine lv_iload_n hx hb dX7_goesAcross_24 rfl (lv_at hl 0 rfl) ?_
        refine lv_if_le (tgt := 54) hx hb dX7_goesAcross_25 (by decide) (fun c25 => ?_) (fun c25 => ?_)
        · have hF := ift c25 hF
          exact W.vret hx hb hr (fun t ht hW => ⟨⟨u_24, rfl, ⟨hF.trans hFF, hO⟩, ho_of ht hP⟩, hS.F ht⟩) hS.2.2 dX7_goesAcross_54
        · have hF := iff_ c25 hF
          refine lv_aload_n hx hb dX7_goesAcross_28 rfl (lv_at hl 2 rfl) ?_
          refine lv_iload_n hx hb dX7_goesAcross_29 rfl (lv_at hl 3 rfl) ?_
          refine lv_iload_n hx hb dX7_goesAcross_30 rfl (lv_at hl 1 rfl) ?_
          refine va_calli (va_runV (As := [.int a, .int t0_14]) (rest := []) ⟨hx, hb, hml, hown, hts⟩ (c7_stepsAcross l hA σ u_24 a t0_14 hO hba) (cwV 2 hts gX7_goesAcross_X7_stepsAcross rfl rfl rfl hd_X7_stepsAcrossV ⟨Nat.le_of_ble_eq_true rfl, Nat.le_of_ble_eq_true rfl⟩) ⟨hp_blind, va_recv hK hP (ci := 9) (q0 := 279) rfl c_279, hp_pre hK hN hP⟩ rfl rfl hl.1 rfl (lv_room (Nat.le_of_ble_eq_true rfl)) dX7_goesAcross_31 ⟨Nat.zero_le _, Nat.zero_le _⟩) hS (fun _ _ h => h) (fun _ h => h) (fun r31 u9 t H locs ht hvm hw9 hB hz1 hk1 hS => ?_)
          have hP := ho_at ht hB
          obtain ⟨eq31, ok9, hb_r31⟩ := hw9
          obtain ⟨u31, e_u31⟩ : ∃ z, z = u9 := ⟨_, rfl⟩
          rw [← e_u31] at hP eq31 ok9
          have hO := ok9
          have hF := bnd2_s eq31 hF
          refine lv_if_eq (tgt := 40) hx hb dX7_goesAcross_34 (by decide) (fun c34 => ?_) (fun c34 => ?_)
          · have hF := ift c34 hF
            refine lv_aload_n hx hb dX7_goesAcross_40 rfl (lv_at hl 2 rfl) ?_
            refine lv_iload_n hx hb dX7_goesAcross_41 rfl (lv_at hl 3 rfl) ?_
            refine lv_iconst (v := 2) hx hb dX7_goesAcross_42 (by decide) ?_
            refine lv_iconst (v := 0) hx hb dX7_goesAcross_43 (by decide) ?_
            refine va_callv (va_runV (As := [.int a, .int 2, .int 0]) (rest := []) ⟨hx, hb, hml, hown, hts⟩ (c7_sets l hA σ u31 a 2 0 hO (vp_in_iff.mpr (by decide)) hba) (cwV 3 hts gX7_goesAcross_X7_sets rfl rfl rfl hd_X7_setsV ⟨Nat.le_of_ble_eq_true rfl, Nat.le_of_ble_eq_true rfl⟩) ⟨hp_blind, va_recv hK hP (ci := 9) (q0 := 279) rfl c_279, hp_pre hK hN hP⟩ rfl rfl hl.1 rfl (lv_room (Nat.le_of_ble_eq_true rfl)) dX7_goesAcross_44 ⟨Nat.zero_le _, Nat.zero_le _⟩) hS (fun _ _ h => h) (fun _ h => h) (fun u9 t H locs ht hvm hw9 hB hz1 hk1 hS => ?_)
            have hP := ho_at ht hB
            obtain ⟨eq44, ok9⟩ := hw9
            obtain ⟨u44, e_u44⟩ : ∃ z, z = u9 := ⟨_, rfl⟩
            rw [← e_u44] at hP eq44 ok9
            have hO := ok9
            have hF := bnd_s eq44 hF
            exact W.vret hx hb hr (fun t ht hW => ⟨⟨u44, rfl, ⟨hF.trans hFF, hO⟩, ho_of ht hP⟩, hS.F ht⟩) hS.2.2 dX7_goesAcross_47
          · have hF := iff_ c34 hF
            refine lv_goto (tgt := 48) hx hb dX7_goesAcross_37 (by decide) ?_
            obtain ⟨v3_48, e_v3_48⟩ : ∃ z : Int32, z = w3_24 + (-1) := ⟨_, rfl⟩
            have hF := bnd_s e_v3_48 hF
            refine lv_iinc (v := v3_48) (lv' := [(3, .int v3_48), (2, .int t0_14), (0, .ref (ad (279))), (1, .int a)]) hx hb dX7_goesAcross_48 hl (k := 0) rfl (by rw [e_v3_48]; rfl) (by decide) rfl (fun ls hl => ?_)
            refine lv_goto (tgt := 24) hx hb dX7_goesAcross_51 (by decide) ?_
            exact ih24 v3_48 u31 _ _ ls (ms_s (dec_dn (nle_lt c25) e_v3_48) hm24) hO hP hS (lv_sub hl [0, 1, 2, 3] rfl) hF
    exact L24 BIG v3_23 u _ _ ls (big_dn _) hO hP hS (lv_sub hl [0, 1, 2, 3] rfl) hF
  refine lv_if_ge (tgt := 13) hx hb dX7_goesAcross_6 (by decide) (fun c6 => ?_) (fun c6 => ?_)
  · have hF := ift c6 hF
    refine lv_iconst (v := 1) hx hb dX7_goesAcross_13 (by decide) ?_
    exact J14 1 _ _ ls hP hS (lv_sub hl [0, 1] rfl) hF
  · have hF := iff_ c6 hF
    refine lv_iconst (v := (-1)) hx hb dX7_goesAcross_9 (by decide) ?_
    refine lv_goto (tgt := 14) hx hb dX7_goesAcross_10 (by decide) ?_
    exact J14 (-1) _ _ ls hP hS (lv_sub hl [0, 1] rfl) hF
theorem hd_X7_goesAcrossV : yX7_goesAcross.cls = RX7 ∧ yX7_goesAcross.cls ≠ "java/lang/invoke/MethodHandle" ∧ yX7_goesAcross.cls ≠ "java/lang/invoke/VarHandle" ∧ (parseMethodDescriptor yX7_goesAcross.desc).map (fun d => d.parameters.length) = some 1 := by decide +kernel
set_option maxHeartbeats 4000000 in
set_option maxRecDepth 100000 in
theorem c7_goesUp (l : Launch) {D : va_G} {G : CY} {ad : Nat → Nat} {B0 : Nat} (hA : adOK B0 ad) (σ : Nat → Nat → Int32) (u : Nat → Int32) (a : Int32) (hO : okM u) (hba : vp_in a 4) : Met l yX7_goesUp wsX7_goesUp { frames := 6, cells := 0, slots := 0, locals := 134 } (va_Pc [.ref (ad (279)), .int a] (Hp D G ad (va_up σ 16 u))) (va_Qv (fun (z : Nat → Int32) => z = f7_goesUp u a ∧ okM z) (fun (z : Nat → Int32) => Ho D G ad (va_up σ 16 z)) (AA B0)) 0 0 (AA B0) := by
  refine Met.ofW (cc := cX7_goesUp) (maxL := 3) (ret := none) (by decide) rfl ?_
  intro p e s m args below meth c s₁ B hml hv
  obtain ⟨rfl, hP, hK, hN⟩ := hv
  have hx := B.exec
  have hb := B.bytes
  have hr := B.returns
  have hts := atoms_spec (ws := wsX7_goesUp) B.pre
  have hown : s.vm.findClass RX7 = some m.cls := findClass_of_methodNamed B.named
  have hlocks := B.notSynchronized
  have hP : va_P D vwCl (pool G ad (va_up σ 16 u)) s.heap := hP
  have hS : va_S (AA B0) s.heap s.heap [] := va_S.rf
  have hl := lv_entry ([.ref (ad (279)), .int a]) (n := 3) (Nat.le_of_ble_eq_true rfl)
  rw [lg_entry_eq]
  generalize (lg_sl ([.ref (ad (279)), .int a]) ++ List.replicate (3 - (lg_sl ([.ref (ad (279)), .int a])).length) Slot.unset).toArray = ls at hl ⊢
  have hl : lv_has ls 3 [(0, .ref (ad (279))), (1, .int a)] := hl
  obtain ⟨FF, hFF⟩ : ∃ z, z = f7_goesUp u a := ⟨_, rfl⟩
  have hF := hFF.symm
  rw [f7_goesUp] at hF
  refine lv_aload_n hx hb dX7_goesUp_0 rfl (lv_at hl 0 rfl) ?_
  refine lv_iload_n hx hb dX7_goesUp_1 rfl (lv_at hl 1 rfl) ?_
  refine lv_iconst (v := 3) hx hb dX7_goesUp_2 (by decide) ?_
  refine va_calli (va_runV (As := [.int a, .int 3]) (rest := []) ⟨hx, hb, hml, hown, hts⟩ (c7_of l hA σ u a 3 (vp_in_iff.mpr (by decide)) hba) (cwV 2 hts gX7_goesUp_X7_of rfl rfl rfl hd_X7_ofV ⟨Nat.le_of_ble_eq_true rfl, Nat.le_of_ble_eq_true rfl⟩) ⟨hp_blind, va_recv hK hP (ci := 9) (q0 := 279) rfl c_279, hp_pre hK hN hP⟩ rfl rfl hl.1 rfl (lv_room (Nat.le_of_ble_eq_true rfl)) dX7_goesUp_3 ⟨Nat.zero_le _, Nat.zero_le _⟩) hS (fun _ _ h => h) (fun _ h => h) (fun r3 _ t H locs ht hvm hw9 hB hz1 hk1 hS => ?_)
  have hP := ho_at ht hB
  have eq3 := hw9
  have hF := bnd_s eq3 hF
  refine lv_istore_n (lv' := [(2, .int r3), (0, .ref (ad (279))), (1, .int a)]) hx hb dX7_goesUp_6 rfl hl (by decide) rfl (fun ls hl => ?_)
  have L7 : ∀ (n7 : Nat) (w2_7 : Int32) (u_7 : (Nat → Int32)) (H : Heap) (locs : List Loc) (ls : Array Slot), w2_7.toInt.toNat < n7 → okM u_7 → va_P D vwCl (pool G ad (va_up σ 16 u_7)) H → va_S (AA B0) s.heap H locs → lv_has ls 3 [(2, .int w2_7), (0, .ref (ad (279))), (1, .int a)] → f7_goesUp_L7 a n7 w2_7 u_7 = FF → W p l e (headSpec wsX7_goesUp { frames := 6, cells := 0, slots := 0, locals := 134 }).room s m ([.ref (ad (279)), .int a] : List Value).toArray below meth c H locs 0 0 (MQ below (va_Qv (fun (z : Nat → Int32) => z = f7_goesUp u a ∧ okM z) (fun (z : Nat → Int32) => Ho D G ad (va_up σ 16 z)) (AA B0)) ([.ref (ad (279)), .int a] : List Value).toArray s 0 0 (AA B0)) (F0 m 7 ls []) := by
    intro n7
    induction n7 with
    | zero => intro w2_7 u_7 H locs ls hm; exact absurd hm (Nat.not_lt_zero _)
    | succ n7 ih7 =>
      intro w2_7 u_7 H locs ls hm7 hO hP hS hl hF
      rw [f7_goesUp_L7] at hF
      refine lv_iload_n hx hb dX7_goesUp_7 rfl (lv_at hl 0 rfl) ?_
      refine lv_if_le (tgt := 41) hx hb dX7_goesUp_8 (by decide) (fun c8 => ?_) (fun c8 => ?_)
      · have hF := ift c8 hF
        exact W.vret hx hb hr (fun t ht hW => ⟨⟨u_7, rfl, ⟨hF.trans hFF, hO⟩, ho_of ht hP⟩, hS.F ht⟩) hS.2.2 dX7_goesUp_41
      · have hF := iff_ c8 hF
        refine lv_aload_n hx hb dX7_goesUp_11 rfl (lv_at hl 1 rfl) ?_
        refine lv_iload_n hx hb dX7_goesUp_12 rfl (lv_at hl 2 rfl) ?_
        refine va_calli (va_runV (As := [.int a]) (rest := []) ⟨hx, hb, hml, hown, hts⟩ (c7_movesUp l hA σ u_7 a hO hba) (cwV 1 hts gX7_goesUp_X7_movesUp rfl rfl rfl hd_X7_movesUpV ⟨Nat.le_of_ble_eq_true rfl, Nat.le_of_ble_eq_true rfl⟩) ⟨hp_blind, va_recv hK hP (ci := 9) (q0 := 279) rfl c_279, hp_pre hK hN hP⟩ rfl rfl hl.1 rfl (lv_room (Nat.le_of_ble_eq_true rfl)) dX7_goesUp_13 ⟨Nat.zero_le _, Nat.zero_le _⟩) hS (fun _ _ h => h) (fun _ h => h) (fun r13 u9 t H locs ht hvm hw9 hB hz1 hk1 hS => ?_)
        have hP := ho_at ht hB
        obtain ⟨eq13, ok9, hb_r13⟩ := hw9
        obtain ⟨u13, e_u13⟩ : ∃ z, z = u9 := ⟨_, rfl⟩
        rw [← e_u13] at hP eq13 ok9
        have hO := ok9
        have hF := bnd2_s eq13 hF
        refine lv_if_ne (tgt := 27) hx hb dX7_goesUp_16 (by decide) (fun c16 => ?_) (fun c16 => ?_)
        · have hF := iff_ c16 hF
          refine lv_aload_n hx hb dX7_goesUp_27 rfl (lv_at hl 1 rfl) ?_
          refine lv_iload_n hx hb dX7_goesUp_28 rfl (lv_at hl 2 rfl) ?_
          refine lv_bipush (v := 18) hx hb dX7_goesUp_29 (by decide) ?_
          refine lv_iconst (v := 1) hx hb dX7_goesUp_31 (by decide) ?_
          refine va_callv (va_runV (As := [.int a, .int 18, .int 1]) (rest := []) ⟨hx, hb, hml, hown, hts⟩ (c7_adds l hA σ u13 a 18 1 hO (vp_in_iff.mpr (by decide)) hba) (cwV 3 hts gX7_goesUp_X7_adds rfl rfl rfl hd_X7_addsV ⟨Nat.le_of_ble_eq_true rfl, Nat.le_of_ble_eq_true rfl⟩) ⟨hp_blind, va_recv hK hP (ci := 9) (q0 := 279) rfl c_279, hp_pre hK hN hP⟩ rfl rfl hl.1 rfl (lv_room (Nat.le_of_ble_eq_true rfl)) dX7_goesUp_32 ⟨Nat.zero_le _, Nat.zero_le _⟩) hS (fun _ _ h => h) (fun _ h => h) (fun u9 t H locs ht hvm hw9 hB hz1 hk1 hS => ?_)
          have hP := ho_at ht hB
          obtain ⟨eq32, ok9⟩ := hw9
          obtain ⟨u32, e_u32⟩ : ∃ z, z = u9 := ⟨_, rfl⟩
          rw [← e_u32] at hP eq32 ok9
          have hO := ok9
          have hF := bnd_s eq32 hF
          obtain ⟨v2_35, e_v2_35⟩ : ∃ z : Int32, z = w2_7 + (-1) := ⟨_, rfl⟩
          have hF := bnd_s e_v2_35 hF
          refine lv_iinc (v := v2_35) (lv' := [(2, .int v2_35), (0, .ref (ad (279))), (1, .int a)]) hx hb dX7_goesUp_35 hl (k := 0) rfl (by rw [e_v2_35]; rfl) (by decide) rfl (fun ls hl => ?_)
          refine lv_goto (tgt := 7) hx hb dX7_goesUp_38 (by decide) ?_
          exact ih7 v2_35 u32 _ _ ls (ms_s (dec_dn (nle_lt c8) e_v2_35) hm7) hO hP hS (lv_sub hl [0, 1, 2] rfl) hF
        · have hF := ift c16 hF
          refine lv_aload_n hx hb dX7_goesUp_19 rfl (lv_at hl 1 rfl) ?_
          refine lv_iload_n hx hb dX7_goesUp_20 rfl (lv_at hl 2 rfl) ?_
          refine lv_iconst (v := 3) hx hb dX7_goesUp_21 (by decide) ?_
          refine lv_iconst (v := 0) hx hb dX7_goesUp_22 (by decide) ?_
          refine va_callv (va_runV (As := [.int a, .int 3, .int 0]) (rest := []) ⟨hx, hb, hml, hown, hts⟩ (c7_sets l hA σ u13 a 3 0 hO (vp_in_iff.mpr (by decide)) hba) (cwV 3 hts gX7_goesUp_X7_sets rfl rfl rfl hd_X7_setsV ⟨Nat.le_of_ble_eq_true rfl, Nat.le_of_ble_eq_true rfl⟩) ⟨hp_blind, va_recv hK hP (ci := 9) (q0 := 279) rfl c_279, hp_pre hK hN hP⟩ rfl rfl hl.1 rfl (lv_room (Nat.le_of_ble_eq_true rfl)) dX7_goesUp_23 ⟨Nat.zero_le _, Nat.zero_le _⟩) hS (fun _ _ h => h) (fun _ h => h) (fun u9 t H locs ht hvm hw9 hB hz1 hk1 hS => ?_)
          have hP := ho_at ht hB
          obtain ⟨eq23, ok9⟩ := hw9
          obtain ⟨u23, e_u23⟩ : ∃ z, z = u9 := ⟨_, rfl⟩
          rw [← e_u23] at hP eq23 ok9
          have hO := ok9
          have hF := bnd_s eq23 hF
          exact W.vret hx hb hr (fun t ht hW => ⟨⟨u23, rfl, ⟨hF.trans hFF, hO⟩, ho_of ht hP⟩, hS.F ht⟩) hS.2.2 dX7_goesUp_26
  exact L7 BIG r3 u _ _ ls (big_dn _) hO hP hS (lv_sub hl [0, 1, 2] rfl) hF
theorem hd_X7_goesUpV : yX7_goesUp.cls = RX7 ∧ yX7_goesUp.cls ≠ "java/lang/invoke/MethodHandle" ∧ yX7_goesUp.cls ≠ "java/lang/invoke/VarHandle" ∧ (parseMethodDescriptor yX7_goesUp.desc).map (fun d => d.parameters.length) = some 1 := by decide +kernel
set_option maxHeartbeats 4000000 in
set_option maxRecDepth 100000 in
theorem c7_goesDown (l : Launch) {D : va_G} {G : CY} {ad : Nat → Nat} {B0 : Nat} (hA : adOK B0 ad) (σ : Nat → Nat → Int32) (u : Nat → Int32) (a : Int32) (hO : okM u) (hba : vp_in a 4) : Met l yX7_goesDown wsX7_goesDown { frames := 9, cells := 0, slots := 0, locals := 205 } (va_Pc [.ref (ad (279)), .int a] (Hp D G ad (va_up σ 16 u))) (va_Qv (fun (z : Nat → Int32) => z = f7_goesDown u a ∧ okM z) (fun (z : Nat → Int32) => Ho D G ad (va_up σ 16 z)) (AA B0)) 0 0 (AA B0) := by
  refine Met.ofW (cc := cX7_goesDown) (maxL := 4) (ret := none) (by decide) rfl ?_
  intro p e s m args below meth c s₁ B hml hv
  obtain ⟨rfl, hP, hK, hN⟩ := hv
  have hx := B.exec
  have hb := B.bytes
  have hr := B.returns
  have hts := atoms_spec (ws := wsX7_goesDown) B.pre
  have hown : s.vm.findClass RX7 = some m.cls := findClass_of_methodNamed B.named
  have hlocks := B.notSynchronized
  have hP : va_P D vwCl (pool G ad (va_up σ 16 u)) s.heap := hP
  have hS : va_S (AA B0) s.heap s.heap [] := va_S.rf
  have hl := lv_entry ([.ref (ad (279)), .int a]) (n := 4) (Nat.le_of_ble_eq_true rfl)
  rw [lg_entry_eq]
  generalize (lg_sl ([.ref (ad (279)), .int a]) ++ List.replicate (4 - (lg_sl ([.ref (ad (279)), .int a])).length) Slot.unset).toArray = ls at hl ⊢
  have hl : lv_has ls 4 [(0, .ref (ad (279))), (1, .int a)] := hl
  obtain ⟨FF, hFF⟩ : ∃ z, z = f7_goesDown u a := ⟨_, rfl⟩
  have hF := hFF.symm
  rw [f7_goesDown] at hF
  refine lv_aload_n hx hb dX7_goesDown_0 rfl (lv_at hl 0 rfl) ?_
  refine lv_iload_n hx hb dX7_goesDown_1 rfl (lv_at hl 1 rfl) ?_
  refine lv_iconst (v := 3) hx hb dX7_goesDown_2 (by decide) ?_
  refine va_calli (va_runV (As := [.int a, .int 3]) (rest := []) ⟨hx, hb, hml, hown, hts⟩ (c7_of l hA σ u a 3 (vp_in_iff.mpr (by decide)) hba) (cwV 2 hts gX7_goesDown_X7_of rfl rfl rfl hd_X7_ofV ⟨Nat.le_of_ble_eq_true rfl, Nat.le_of_ble_eq_true rfl⟩) ⟨hp_blind, va_recv hK hP (ci := 9) (q0 := 279) rfl c_279, hp_pre hK hN hP⟩ rfl rfl hl.1 rfl (lv_room (Nat.le_of_ble_eq_true rfl)) dX7_goesDown_3 ⟨Nat.zero_le _, Nat.zero_le _⟩) hS (fun _ _ h => h) (fun _ h => h) (fun r3 _ t H locs ht hvm hw9 hB hz1 hk1 hS => ?_)
  have hP := ho_at ht hB
  have eq3 := hw9
  have hF := bnd_s eq3 hF
  refine lv_ineg hx hb dX7_goesDown_6 ?_
  refine lv_istore_n (lv' := [(2, .int (-r3)), (0, .ref (ad (279))), (1, .int a)]) hx hb dX7_goesDown_7 rfl hl (by decide) rfl (fun ls hl => ?_)
  have L8 : ∀ (n8 : Nat) (w2_8 : Int32) (u_8 : (Nat → Int32)) (H : Heap) (locs : List Loc) (ls : Array Slot), w2_8.toInt.toNat < n8 → okM u_8 → va_P D vwCl (pool G ad (va_up σ 16 u_8)) H → va_S (AA B0) s.heap H locs → lv_has ls 4 [(2, .int w2_8), (0, .ref (ad (279))), (1, .int a)] → f7_goesDown_L8 a n8 w2_8 u_8 = FF → W p l e (headSpec wsX7_goesDown { frames := 9, cells := 0, slots := 0, locals := 205 }).room s m ([.ref (ad (279)), .int a] : List Value).toArray below meth c H locs 0 0 (MQ below (va_Qv (fun (z : Nat → Int32) => z = f7_goesDown u a ∧ okM z) (fun (z : Nat → Int32) => Ho D G ad (va_up σ 16 z)) (AA B0)) ([.ref (ad (279)), .int a] : List Value).toArray s 0 0 (AA B0)) (F0 m 8 ls []) := by
    intro n8
    induction n8 with
    | zero => intro w2_8 u_8 H locs ls hm; exact absurd hm (Nat.not_lt_zero _)
    | succ n8 ih8 =>
      intro w2_8 u_8 H locs ls hm8 hO hP hS hl hF
      rw [f7_goesDown_L8] at hF
      refine lv_iload_n hx hb dX7_goesDown_8 rfl (lv_at hl 0 rfl) ?_
      refine lv_if_le (tgt := 91) hx hb dX7_goesDown_9 (by decide) (fun c9 => ?_) (fun c9 => ?_)
      · have hF := ift c9 hF
        exact W.vret hx hb hr (fun t ht hW => ⟨⟨u_8, rfl, ⟨hF.trans hFF, hO⟩, ho_of ht hP⟩, hS.F ht⟩) hS.2.2 dX7_goesDown_91
      · have hF := iff_ c9 hF
        refine lv_aload_n hx hb dX7_goesDown_12 rfl (lv_at hl 1 rfl) ?_
        refine lv_iload_n hx hb dX7_goesDown_13 rfl (lv_at hl 2 rfl) ?_
        refine va_calli (va_runV (As := [.int a]) (rest := []) ⟨hx, hb, hml, hown, hts⟩ (c7_movesDown l hA σ u_8 a hO hba) (cwV 1 hts gX7_goesDown_X7_movesDown rfl rfl rfl hd_X7_movesDownV ⟨Nat.le_of_ble_eq_true rfl, Nat.le_of_ble_eq_true rfl⟩) ⟨hp_blind, va_recv hK hP (ci := 9) (q0 := 279) rfl c_279, hp_pre hK hN hP⟩ rfl rfl hl.1 rfl (lv_room (Nat.le_of_ble_eq_true rfl)) dX7_goesDown_14 ⟨Nat.zero_le _, Nat.zero_le _⟩) hS (fun _ _ h => h) (fun _ h => h) (fun r14 u9 t H locs ht hvm hw9 hB hz1 hk1 hS => ?_)
        have hP := ho_at ht hB
        obtain ⟨eq14, ok9, hb_r14⟩ := hw9
        obtain ⟨u14, e_u14⟩ : ∃ z, z = u9 := ⟨_, rfl⟩
        rw [← e_u14] at hP eq14 ok9
        have hO := ok9
        have hF := bnd2_s eq14 hF
        refine lv_if_ne (tgt := 77) hx hb dX7_goesDown_17 (by decide) (fun c17 => ?_) (fun c17 => ?_)
        · have hF := iff_ c17 hF
          refine lv_aload_n hx hb dX7_goesDown_77 rfl (lv_at hl 1 rfl) ?_
          refine lv_iload_n hx hb dX7_goesDown_78 rfl (lv_at hl 2 rfl) ?_
          refine lv_bipush (v := 18) hx hb dX7_goesDown_79 (by decide) ?_
          refine lv_iconst (v := 1) hx hb dX7_goesDown_81 (by decide) ?_
          refine va_callv (va_runV (As := [.int a, .int 18, .int 1]) (rest := []) ⟨hx, hb, hml, hown, hts⟩ (c7_adds l hA σ u14 a 18 1 hO (vp_in_iff.mpr (by decide)) hba) (cwV 3 hts gX7_goesDown_X7_adds rfl rfl rfl hd_X7_addsV ⟨Nat.le_of_ble_eq_true rfl, Nat.le_of_ble_eq_true rfl⟩) ⟨hp_blind, va_recv hK hP (ci := 9) (q0 := 279) rfl c_279, hp_pre hK hN hP⟩ rfl rfl hl.1 rfl (lv_room (Nat.le_of_ble_eq_true rfl)) dX7_goesDown_82 ⟨Nat.zero_le _, Nat.zero_le _⟩) hS (fun _ _ h => h) (fun _ h => h) (fun u9 t H locs ht hvm hw9 hB hz1 hk1 hS => ?_)
          have hP := ho_at ht hB
          obtain ⟨eq82, ok9⟩ := hw9
          obtain ⟨u82, e_u82⟩ : ∃ z, z = u9 := ⟨_, rfl⟩
          rw [← e_u82] at hP eq82 ok9
          have hO := ok9
          have hF := bnd_s eq82 hF
          obtain ⟨v2_85, e_v2_85⟩ : ∃ z : Int32, z = w2_8 + (-1) := ⟨_, rfl⟩
          have hF := bnd_s e_v2_85 hF
          refine lv_iinc (v := v2_85) (lv' := [(2, .int v2_85), (0, .ref (ad (279))), (1, .int a)]) hx hb dX7_goesDown_85 hl (k := 0) rfl (by rw [e_v2_85]; rfl) (by decide) rfl (fun ls hl => ?_)
          refine lv_goto (tgt := 8) hx hb dX7_goesDown_88 (by decide) ?_
          exact ih8 v2_85 u82 _ _ ls (ms_s (dec_dn (nle_lt c9) e_v2_85) hm8) hO hP hS (lv_sub hl [0, 1, 2] rfl) hF
        · have hF := ift c17 hF
          refine lv_aload_n hx hb dX7_goesDown_20 rfl (lv_at hl 1 rfl) ?_
          refine lv_iload_n hx hb dX7_goesDown_21 rfl (lv_at hl 2 rfl) ?_
          refine lv_aload_n hx hb dX7_goesDown_22 rfl (lv_at hl 1 rfl) ?_
          refine lv_iload_n hx hb dX7_goesDown_23 rfl (lv_at hl 2 rfl) ?_
          refine lv_iconst (v := 0) hx hb dX7_goesDown_24 (by decide) ?_
          refine va_calli (va_runV (As := [.int a, .int 0]) (rest := [.int a, .ref (ad (279))]) ⟨hx, hb, hml, hown, hts⟩ (c7_of l hA σ u14 a 0 (vp_in_iff.mpr (by decide)) hba) (cwV 2 hts gX7_goesDown_X7_of rfl rfl rfl hd_X7_ofV ⟨Nat.le_of_ble_eq_true rfl, Nat.le_of_ble_eq_true rfl⟩) ⟨hp_blind, va_recv hK hP (ci := 9) (q0 := 279) rfl c_279, hp_pre hK hN hP⟩ rfl rfl hl.1 rfl (lv_room (Nat.le_of_ble_eq_true rfl)) dX7_goesDown_25 ⟨Nat.zero_le _, Nat.zero_le _⟩) hS (fun _ _ h => h) (fun _ h => h) (fun r25 _ t H locs ht hvm hw9 hB hz1 hk1 hS => ?_)
          have hP := ho_at ht hB
          have eq25 := hw9
          have hF := bnd_s eq25 hF
          refine lv_aload_n hx hb dX7_goesDown_28 rfl (lv_at hl 1 rfl) ?_
          refine lv_iload_n hx hb dX7_goesDown_29 rfl (lv_at hl 2 rfl) ?_
          refine lv_iconst (v := 1) hx hb dX7_goesDown_30 (by decide) ?_
          refine va_calli (va_runV (As := [.int a, .int 1]) (rest := [.int r25, .int a, .ref (ad (279))]) ⟨hx, hb, hml, hown, hts⟩ (c7_of l hA σ u14 a 1 (vp_in_iff.mpr (by decide)) hba) (cwV 2 hts gX7_goesDown_X7_of rfl rfl rfl hd_X7_ofV ⟨Nat.le_of_ble_eq_true rfl, Nat.le_of_ble_eq_true rfl⟩) ⟨hp_blind, va_recv hK hP (ci := 9) (q0 := 279) rfl c_279, hp_pre hK hN hP⟩ rfl rfl hl.1 rfl (lv_room (Nat.le_of_ble_eq_true rfl)) dX7_goesDown_31 ⟨Nat.zero_le _, Nat.zero_le _⟩) hS (fun _ _ h => h) (fun _ h => h) (fun r31 _ t H locs ht hvm hw9 hB hz1 hk1 hS => ?_)
          have hP := ho_at ht hB
          have eq31 := hw9
          have hF := bnd_s eq31 hF
          refine va_calli (va_runV (As := [.int a, .int r25, .int r31]) (rest := []) ⟨hx, hb, hml, hown, hts⟩ (c7_firmBelow l hA σ u14 a r25 r31 hba) (cwV 3 hts gX7_goesDown_X7_firmBelow rfl rfl rfl hd_X7_firmBelowV ⟨Nat.le_of_ble_eq_true rfl, Nat.le_of_ble_eq_true rfl⟩) ⟨hp_blind, va_recv hK hP (ci := 9) (q0 := 279) rfl c_279, hp_pre hK hN hP⟩ rfl rfl hl.1 rfl (lv_room (Nat.le_of_ble_eq_true rfl)) dX7_goesDown_34 ⟨Nat.zero_le _, Nat.zero_le _⟩) hS (fun _ _ h => h) (fun _ h => h) (fun r34 _ t H locs ht hvm hw9 hB hz1 hk1 hS => ?_)
          have hP := ho_at ht hB
          have eq34 := hw9
          have hF := bnd_s eq34 hF
          refine lv_bipush (v := 8) hx hb dX7_goesDown_37 (by decide) ?_
          refine lv_ishr hx hb dX7_goesDown_39 ?_
          refine lv_iconst (v := 1) hx hb dX7_goesDown_40 (by decide) ?_
          refine lv_iand hx hb dX7_goesDown_41 ?_
          refine lv_iconst (v := 1) hx hb dX7_goesDown_42 (by decide) ?_
          have J51 : ∀ (t0_51 : Int32) (H : Heap) (locs : List Loc) (ls : Array Slot), bl t0_51 → va_P D vwCl (pool G ad (va_up σ 16 u14)) H → va_S (AA B0) s.heap H locs → lv_has ls 4 [(0, .ref (ad (279))), (1, .int a)] → f7_goesDown_b51 a u14 t0_51 = FF → W p l e (headSpec wsX7_goesDown { frames := 9, cells := 0, slots := 0, locals := 205 }).room s m ([.ref (ad (279)), .int a] : List Value).toArray below meth c H locs 0 0 (MQ below (va_Qv (fun (z : Nat → Int32) => z = f7_goesDown u a ∧ okM z) (fun (z : Nat → Int32) => Ho D G ad (va_up σ 16 z)) (AA B0)) ([.ref (ad (279)), .int a] : List Value).toArray s 0 0 (AA B0)) (F0 m 51 ls [.int t0_51]) := by
            intro t0_51 H locs ls hb_t0_51 hP hS hl hF
            rw [f7_goesDown_b51] at hF
            refine lv_istore_n (lv' := [(3, .int t0_51), (0, .ref (ad (279))), (1, .int a)]) hx hb dX7_goesDown_51 rfl hl (by decide) rfl (fun ls hl => ?_)
            refine lv_aload_n hx hb dX7_goesDown_52 rfl (lv_at hl 1 rfl) ?_
            refine lv_iload_n hx hb dX7_goesDown_53 rfl (lv_at hl 2 rfl) ?_
            refine lv_iconst (v := 3) hx hb dX7_goesDown_54 (by decide) ?_
            refine lv_iload_n hx hb dX7_goesDown_55 rfl (lv_at hl 0 rfl) ?_
            have J65 : ∀ (t0_65 : Int32) (H : Heap) (locs : List Loc) (ls : Array Slot), va_P D vwCl (pool G ad (va_up σ 16 u14)) H → va_S (AA B0) s.heap H locs → lv_has ls 4 [(0, .ref (ad (279))), (1, .int a)] → f7_goesDown_b65 a u14 t0_65 = FF → W p l e (headSpec wsX7_goesDown { frames := 9, cells := 0, slots := 0, locals := 205 }).room s m ([.ref (ad (279)), .int a] : List Value).toArray below meth c H locs 0 0 (MQ below (va_Qv (fun (z : Nat → Int32) => z = f7_goesDown u a ∧ okM z) (fun (z : Nat → Int32) => Ho D G ad (va_up σ 16 z)) (AA B0)) ([.ref (ad (279)), .int a] : List Value).toArray s 0 0 (AA B0)) (F0 m 65 ls [.int t0_65, .int 3, .int a, .ref (ad (279))]) := by
              intro t0_65 H locs ls hP hS hl hF
              rw [f7_goesDown_b65] at hF
              refine va_callv (va_runV (As := [.int a, .int 3, .int t0_65]) (rest := []) ⟨hx, hb, hml, hown, hts⟩ (c7_sets l hA σ u14 a 3 t0_65 hO (vp_in_iff.mpr (by decide)) hba) (cwV 3 hts gX7_goesDown_X7_sets rfl rfl rfl hd_X7_setsV ⟨Nat.le_of_ble_eq_true rfl, Nat.le_of_ble_eq_true rfl⟩) ⟨hp_blind, va_recv hK hP (ci := 9) (q0 := 279) rfl c_279, hp_pre hK hN hP⟩ rfl rfl hl.1 rfl (lv_room (Nat.le_of_ble_eq_true rfl)) dX7_goesDown_65 ⟨Nat.zero_le _, Nat.zero_le _⟩) hS (fun _ _ h => h) (fun _ h => h) (fun u9 t H locs ht hvm hw9 hB hz1 hk1 hS => ?_)
              have hP := ho_at ht hB
              obtain ⟨eq65, ok9⟩ := hw9
              obtain ⟨u65, e_u65⟩ : ∃ z, z = u9 := ⟨_, rfl⟩
              rw [← e_u65] at hP eq65 ok9
              have hO := ok9
              have hF := bnd_s eq65 hF
              refine lv_aload_n hx hb dX7_goesDown_68 rfl (lv_at hl 0 rfl) ?_
              refine lv_iload_n hx hb dX7_goesDown_69 rfl (lv_at hl 1 rfl) ?_
              refine lv_bipush (v := 17) hx hb dX7_goesDown_70 (by decide) ?_
              refine lv_iconst (v := 1) hx hb dX7_goesDown_72 (by decide) ?_
              refine va_callv (va_runV (As := [.int a, .int 17, .int 1]) (rest := []) ⟨hx, hb, hml, hown, hts⟩ (c7_adds l hA σ u65 a 17 1 hO (vp_in_iff.mpr (by decide)) hba) (cwV 3 hts gX7_goesDown_X7_adds rfl rfl rfl hd_X7_addsV ⟨Nat.le_of_ble_eq_true rfl, Nat.le_of_ble_eq_true rfl⟩) ⟨hp_blind, va_recv hK hP (ci := 9) (q0 := 279) rfl c_279, hp_pre hK hN hP⟩ rfl rfl hl.1 rfl (lv_room (Nat.le_of_ble_eq_true rfl)) dX7_goesDown_73 ⟨Nat.zero_le _, Nat.zero_le _⟩) hS (fun _ _ h => h) (fun _ h => h) (fun u9 t H locs ht hvm hw9 hB hz1 hk1 hS => ?_)
              have hP := ho_at ht hB
              obtain ⟨eq73, ok9⟩ := hw9
              obtain ⟨u73, e_u73⟩ : ∃ z, z = u9 := ⟨_, rfl⟩
              rw [← e_u73] at hP eq73 ok9
              have hO := ok9
              have hF := bnd_s eq73 hF
              exact W.vret hx hb hr (fun t ht hW => ⟨⟨u73, rfl, ⟨hF.trans hFF, hO⟩, ho_of ht hP⟩, hS.F ht⟩) hS.2.2 dX7_goesDown_76
            refine lv_if_eq (tgt := 64) hx hb dX7_goesDown_56 (by decide) (fun c56 => ?_) (fun c56 => ?_)
            · have hF := ift c56 hF
              refine lv_iconst (v := 0) hx hb dX7_goesDown_64 (by decide) ?_
              exact J65 0 _ _ ls hP hS (lv_sub hl [1, 2] rfl) hF
            · have hF := iff_ c56 hF
              refine lv_bipush (v := 16) hx hb dX7_goesDown_59 (by decide) ?_
              refine lv_goto (tgt := 65) hx hb dX7_goesDown_61 (by decide) ?_
              exact J65 16 _ _ ls hP hS (lv_sub hl [1, 2] rfl) hF
          refine lv_icmp_ne (tgt := 50) hx hb dX7_goesDown_43 (by decide) (fun c43 => ?_) (fun c43 => ?_)
          · have hF := iff_ c43 hF
            refine lv_iconst (v := 0) hx hb dX7_goesDown_50 (by decide) ?_
            exact J51 0 _ _ ls bl0 hP hS (lv_sub hl [1, 2] rfl) hF
          · have hF := ift c43 hF
            refine lv_iconst (v := 1) hx hb dX7_goesDown_46 (by decide) ?_
            refine lv_goto (tgt := 51) hx hb dX7_goesDown_47 (by decide) ?_
            exact J51 1 _ _ ls bl1 hP hS (lv_sub hl [1, 2] rfl) hF
  exact L8 BIG (-r3) u _ _ ls (big_dn _) hO hP hS (lv_sub hl [0, 1, 2] rfl) hF
theorem hd_X7_goesDownV : yX7_goesDown.cls = RX7 ∧ yX7_goesDown.cls ≠ "java/lang/invoke/MethodHandle" ∧ yX7_goesDown.cls ≠ "java/lang/invoke/VarHandle" ∧ (parseMethodDescriptor yX7_goesDown.desc).map (fun d => d.parameters.length) = some 1 := by decide +kernel
set_option maxHeartbeats 4000000 in
set_option maxRecDepth 100000 in
theorem c7_touches (l : Launch) {D : va_G} {G : CY} {ad : Nat → Nat} {B0 : Nat} (hA : adOK B0 ad) (σ : Nat → Nat → Int32) (u : Nat → Int32) (a : Int32) (hO : okM u) (hba : vp_in a 4) : Met l yX7_touches wsX7_touches { frames := 2, cells := 0, slots := 0, locals := 42 } (va_Pc [.ref (ad (279)), .int a] (Hp D G ad (va_up σ 16 u))) (va_Qi (fun (r : Int32) (z : Nat → Int32) => (r, z) = f7_touches u a ∧ okM z ∧ bl r) (fun (z : Nat → Int32) => Ho D G ad (va_up σ 16 z)) (AA B0)) 0 0 (AA B0) := by
  refine Met.ofW (cc := cX7_touches) (maxL := 6) (ret := (some .boolean)) (by decide) rfl ?_
  intro p e s m args below meth c s₁ B hml hv
  obtain ⟨rfl, hP, hK, hN⟩ := hv
  have hx := B.exec
  have hb := B.bytes
  have hr := B.returns
  have hts := atoms_spec (ws := wsX7_touches) B.pre
  have hown : s.vm.findClass RX7 = some m.cls := findClass_of_methodNamed B.named
  have hlocks := B.notSynchronized
  have inX7 : ∀ w ∈ wsX70, w ∈ wsX7_touches := (fun w h => List.mem_cons_of_mem _ (List.mem_append_left _ (List.mem_append_right _ h)))
  have hP : va_P D vwCl (pool G ad (va_up σ 16 u)) s.heap := hP
  have hS : va_S (AA B0) s.heap s.heap [] := va_S.rf
  have hl := lv_entry ([.ref (ad (279)), .int a]) (n := 6) (Nat.le_of_ble_eq_true rfl)
  rw [lg_entry_eq]
  generalize (lg_sl ([.ref (ad (279)), .int a]) ++ List.replicate (6 - (lg_sl ([.ref (ad (279)), .int a])).length) Slot.unset).toArray = ls at hl ⊢
  have hl : lv_has ls 6 [(0, .ref (ad (279))), (1, .int a)] := hl
  obtain ⟨FF, hFF⟩ : ∃ z, z = f7_touches u a := ⟨_, rfl⟩
  have hF := hFF.symm
  rw [f7_touches] at hF
  refine lv_iconst (v := 0) hx hb dX7_touches_0 (by decide) ?_
  refine lv_istore_n (lv' := [(2, .int 0), (0, .ref (ad (279))), (1, .int a)]) hx hb dX7_touches_1 rfl hl (by decide) rfl (fun ls hl => ?_)
  refine lv_aload_n hx hb dX7_touches_2 rfl (lv_at hl 1 rfl) ?_
  refine lv_iload_n hx hb dX7_touches_3 rfl (lv_at hl 2 rfl) ?_
  refine lv_iconst (v := 0) hx hb dX7_touches_4 (by decide) ?_
  refine va_calli (va_runV (As := [.int a, .int 0]) (rest := []) ⟨hx, hb, hml, hown, hts⟩ (c7_of l hA σ u a 0 (vp_in_iff.mpr (by decide)) hba) (cwV 2 hts gX7_touches_X7_of rfl rfl rfl hd_X7_ofV ⟨Nat.le_of_ble_eq_true rfl, Nat.le_of_ble_eq_true rfl⟩) ⟨hp_blind, va_recv hK hP (ci := 9) (q0 := 279) rfl c_279, hp_pre hK hN hP⟩ rfl rfl hl.1 rfl (lv_room (Nat.le_of_ble_eq_true rfl)) dX7_touches_5 ⟨Nat.zero_le _, Nat.zero_le _⟩) hS (fun _ _ h => h) (fun _ h => h) (fun r5 _ t H locs ht hvm hw9 hB hz1 hk1 hS => ?_)
  have hP := ho_at ht hB
  have eq5 := hw9
  have hF := bnd_s eq5 hF
  refine lv_bipush (v := 16) hx hb dX7_touches_8 (by decide) ?_
  refine va_calli (va_runS (As := [.int r5, .int 16]) (rest := []) ⟨hx, hb, hml, hown, hts⟩ (cJ9_floorDiv l hA (va_up σ 16 u) r5 16 (by decide)) (va_cwS 2 hts gX7_touches_J9_floorDiv_7cf53 rfl rfl rfl hd_J9_floorDivS ⟨Nat.le_of_ble_eq_true rfl, Nat.le_of_ble_eq_true rfl⟩) ⟨hp_blind, hp_pre hK hN hP⟩ rfl rfl hl.1 rfl (lv_room (Nat.le_of_ble_eq_true rfl)) dX7_touches_10 ⟨Nat.zero_le _, Nat.zero_le _⟩) hS (fun _ _ h => h) (fun _ h => h) (fun r10 _ t H locs ht hvm hw9 hB hz1 hk1 hS => ?_)
  have hP := ho_at ht hB
  have eq10 := hw9
  have hF := bnd_s eq10 hF
  refine lv_istore_n (lv' := [(3, .int r10), (2, .int 0), (0, .ref (ad (279))), (1, .int a)]) hx hb dX7_touches_13 rfl hl (by decide) rfl (fun ls hl => ?_)
  have L14 : ∀ (n14 : Nat) (w3_14 : Int32) (w2_14 : Int32) (u_14 : (Nat → Int32)) (H : Heap) (locs : List Loc) (ls : Array Slot), (134217728 - w3_14.toInt).toNat < n14 → bl w2_14 → okM u_14 → va_P D vwCl (pool G ad (va_up σ 16 u_14)) H → va_S (AA B0) s.heap H locs → lv_has ls 6 [(3, .int w3_14), (2, .int w2_14), (0, .ref (ad (279))), (1, .int a)] → f7_touches_L14 a n14 w3_14 w2_14 u_14 = FF → W p l e (headSpec wsX7_touches { frames := 2, cells := 0, slots := 0, locals := 42 }).room s m ([.ref (ad (279)), .int a] : List Value).toArray below meth c H locs 0 0 (MQ below (va_Qi (fun (r : Int32) (z : Nat → Int32) => (r, z) = f7_touches u a ∧ okM z ∧ bl r) (fun (z : Nat → Int32) => Ho D G ad (va_up σ 16 z)) (AA B0)) ([.ref (ad (279)), .int a] : List Value).toArray s 0 0 (AA B0)) (F0 m 14 ls []) := by
    intro n14
    induction n14 with
    | zero => intro w3_14 w2_14 u_14 H locs ls hm; exact absurd hm (Nat.not_lt_zero _)
    | succ n14 ih14 =>
      intro w3_14 w2_14 u_14 H locs ls hm14 hb_w2_14 hO hP hS hl hF
      rw [f7_touches_L14] at hF
      refine lv_iload_n hx hb dX7_touches_14 rfl (lv_at hl 0 rfl) ?_
      refine lv_aload_n hx hb dX7_touches_15 rfl (lv_at hl 2 rfl) ?_
      refine lv_iload_n hx hb dX7_touches_16 rfl (lv_at hl 3 rfl) ?_
      refine lv_iconst (v := 0) hx hb dX7_touches_17 (by decide) ?_
      refine va_calli (va_runV (As := [.int a, .int 0]) (rest := [.int w3_14]) ⟨hx, hb, hml, hown, hts⟩ (c7_of l hA σ u_14 a 0 (vp_in_iff.mpr (by decide)) hba) (cwV 2 hts gX7_touches_X7_of rfl rfl rfl hd_X7_ofV ⟨Nat.le_of_ble_eq_true rfl, Nat.le_of_ble_eq_true rfl⟩) ⟨hp_blind, va_recv hK hP (ci := 9) (q0 := 279) rfl c_279, hp_pre hK hN hP⟩ rfl rfl hl.1 rfl (lv_room (Nat.le_of_ble_eq_true rfl)) dX7_touches_18 ⟨Nat.zero_le _, Nat.zero_le _⟩) hS (fun _ _ h => h) (fun _ h => h) (fun r18 _ t H locs ht hvm hw9 hB hz1 hk1 hS => ?_)
      have hP := ho_at ht hB
      have eq18 := hw9
      have hF := bnd_s eq18 hF
      refine lv_aload_n hx hb dX7_touches_21 rfl (lv_at hl 2 rfl) ?_
      refine lv_iload_n hx hb dX7_touches_22 rfl (lv_at hl 3 rfl) ?_
      refine lv_bipush (v := 7) hx hb dX7_touches_23 (by decide) ?_
      refine va_calli (va_runV (As := [.int a, .int 7]) (rest := [.int r18, .int w3_14]) ⟨hx, hb, hml, hown, hts⟩ (c7_of l hA σ u_14 a 7 (vp_in_iff.mpr (by decide)) hba) (cwV 2 hts gX7_touches_X7_of rfl rfl rfl hd_X7_ofV ⟨Nat.le_of_ble_eq_true rfl, Nat.le_of_ble_eq_true rfl⟩) ⟨hp_blind, va_recv hK hP (ci := 9) (q0 := 279) rfl c_279, hp_pre hK hN hP⟩ rfl rfl hl.1 rfl (lv_room (Nat.le_of_ble_eq_true rfl)) dX7_touches_25 ⟨Nat.zero_le _, Nat.zero_le _⟩) hS (fun _ _ h => h) (fun _ h => h) (fun r25 _ t H locs ht hvm hw9 hB hz1 hk1 hS => ?_)
      have hP := ho_at ht hB
      have eq25 := hw9
      have hF := bnd_s eq25 hF
      refine lv_iadd hx hb dX7_touches_28 ?_
      refine lv_iconst (v := 1) hx hb dX7_touches_29 (by decide) ?_
      refine lv_isub hx hb dX7_touches_30 ?_
      refine lv_bipush (v := 16) hx hb dX7_touches_31 (by decide) ?_
      refine va_calli (va_runS (As := [.int ((r18 + r25) - 1), .int 16]) (rest := [.int w3_14]) ⟨hx, hb, hml, hown, hts⟩ (cJ9_floorDiv l hA (va_up σ 16 u_14) ((r18 + r25) - 1) 16 (by decide)) (va_cwS 2 hts gX7_touches_J9_floorDiv_7cf53 rfl rfl rfl hd_J9_floorDivS ⟨Nat.le_of_ble_eq_true rfl, Nat.le_of_ble_eq_true rfl⟩) ⟨hp_blind, hp_pre hK hN hP⟩ rfl rfl hl.1 rfl (lv_room (Nat.le_of_ble_eq_true rfl)) dX7_touches_33 ⟨Nat.zero_le _, Nat.zero_le _⟩) hS (fun _ _ h => h) (fun _ h => h) (fun r33 _ t H locs ht hvm hw9 hB hz1 hk1 hS => ?_)
      have hP := ho_at ht hB
      have eq33 := hw9
      have hF := bnd_s eq33 hF
      refine lv_icmp_gt (tgt := 143) hx hb dX7_touches_36 (by decide) (fun c36 => ?_) (fun c36 => ?_)
      · have hF := ift c36 hF
        refine lv_iload_n hx hb dX7_touches_143 rfl (lv_at hl 1 rfl) ?_
        exact W.zret (v := w2_14) hx hb hr (bl_nar hb_w2_14) (fun t ht hW => ⟨⟨w2_14, u_14, rfl, ⟨hF.trans hFF, hO, hb_w2_14⟩, ho_of ht hP⟩, hS.F ht⟩) hS.2.2 dX7_touches_144
      · have hF := iff_ c36 hF
        refine lv_aload_n hx hb dX7_touches_39 rfl (lv_at hl 2 rfl) ?_
        refine lv_iload_n hx hb dX7_touches_40 rfl (lv_at hl 3 rfl) ?_
        refine lv_iconst (v := 1) hx hb dX7_touches_41 (by decide) ?_
        refine va_calli (va_runV (As := [.int a, .int 1]) (rest := []) ⟨hx, hb, hml, hown, hts⟩ (c7_of l hA σ u_14 a 1 (vp_in_iff.mpr (by decide)) hba) (cwV 2 hts gX7_touches_X7_of rfl rfl rfl hd_X7_ofV ⟨Nat.le_of_ble_eq_true rfl, Nat.le_of_ble_eq_true rfl⟩) ⟨hp_blind, va_recv hK hP (ci := 9) (q0 := 279) rfl c_279, hp_pre hK hN hP⟩ rfl rfl hl.1 rfl (lv_room (Nat.le_of_ble_eq_true rfl)) dX7_touches_42 ⟨Nat.zero_le _, Nat.zero_le _⟩) hS (fun _ _ h => h) (fun _ h => h) (fun r42 _ t H locs ht hvm hw9 hB hz1 hk1 hS => ?_)
        have hP := ho_at ht hB
        have eq42 := hw9
        have hF := bnd_s eq42 hF
        refine va_calli (va_runS (As := [.int r42]) (rest := []) ⟨hx, hb, hml, hown, hts⟩ (c7_rowOf l hA (va_up σ 16 u_14) r42 ) (va_cwS 1 hts gX7_touches_X7_rowOf rfl rfl rfl hd_X7_rowOfS ⟨Nat.le_of_ble_eq_true rfl, Nat.le_of_ble_eq_true rfl⟩) ⟨hp_blind, hp_pre hK hN hP⟩ rfl rfl hl.1 rfl (lv_room (Nat.le_of_ble_eq_true rfl)) dX7_touches_45 ⟨Nat.zero_le _, Nat.zero_le _⟩) hS (fun _ _ h => h) (fun _ h => h) (fun r45 _ t H locs ht hvm hw9 hB hz1 hk1 hS => ?_)
        have hP := ho_at ht hB
        obtain ⟨eq45, hq_r45⟩ := hw9
        have hF := bnd_s eq45 hF
        refine lv_istore (lv' := [(4, .int r45), (3, .int w3_14), (2, .int w2_14), (0, .ref (ad (279))), (1, .int a)]) hx hb dX7_touches_48 hl (by decide) rfl (fun ls hl => ?_)
        have L50 : ∀ (n50 : Nat) (w4_50 : Int32) (w2_50 : Int32) (u_50 : (Nat → Int32)) (H : Heap) (locs : List Loc) (ls : Array Slot), (134217728 - w4_50.toInt).toNat < n50 → bl w2_50 → okM u_50 → va_P D vwCl (pool G ad (va_up σ 16 u_50)) H → va_S (AA B0) s.heap H locs → lv_has ls 6 [(4, .int w4_50), (3, .int w3_14), (2, .int w2_50), (0, .ref (ad (279))), (1, .int a)] → f7_touches_L50 (f7_touches_L14 a n14) a w3_14 n50 w4_50 w2_50 u_50 = FF → W p l e (headSpec wsX7_touches { frames := 2, cells := 0, slots := 0, locals := 42 }).room s m ([.ref (ad (279)), .int a] : List Value).toArray below meth c H locs 0 0 (MQ below (va_Qi (fun (r : Int32) (z : Nat → Int32) => (r, z) = f7_touches u a ∧ okM z ∧ bl r) (fun (z : Nat → Int32) => Ho D G ad (va_up σ 16 z)) (AA B0)) ([.ref (ad (279)), .int a] : List Value).toArray s 0 0 (AA B0)) (F0 m 50 ls []) := by
          intro n50
          induction n50 with
          | zero => intro w4_50 w2_50 u_50 H locs ls hm; exact absurd hm (Nat.not_lt_zero _)
          | succ n50 ih50 =>
            intro w4_50 w2_50 u_50 H locs ls hm50 hb_w2_50 hO hP hS hl hF
            rw [f7_touches_L50] at hF
            refine lv_iload hx hb dX7_touches_50 (lv_at hl 0 rfl) ?_
            refine lv_aload_n hx hb dX7_touches_52 rfl (lv_at hl 3 rfl) ?_
            refine lv_iload_n hx hb dX7_touches_53 rfl (lv_at hl 4 rfl) ?_
            refine lv_iconst (v := 1) hx hb dX7_touches_54 (by decide) ?_
            refine va_calli (va_runV (As := [.int a, .int 1]) (rest := [.int w4_50]) ⟨hx, hb, hml, hown, hts⟩ (c7_of l hA σ u_50 a 1 (vp_in_iff.mpr (by decide)) hba) (cwV 2 hts gX7_touches_X7_of rfl rfl rfl hd_X7_ofV ⟨Nat.le_of_ble_eq_true rfl, Nat.le_of_ble_eq_true rfl⟩) ⟨hp_blind, va_recv hK hP (ci := 9) (q0 := 279) rfl c_279, hp_pre hK hN hP⟩ rfl rfl hl.1 rfl (lv_room (Nat.le_of_ble_eq_true rfl)) dX7_touches_55 ⟨Nat.zero_le _, Nat.zero_le _⟩) hS (fun _ _ h => h) (fun _ h => h) (fun r55 _ t H locs ht hvm hw9 hB hz1 hk1 hS => ?_)
            have hP := ho_at ht hB
            have eq55 := hw9
            have hF := bnd_s eq55 hF
            refine lv_aload_n hx hb dX7_touches_58 rfl (lv_at hl 3 rfl) ?_
            refine lv_iload_n hx hb dX7_touches_59 rfl (lv_at hl 4 rfl) ?_
            refine lv_bipush (v := 8) hx hb dX7_touches_60 (by decide) ?_
            refine va_calli (va_runV (As := [.int a, .int 8]) (rest := [.int r55, .int w4_50]) ⟨hx, hb, hml, hown, hts⟩ (c7_of l hA σ u_50 a 8 (vp_in_iff.mpr (by decide)) hba) (cwV 2 hts gX7_touches_X7_of rfl rfl rfl hd_X7_ofV ⟨Nat.le_of_ble_eq_true rfl, Nat.le_of_ble_eq_true rfl⟩) ⟨hp_blind, va_recv hK hP (ci := 9) (q0 := 279) rfl c_279, hp_pre hK hN hP⟩ rfl rfl hl.1 rfl (lv_room (Nat.le_of_ble_eq_true rfl)) dX7_touches_62 ⟨Nat.zero_le _, Nat.zero_le _⟩) hS (fun _ _ h => h) (fun _ h => h) (fun r62 _ t H locs ht hvm hw9 hB hz1 hk1 hS => ?_)
            have hP := ho_at ht hB
            have eq62 := hw9
            have hF := bnd_s eq62 hF
            refine lv_iadd hx hb dX7_touches_65 ?_
            refine lv_iconst (v := 1) hx hb dX7_touches_66 (by decide) ?_
            refine lv_isub hx hb dX7_touches_67 ?_
            refine va_calli (va_runS (As := [.int ((r55 + r62) - 1)]) (rest := [.int w4_50]) ⟨hx, hb, hml, hown, hts⟩ (c7_rowOf l hA (va_up σ 16 u_50) ((r55 + r62) - 1) ) (va_cwS 1 hts gX7_touches_X7_rowOf rfl rfl rfl hd_X7_rowOfS ⟨Nat.le_of_ble_eq_true rfl, Nat.le_of_ble_eq_true rfl⟩) ⟨hp_blind, hp_pre hK hN hP⟩ rfl rfl hl.1 rfl (lv_room (Nat.le_of_ble_eq_true rfl)) dX7_touches_68 ⟨Nat.zero_le _, Nat.zero_le _⟩) hS (fun _ _ h => h) (fun _ h => h) (fun r68 _ t H locs ht hvm hw9 hB hz1 hk1 hS => ?_)
            have hP := ho_at ht hB
            obtain ⟨eq68, hq_r68⟩ := hw9
            have hF := bnd_s eq68 hF
            refine lv_icmp_gt (tgt := 137) hx hb dX7_touches_71 (by decide) (fun c71 => ?_) (fun c71 => ?_)
            · have hF := ift c71 hF
              obtain ⟨v3_137, e_v3_137⟩ : ∃ z : Int32, z = w3_14 + 1 := ⟨_, rfl⟩
              have hF := bnd_s e_v3_137 hF
              refine lv_iinc (v := v3_137) (lv' := [(3, .int v3_137), (4, .int w4_50), (2, .int w2_50), (0, .ref (ad (279))), (1, .int a)]) hx hb dX7_touches_137 hl (k := 1) rfl (by rw [e_v3_137]; rfl) (by decide) rfl (fun ls hl => ?_)
              refine lv_goto (tgt := 14) hx hb dX7_touches_140 (by decide) ?_
              exact ih14 v3_137 w2_50 u_50 _ _ ls (ms_s (dec_k c36 (by rw [eq33]; exact fd16_le _) e_v3_137) hm14) hb_w2_50 hO hP hS (lv_sub hl [0, 2, 3, 4] rfl) hF
            · have hF := iff_ c71 hF
              refine lv_aload_n hx hb dX7_touches_74 rfl (lv_at hl 3 rfl) ?_
              refine lv_iload_n hx hb dX7_touches_75 rfl (lv_at hl 1 rfl) ?_
              refine lv_iload hx hb dX7_touches_76 (lv_at hl 0 rfl) ?_
              refine va_calli (va_runV (As := [.int w3_14, .int w4_50]) (rest := []) ⟨hx, hb, hml, hown, hts⟩ (c7_kindIn l hA σ u_50 w3_14 w4_50 ) (cwV 2 hts gX7_touches_X7_kindIn rfl rfl rfl hd_X7_kindInV ⟨Nat.le_of_ble_eq_true rfl, Nat.le_of_ble_eq_true rfl⟩) ⟨hp_blind, va_recv hK hP (ci := 9) (q0 := 279) rfl c_279, hp_pre hK hN hP⟩ rfl rfl hl.1 rfl (lv_room (Nat.le_of_ble_eq_true rfl)) dX7_touches_78 ⟨Nat.zero_le _, Nat.zero_le _⟩) hS (fun _ _ h => h) (fun _ h => h) (fun r78 _ t H locs ht hvm hw9 hB hz1 hk1 hS => ?_)
              have hP := ho_at ht hB
              have eq78 := hw9
              have hF := bnd_s eq78 hF
              refine lv_istore (lv' := [(5, .int r78), (4, .int w4_50), (3, .int w3_14), (2, .int w2_50), (0, .ref (ad (279))), (1, .int a)]) hx hb dX7_touches_81 hl (by decide) rfl (fun ls hl => ?_)
              refine lv_iload_n hx hb dX7_touches_83 rfl (lv_at hl 3 rfl) ?_
              have J99 : ∀ (t0_99 : Int32) (H : Heap) (locs : List Loc) (ls : Array Slot), bl t0_99 → va_P D vwCl (pool G ad (va_up σ 16 u_50)) H → va_S (AA B0) s.heap H locs → lv_has ls 6 [(5, .int r78), (4, .int w4_50), (3, .int w3_14), (0, .ref (ad (279))), (1, .int a)] → f7_touches_b99 (f7_touches_L50 (f7_touches_L14 a n14) a w3_14 n50) a w3_14 w4_50 u_50 r78 t0_99 = FF → W p l e (headSpec wsX7_touches { frames := 2, cells := 0, slots := 0, locals := 42 }).room s m ([.ref (ad (279)), .int a] : List Value).toArray below meth c H locs 0 0 (MQ below (va_Qi (fun (r : Int32) (z : Nat → Int32) => (r, z) = f7_touches u a ∧ okM z ∧ bl r) (fun (z : Nat → Int32) => Ho D G ad (va_up σ 16 z)) (AA B0)) ([.ref (ad (279)), .int a] : List Value).toArray s 0 0 (AA B0)) (F0 m 99 ls [.int t0_99]) := by
                intro t0_99 H locs ls hb_t0_99 hP hS hl hF
                rw [f7_touches_b99] at hF
                refine lv_istore_n (lv' := [(2, .int t0_99), (5, .int r78), (4, .int w4_50), (3, .int w3_14), (0, .ref (ad (279))), (1, .int a)]) hx hb dX7_touches_99 rfl hl (by decide) rfl (fun ls hl => ?_)
                refine lv_iload hx hb dX7_touches_100 (lv_at hl 1 rfl) ?_
                refine lv_bipush (v := 10) hx hb dX7_touches_102 (by decide) ?_
                have J131 : ∀ (u_131 : (Nat → Int32)) (H : Heap) (locs : List Loc) (ls : Array Slot), okM u_131 → va_P D vwCl (pool G ad (va_up σ 16 u_131)) H → va_S (AA B0) s.heap H locs → lv_has ls 6 [(2, .int t0_99), (4, .int w4_50), (3, .int w3_14), (0, .ref (ad (279))), (1, .int a)] → f7_touches_b131 (f7_touches_L50 (f7_touches_L14 a n14) a w3_14 n50) w4_50 t0_99 u_131 = FF → W p l e (headSpec wsX7_touches { frames := 2, cells := 0, slots := 0, locals := 42 }).room s m ([.ref (ad (279)), .int a] : List Value).toArray below meth c H locs 0 0 (MQ below (va_Qi (fun (r : Int32) (z : Nat → Int32) => (r, z) = f7_touches u a ∧ okM z ∧ bl r) (fun (z : Nat → Int32) => Ho D G ad (va_up σ 16 z)) (AA B0)) ([.ref (ad (279)), .int a] : List Value).toArray s 0 0 (AA B0)) (F0 m 131 ls []) := by
                  intro u_131 H locs ls hO hP hS hl hF
                  rw [f7_touches_b131] at hF
                  obtain ⟨v4_131, e_v4_131⟩ : ∃ z : Int32, z = w4_50 + 1 := ⟨_, rfl⟩
                  have hF := bnd_s e_v4_131 hF
                  refine lv_iinc (v := v4_131) (lv' := [(4, .int v4_131), (2, .int t0_99), (3, .int w3_14), (0, .ref (ad (279))), (1, .int a)]) hx hb dX7_touches_131 hl (k := 1) rfl (by rw [e_v4_131]; rfl) (by decide) rfl (fun ls hl => ?_)
                  refine lv_goto (tgt := 50) hx hb dX7_touches_134 (by decide) ?_
                  exact ih50 v4_131 t0_99 u_131 _ _ ls (ms_s (dec_k c71 hq_r68 e_v4_131) hm50) hb_t0_99 hO hP hS (lv_sub hl [0, 2, 1, 3, 4] rfl) hF
                refine lv_icmp_eq (tgt := 110) hx hb dX7_touches_104 (by decide) (fun c104 => ?_) (fun c104 => ?_)
                · have hF := ift c104 hF
                  have hk9 := coin_in eq78 c104
                  refine lv_aload_n hx hb dX7_touches_110 rfl (lv_at hl 4 rfl) ?_
                  refine va_get (D := D) (ci := 9) (C := RX7) (T := TX7) (N := 17) hx hb hts inX7 hown hK hP (279) c_279 rfl 1 (by decide) (hts (.fieldLink RX7 7 "TileRunnersModel" "world" "[I") (List.mem_of_getElem? (i := 1) rfl)) (fun _ h9 => h9) rfl dX7_touches_111 ?_
                  refine lv_bipush (v := 24) hx hb dX7_touches_114 (by decide) ?_
                  refine lv_iload hx hb dX7_touches_116 (lv_at hl 2 rfl) ?_
                  refine lv_imul hx hb dX7_touches_118 ?_
                  refine lv_iload_n hx hb dX7_touches_119 rfl (lv_at hl 3 rfl) ?_
                  refine lv_iadd hx hb dX7_touches_120 ?_
                  refine lv_iconst (v := 0) hx hb dX7_touches_121 (by decide) ?_
                  have hin9 : vp_in ((24 * w4_50) + w3_14) 480 := hk9.1
                  refine past16 (n := 480) (o := 0) (t := ((24 * w4_50) + w3_14).toNatClampNeg) hx hb hK hP hA hS (j := 280) (by decide) (by decide) (fun _ _ => rfl) (fun k9 hk9 => by unfold own16; repeat first | rw [if_pos (by omega)] | rw [if_neg (by omega)]) hin9 (Nat.zero_add _) dX7_touches_122 (fun u9 H locs eu9 hP hS => ?_)
                  have hlt9 := in_lt hin9
                  obtain ⟨u122, e_u122⟩ : ∃ z, z = u9 := ⟨_, rfl⟩
                  rw [← e_u122] at hP eu9
                  have hF := bnd_s eu9 hF
                  have hO := okM_up eu9 hO (by have h8 := hk9.2; omega) (by have h8 := hk9.2; omega) (by have h8 := hk9.2; omega)
                  refine lv_aload_n hx hb dX7_touches_123 rfl (lv_at hl 4 rfl) ?_
                  refine lv_iload_n hx hb dX7_touches_124 rfl (lv_at hl 5 rfl) ?_
                  refine lv_bipush (v := 14) hx hb dX7_touches_125 (by decide) ?_
                  refine lv_iconst (v := 1) hx hb dX7_touches_127 (by decide) ?_
                  refine va_callv (va_runV (As := [.int a, .int 14, .int 1]) (rest := []) ⟨hx, hb, hml, hown, hts⟩ (c7_adds l hA σ u122 a 14 1 hO (vp_in_iff.mpr (by decide)) hba) (cwV 3 hts gX7_touches_X7_adds rfl rfl rfl hd_X7_addsV ⟨Nat.le_of_ble_eq_true rfl, Nat.le_of_ble_eq_true rfl⟩) ⟨hp_blind, va_recv hK hP (ci := 9) (q0 := 279) rfl c_279, hp_pre hK hN hP⟩ rfl rfl hl.1 rfl (lv_room (Nat.le_of_ble_eq_true rfl)) dX7_touches_128 ⟨Nat.zero_le _, Nat.zero_le _⟩) hS (fun _ _ h => h) (fun _ h => h) (fun u9 t H locs ht hvm hw9 hB hz1 hk1 hS => ?_)
                  have hP := ho_at ht hB
                  obtain ⟨eq128, ok9⟩ := hw9
                  obtain ⟨u128, e_u128⟩ : ∃ z, z = u9 := ⟨_, rfl⟩
                  rw [← e_u128] at hP eq128 ok9
                  have hO := ok9
                  have hF := bnd_s eq128 hF
                  exact J131 u128 _ _ ls hO hP hS (lv_sub hl [0, 2, 3, 4, 5] rfl) hF
                · have hF := iff_ c104 hF
                  refine lv_goto (tgt := 131) hx hb dX7_touches_107 (by decide) ?_
                  exact J131 u_50 _ _ ls hO hP hS (lv_sub hl [0, 2, 3, 4, 5] rfl) hF
              have J94 : ∀  (H : Heap) (locs : List Loc) (ls : Array Slot), va_P D vwCl (pool G ad (va_up σ 16 u_50)) H → va_S (AA B0) s.heap H locs → lv_has ls 6 [(5, .int r78), (4, .int w4_50), (3, .int w3_14), (0, .ref (ad (279))), (1, .int a)] → f7_touches_b94 (f7_touches_L50 (f7_touches_L14 a n14) a w3_14 n50) a w3_14 w4_50 u_50 r78  = FF → W p l e (headSpec wsX7_touches { frames := 2, cells := 0, slots := 0, locals := 42 }).room s m ([.ref (ad (279)), .int a] : List Value).toArray below meth c H locs 0 0 (MQ below (va_Qi (fun (r : Int32) (z : Nat → Int32) => (r, z) = f7_touches u a ∧ okM z ∧ bl r) (fun (z : Nat → Int32) => Ho D G ad (va_up σ 16 z)) (AA B0)) ([.ref (ad (279)), .int a] : List Value).toArray s 0 0 (AA B0)) (F0 m 94 ls []) := by
                intro  H locs ls hP hS hl hF
                rw [f7_touches_b94] at hF
                refine lv_iconst (v := 1) hx hb dX7_touches_94 (by decide) ?_
                refine lv_goto (tgt := 99) hx hb dX7_touches_95 (by decide) ?_
                exact J99 1 _ _ ls bl1 hP hS (lv_sub hl [0, 1, 2, 3, 4] rfl) hF
              refine lv_if_ne (tgt := 94) hx hb dX7_touches_84 (by decide) (fun c84 => ?_) (fun c84 => ?_)
              · have hF := iff_ c84 hF
                exact J94  _ _ ls hP hS (lv_sub hl [0, 1, 2, 4, 5] rfl) hF
              · have hF := ift c84 hF
                refine lv_iload hx hb dX7_touches_87 (lv_at hl 0 rfl) ?_
                refine lv_bipush (v := 9) hx hb dX7_touches_89 (by decide) ?_
                refine lv_icmp_ne (tgt := 98) hx hb dX7_touches_91 (by decide) (fun c91 => ?_) (fun c91 => ?_)
                · have hF := iff_ c91 hF
                  refine lv_iconst (v := 0) hx hb dX7_touches_98 (by decide) ?_
                  exact J99 0 _ _ ls bl0 hP hS (lv_sub hl [0, 1, 2, 4, 5] rfl) hF
                · have hF := ift c91 hF
                  exact J94  _ _ ls hP hS (lv_sub hl [0, 1, 2, 4, 5] rfl) hF
        exact L50 BIG r45 w2_14 u_14 _ _ ls (big_k _) hb_w2_14 hO hP hS (lv_sub hl [0, 1, 2, 3, 4] rfl) hF
  exact L14 BIG r10 0 u _ _ ls (big_k _) bl0 hO hP hS (lv_sub hl [0, 1, 2, 3] rfl) hF
theorem hd_X7_touchesV : yX7_touches.cls = RX7 ∧ yX7_touches.cls ≠ "java/lang/invoke/MethodHandle" ∧ yX7_touches.cls ≠ "java/lang/invoke/VarHandle" ∧ (parseMethodDescriptor yX7_touches.desc).map (fun d => d.parameters.length) = some 1 := by decide +kernel
set_option maxHeartbeats 4000000 in
set_option maxRecDepth 100000 in
theorem c7_dies (l : Launch) {D : va_G} {G : CY} {ad : Nat → Nat} {B0 : Nat} (hA : adOK B0 ad) (σ : Nat → Nat → Int32) (u : Nat → Int32) (a : Int32) (hO : okM u) (hba : vp_in a 4) : Met l yX7_dies wsX7_dies { frames := 1, cells := 0, slots := 0, locals := 23 } (va_Pc [.ref (ad (279)), .int a] (Hp D G ad (va_up σ 16 u))) (va_Qv (fun (z : Nat → Int32) => z = f7_dies u a ∧ okM z) (fun (z : Nat → Int32) => Ho D G ad (va_up σ 16 z)) (AA B0)) 0 0 (AA B0) := by
  refine Met.ofW (cc := cX7_dies) (maxL := 3) (ret := none) (by decide) rfl ?_
  intro p e s m args below meth c s₁ B hml hv
  obtain ⟨rfl, hP, hK, hN⟩ := hv
  have hx := B.exec
  have hb := B.bytes
  have hr := B.returns
  have hts := atoms_spec (ws := wsX7_dies) B.pre
  have hown : s.vm.findClass RX7 = some m.cls := findClass_of_methodNamed B.named
  have hlocks := B.notSynchronized
  have hP : va_P D vwCl (pool G ad (va_up σ 16 u)) s.heap := hP
  have hS : va_S (AA B0) s.heap s.heap [] := va_S.rf
  have hl := lv_entry ([.ref (ad (279)), .int a]) (n := 3) (Nat.le_of_ble_eq_true rfl)
  rw [lg_entry_eq]
  generalize (lg_sl ([.ref (ad (279)), .int a]) ++ List.replicate (3 - (lg_sl ([.ref (ad (279)), .int a])).length) Slot.unset).toArray = ls at hl ⊢
  have hl : lv_has ls 3 [(0, .ref (ad (279))), (1, .int a)] := hl
  obtain ⟨FF, hFF⟩ : ∃ z, z = f7_dies u a := ⟨_, rfl⟩
  have hF := hFF.symm
  rw [f7_dies] at hF
  refine lv_aload_n hx hb dX7_dies_0 rfl (lv_at hl 0 rfl) ?_
  refine lv_iload_n hx hb dX7_dies_1 rfl (lv_at hl 1 rfl) ?_
  refine lv_iconst (v := 0) hx hb dX7_dies_2 (by decide) ?_
  refine lv_aload_n hx hb dX7_dies_3 rfl (lv_at hl 0 rfl) ?_
  refine lv_iload_n hx hb dX7_dies_4 rfl (lv_at hl 1 rfl) ?_
  refine lv_bipush (v := 12) hx hb dX7_dies_5 (by decide) ?_
  refine va_calli (va_runV (As := [.int a, .int 12]) (rest := [.int 0, .int a, .ref (ad (279))]) ⟨hx, hb, hml, hown, hts⟩ (c7_of l hA σ u a 12 (vp_in_iff.mpr (by decide)) hba) (cwV 2 hts gX7_dies_X7_of rfl rfl rfl hd_X7_ofV ⟨Nat.le_of_ble_eq_true rfl, Nat.le_of_ble_eq_true rfl⟩) ⟨hp_blind, va_recv hK hP (ci := 9) (q0 := 279) rfl c_279, hp_pre hK hN hP⟩ rfl rfl hl.1 rfl (lv_room (Nat.le_of_ble_eq_true rfl)) dX7_dies_7 ⟨Nat.zero_le _, Nat.zero_le _⟩) hS (fun _ _ h => h) (fun _ h => h) (fun r7 _ t H locs ht hvm hw9 hB hz1 hk1 hS => ?_)
  have hP := ho_at ht hB
  have eq7 := hw9
  have hF := bnd_s eq7 hF
  refine va_callv (va_runV (As := [.int a, .int 0, .int r7]) (rest := []) ⟨hx, hb, hml, hown, hts⟩ (c7_sets l hA σ u a 0 r7 hO (vp_in_iff.mpr (by decide)) hba) (cwV 3 hts gX7_dies_X7_sets rfl rfl rfl hd_X7_setsV ⟨Nat.le_of_ble_eq_true rfl, Nat.le_of_ble_eq_true rfl⟩) ⟨hp_blind, va_recv hK hP (ci := 9) (q0 := 279) rfl c_279, hp_pre hK hN hP⟩ rfl rfl hl.1 rfl (lv_room (Nat.le_of_ble_eq_true rfl)) dX7_dies_10 ⟨Nat.zero_le _, Nat.zero_le _⟩) hS (fun _ _ h => h) (fun _ h => h) (fun u9 t H locs ht hvm hw9 hB hz1 hk1 hS => ?_)
  have hP := ho_at ht hB
  obtain ⟨eq10, ok9⟩ := hw9
  obtain ⟨u10, e_u10⟩ : ∃ z, z = u9 := ⟨_, rfl⟩
  rw [← e_u10] at hP eq10 ok9
  have hO := ok9
  have hF := bnd_s eq10 hF
  refine lv_aload_n hx hb dX7_dies_13 rfl (lv_at hl 0 rfl) ?_
  refine lv_iload_n hx hb dX7_dies_14 rfl (lv_at hl 1 rfl) ?_
  refine lv_iconst (v := 1) hx hb dX7_dies_15 (by decide) ?_
  refine lv_aload_n hx hb dX7_dies_16 rfl (lv_at hl 0 rfl) ?_
  refine lv_iload_n hx hb dX7_dies_17 rfl (lv_at hl 1 rfl) ?_
  refine lv_bipush (v := 13) hx hb dX7_dies_18 (by decide) ?_
  refine va_calli (va_runV (As := [.int a, .int 13]) (rest := [.int 1, .int a, .ref (ad (279))]) ⟨hx, hb, hml, hown, hts⟩ (c7_of l hA σ u10 a 13 (vp_in_iff.mpr (by decide)) hba) (cwV 2 hts gX7_dies_X7_of rfl rfl rfl hd_X7_ofV ⟨Nat.le_of_ble_eq_true rfl, Nat.le_of_ble_eq_true rfl⟩) ⟨hp_blind, va_recv hK hP (ci := 9) (q0 := 279) rfl c_279, hp_pre hK hN hP⟩ rfl rfl hl.1 rfl (lv_room (Nat.le_of_ble_eq_true rfl)) dX7_dies_20 ⟨Nat.zero_le _, Nat.zero_le _⟩) hS (fun _ _ h => h) (fun _ h => h) (fun r20 _ t H locs ht hvm hw9 hB hz1 hk1 hS => ?_)
  have hP := ho_at ht hB
  have eq20 := hw9
  have hF := bnd_s eq20 hF
  refine va_callv (va_runV (As := [.int a, .int 1, .int r20]) (rest := []) ⟨hx, hb, hml, hown, hts⟩ (c7_sets l hA σ u10 a 1 r20 hO (vp_in_iff.mpr (by decide)) hba) (cwV 3 hts gX7_dies_X7_sets rfl rfl rfl hd_X7_setsV ⟨Nat.le_of_ble_eq_true rfl, Nat.le_of_ble_eq_true rfl⟩) ⟨hp_blind, va_recv hK hP (ci := 9) (q0 := 279) rfl c_279, hp_pre hK hN hP⟩ rfl rfl hl.1 rfl (lv_room (Nat.le_of_ble_eq_true rfl)) dX7_dies_23 ⟨Nat.zero_le _, Nat.zero_le _⟩) hS (fun _ _ h => h) (fun _ h => h) (fun u9 t H locs ht hvm hw9 hB hz1 hk1 hS => ?_)
  have hP := ho_at ht hB
  obtain ⟨eq23, ok9⟩ := hw9
  obtain ⟨u23, e_u23⟩ : ∃ z, z = u9 := ⟨_, rfl⟩
  rw [← e_u23] at hP eq23 ok9
  have hO := ok9
  have hF := bnd_s eq23 hF
  refine lv_iconst (v := 2) hx hb dX7_dies_26 (by decide) ?_
  refine lv_istore_n (lv' := [(2, .int 2), (0, .ref (ad (279))), (1, .int a)]) hx hb dX7_dies_27 rfl hl (by decide) rfl (fun ls hl => ?_)
  have L28 : ∀ (n28 : Nat) (w2_28 : Int32) (u_28 : (Nat → Int32)) (H : Heap) (locs : List Loc) (ls : Array Slot), ((6 : Int32).toInt + 1 - w2_28.toInt).toNat < n28 → 0 ≤ w2_28 → okM u_28 → va_P D vwCl (pool G ad (va_up σ 16 u_28)) H → va_S (AA B0) s.heap H locs → lv_has ls 3 [(2, .int w2_28), (0, .ref (ad (279))), (1, .int a)] → f7_dies_L28 a n28 w2_28 u_28 = FF → W p l e (headSpec wsX7_dies { frames := 1, cells := 0, slots := 0, locals := 23 }).room s m ([.ref (ad (279)), .int a] : List Value).toArray below meth c H locs 0 0 (MQ below (va_Qv (fun (z : Nat → Int32) => z = f7_dies u a ∧ okM z) (fun (z : Nat → Int32) => Ho D G ad (va_up σ 16 z)) (AA B0)) ([.ref (ad (279)), .int a] : List Value).toArray s 0 0 (AA B0)) (F0 m 28 ls []) := by
    intro n28
    induction n28 with
    | zero => intro w2_28 u_28 H locs ls hm; exact absurd hm (Nat.not_lt_zero _)
    | succ n28 ih28 =>
      intro w2_28 u_28 H locs ls hm28 h2 hO hP hS hl hF
      rw [f7_dies_L28] at hF
      refine lv_iload_n hx hb dX7_dies_28 rfl (lv_at hl 0 rfl) ?_
      refine lv_bipush (v := 6) hx hb dX7_dies_29 (by decide) ?_
      refine lv_icmp_gt (tgt := 47) hx hb dX7_dies_31 (by decide) (fun c31 => ?_) (fun c31 => ?_)
      · have hF := ift c31 hF
        refine lv_aload_n hx hb dX7_dies_47 rfl (lv_at hl 1 rfl) ?_
        refine lv_iload_n hx hb dX7_dies_48 rfl (lv_at hl 2 rfl) ?_
        refine lv_bipush (v := 11) hx hb dX7_dies_49 (by decide) ?_
        refine lv_iconst (v := 0) hx hb dX7_dies_51 (by decide) ?_
        refine va_callv (va_runV (As := [.int a, .int 11, .int 0]) (rest := []) ⟨hx, hb, hml, hown, hts⟩ (c7_sets l hA σ u_28 a 11 0 hO (vp_in_iff.mpr (by decide)) hba) (cwV 3 hts gX7_dies_X7_sets rfl rfl rfl hd_X7_setsV ⟨Nat.le_of_ble_eq_true rfl, Nat.le_of_ble_eq_true rfl⟩) ⟨hp_blind, va_recv hK hP (ci := 9) (q0 := 279) rfl c_279, hp_pre hK hN hP⟩ rfl rfl hl.1 rfl (lv_room (Nat.le_of_ble_eq_true rfl)) dX7_dies_52 ⟨Nat.zero_le _, Nat.zero_le _⟩) hS (fun _ _ h => h) (fun _ h => h) (fun u9 t H locs ht hvm hw9 hB hz1 hk1 hS => ?_)
        have hP := ho_at ht hB
        obtain ⟨eq52, ok9⟩ := hw9
        obtain ⟨u52, e_u52⟩ : ∃ z, z = u9 := ⟨_, rfl⟩
        rw [← e_u52] at hP eq52 ok9
        have hO := ok9
        have hF := bnd_s eq52 hF
        refine lv_aload_n hx hb dX7_dies_55 rfl (lv_at hl 1 rfl) ?_
        refine lv_iload_n hx hb dX7_dies_56 rfl (lv_at hl 2 rfl) ?_
        refine lv_bipush (v := 15) hx hb dX7_dies_57 (by decide) ?_
        refine lv_iconst (v := 1) hx hb dX7_dies_59 (by decide) ?_
        refine va_callv (va_runV (As := [.int a, .int 15, .int 1]) (rest := []) ⟨hx, hb, hml, hown, hts⟩ (c7_adds l hA σ u52 a 15 1 hO (vp_in_iff.mpr (by decide)) hba) (cwV 3 hts gX7_dies_X7_adds rfl rfl rfl hd_X7_addsV ⟨Nat.le_of_ble_eq_true rfl, Nat.le_of_ble_eq_true rfl⟩) ⟨hp_blind, va_recv hK hP (ci := 9) (q0 := 279) rfl c_279, hp_pre hK hN hP⟩ rfl rfl hl.1 rfl (lv_room (Nat.le_of_ble_eq_true rfl)) dX7_dies_60 ⟨Nat.zero_le _, Nat.zero_le _⟩) hS (fun _ _ h => h) (fun _ h => h) (fun u9 t H locs ht hvm hw9 hB hz1 hk1 hS => ?_)
        have hP := ho_at ht hB
        obtain ⟨eq60, ok9⟩ := hw9
        obtain ⟨u60, e_u60⟩ : ∃ z, z = u9 := ⟨_, rfl⟩
        rw [← e_u60] at hP eq60 ok9
        have hO := ok9
        have hF := bnd_s eq60 hF
        exact W.vret hx hb hr (fun t ht hW => ⟨⟨u60, rfl, ⟨hF.trans hFF, hO⟩, ho_of ht hP⟩, hS.F ht⟩) hS.2.2 dX7_dies_63
      · have hF := iff_ c31 hF
        have hww2_28 : vp_in w2_28 24 := in_le h2 c31 (by decide)
        refine lv_aload_n hx hb dX7_dies_34 rfl (lv_at hl 1 rfl) ?_
        refine lv_iload_n hx hb dX7_dies_35 rfl (lv_at hl 2 rfl) ?_
        refine lv_iload_n hx hb dX7_dies_36 rfl (lv_at hl 0 rfl) ?_
        refine lv_iconst (v := 0) hx hb dX7_dies_37 (by decide) ?_
        refine va_callv (va_runV (As := [.int a, .int w2_28, .int 0]) (rest := []) ⟨hx, hb, hml, hown, hts⟩ (c7_sets l hA σ u_28 a w2_28 0 hO hww2_28 hba) (cwV 3 hts gX7_dies_X7_sets rfl rfl rfl hd_X7_setsV ⟨Nat.le_of_ble_eq_true rfl, Nat.le_of_ble_eq_true rfl⟩) ⟨hp_blind, va_recv hK hP (ci := 9) (q0 := 279) rfl c_279, hp_pre hK hN hP⟩ rfl rfl hl.1 rfl (lv_room (Nat.le_of_ble_eq_true rfl)) dX7_dies_38 ⟨Nat.zero_le _, Nat.zero_le _⟩) hS (fun _ _ h => h) (fun _ h => h) (fun u9 t H locs ht hvm hw9 hB hz1 hk1 hS => ?_)
        have hP := ho_at ht hB
        obtain ⟨eq38, ok9⟩ := hw9
        obtain ⟨u38, e_u38⟩ : ∃ z, z = u9 := ⟨_, rfl⟩
        rw [← e_u38] at hP eq38 ok9
        have hO := ok9
        have hF := bnd_s eq38 hF
        obtain ⟨v2_41, e_v2_41⟩ : ∃ z : Int32, z = w2_28 + 1 := ⟨_, rfl⟩
        have hF := bnd_s e_v2_41 hF
        refine lv_iinc (v := v2_41) (lv' := [(2, .int v2_41), (0, .ref (ad (279))), (1, .int a)]) hx hb dX7_dies_41 hl (k := 0) rfl (by rw [e_v2_41]; rfl) (by decide) rfl (fun ls hl => ?_)
        refine lv_goto (tgt := 28) hx hb dX7_dies_44 (by decide) ?_
        exact ih28 v2_41 u38 _ _ ls (ms_s (dec_upe c31 (by decide) e_v2_41) hm28) (ge0_in hww2_28 (by decide) e_v2_41) hO hP hS (lv_sub hl [0, 1, 2] rfl) hF
  exact L28 BIG 2 u23 _ _ ls (big_upe _ _) (by decide) hO hP hS (lv_sub hl [0, 1, 2] rfl) hF
theorem hd_X7_diesV : yX7_dies.cls = RX7 ∧ yX7_dies.cls ≠ "java/lang/invoke/MethodHandle" ∧ yX7_dies.cls ≠ "java/lang/invoke/VarHandle" ∧ (parseMethodDescriptor yX7_dies.desc).map (fun d => d.parameters.length) = some 1 := by decide +kernel
set_option maxHeartbeats 4000000 in
set_option maxRecDepth 100000 in
theorem c7_decides (l : Launch) {D : va_G} {G : CY} {ad : Nat → Nat} {B0 : Nat} (hA : adOK B0 ad) (σ : Nat → Nat → Int32) (u : Nat → Int32) (a : Int32) (hO : okM u) (hba : vp_in a 4) : Met l yX7_decides wsX7_decides { frames := 9, cells := 0, slots := 0, locals := 205 } (va_Pc [.ref (ad (279)), .int a] (Hp D G ad (va_up σ 16 u))) (va_Qi (fun (r : Int32) (z : Nat → Int32) => (r, z) = f7_decides u a ∧ okM z ∧ bl r) (fun (z : Nat → Int32) => Ho D G ad (va_up σ 16 z)) (AA B0)) 0 0 (AA B0) := by
  refine Met.ofW (cc := cX7_decides) (maxL := 5) (ret := (some .boolean)) (by decide) rfl ?_
  intro p e s m args below meth c s₁ B hml hv
  obtain ⟨rfl, hP, hK, hN⟩ := hv
  have hx := B.exec
  have hb := B.bytes
  have hr := B.returns
  have hts := atoms_spec (ws := wsX7_decides) B.pre
  have hown : s.vm.findClass RX7 = some m.cls := findClass_of_methodNamed B.named
  have hlocks := B.notSynchronized
  have inX7 : ∀ w ∈ wsX70, w ∈ wsX7_decides := (fun w h => List.mem_cons_of_mem _ (List.mem_append_left _ (List.mem_append_right _ h)))
  have hP : va_P D vwCl (pool G ad (va_up σ 16 u)) s.heap := hP
  have hS : va_S (AA B0) s.heap s.heap [] := va_S.rf
  have hl := lv_entry ([.ref (ad (279)), .int a]) (n := 5) (Nat.le_of_ble_eq_true rfl)
  rw [lg_entry_eq]
  generalize (lg_sl ([.ref (ad (279)), .int a]) ++ List.replicate (5 - (lg_sl ([.ref (ad (279)), .int a])).length) Slot.unset).toArray = ls at hl ⊢
  have hl : lv_has ls 5 [(0, .ref (ad (279))), (1, .int a)] := hl
  obtain ⟨FF, hFF⟩ : ∃ z, z = f7_decides u a := ⟨_, rfl⟩
  have hF := hFF.symm
  rw [f7_decides] at hF
  refine lv_aload_n hx hb dX7_decides_0 rfl (lv_at hl 0 rfl) ?_
  refine lv_iload_n hx hb dX7_decides_1 rfl (lv_at hl 1 rfl) ?_
  refine va_calli (va_runV (As := [.int a]) (rest := []) ⟨hx, hb, hml, hown, hts⟩ (c7_doesStand l hA σ u a hO hba) (cwV 1 hts gX7_decides_X7_doesStand rfl rfl rfl hd_X7_doesStandV ⟨Nat.le_of_ble_eq_true rfl, Nat.le_of_ble_eq_true rfl⟩) ⟨hp_blind, va_recv hK hP (ci := 9) (q0 := 279) rfl c_279, hp_pre hK hN hP⟩ rfl rfl hl.1 rfl (lv_room (Nat.le_of_ble_eq_true rfl)) dX7_decides_2 ⟨Nat.zero_le _, Nat.zero_le _⟩) hS (fun _ _ h => h) (fun _ h => h) (fun r2 _ t H locs ht hvm hw9 hB hz1 hk1 hS => ?_)
  have hP := ho_at ht hB
  obtain ⟨eq2, hb_r2⟩ := hw9
  have hF := bnd_s eq2 hF
  refine lv_istore_n (lv' := [(2, .int r2), (0, .ref (ad (279))), (1, .int a)]) hx hb dX7_decides_5 rfl hl (by decide) rfl (fun ls hl => ?_)
  refine lv_aload_n hx hb dX7_decides_6 rfl (lv_at hl 1 rfl) ?_
  refine lv_iload_n hx hb dX7_decides_7 rfl (lv_at hl 2 rfl) ?_
  refine lv_bipush (v := 19) hx hb dX7_decides_8 (by decide) ?_
  refine lv_iload_n hx hb dX7_decides_10 rfl (lv_at hl 0 rfl) ?_
  have J19 : ∀ (t0_19 : Int32) (H : Heap) (locs : List Loc) (ls : Array Slot), bl t0_19 → va_P D vwCl (pool G ad (va_up σ 16 u)) H → va_S (AA B0) s.heap H locs → lv_has ls 5 [(2, .int r2), (0, .ref (ad (279))), (1, .int a)] → f7_decides_b19 u a r2 t0_19 = FF → W p l e (headSpec wsX7_decides { frames := 9, cells := 0, slots := 0, locals := 205 }).room s m ([.ref (ad (279)), .int a] : List Value).toArray below meth c H locs 0 0 (MQ below (va_Qi (fun (r : Int32) (z : Nat → Int32) => (r, z) = f7_decides u a ∧ okM z ∧ bl r) (fun (z : Nat → Int32) => Ho D G ad (va_up σ 16 z)) (AA B0)) ([.ref (ad (279)), .int a] : List Value).toArray s 0 0 (AA B0)) (F0 m 19 ls [.int t0_19, .int 19, .int a, .ref (ad (279))]) := by
    intro t0_19 H locs ls hb_t0_19 hP hS hl hF
    rw [f7_decides_b19] at hF
    refine va_callv (va_runV (As := [.int a, .int 19, .int t0_19]) (rest := []) ⟨hx, hb, hml, hown, hts⟩ (c7_adds l hA σ u a 19 t0_19 hO (vp_in_iff.mpr (by decide)) hba) (cwV 3 hts gX7_decides_X7_adds rfl rfl rfl hd_X7_addsV ⟨Nat.le_of_ble_eq_true rfl, Nat.le_of_ble_eq_true rfl⟩) ⟨hp_blind, va_recv hK hP (ci := 9) (q0 := 279) rfl c_279, hp_pre hK hN hP⟩ rfl rfl hl.1 rfl (lv_room (Nat.le_of_ble_eq_true rfl)) dX7_decides_19 ⟨Nat.zero_le _, Nat.zero_le _⟩) hS (fun _ _ h => h) (fun _ h => h) (fun u9 t H locs ht hvm hw9 hB hz1 hk1 hS => ?_)
    have hP := ho_at ht hB
    obtain ⟨eq19, ok9⟩ := hw9
    obtain ⟨u19, e_u19⟩ : ∃ z, z = u9 := ⟨_, rfl⟩
    rw [← e_u19] at hP eq19 ok9
    have hO := ok9
    have hF := bnd_s eq19 hF
    refine lv_aload_n hx hb dX7_decides_22 rfl (lv_at hl 1 rfl) ?_
    refine lv_iload_n hx hb dX7_decides_23 rfl (lv_at hl 2 rfl) ?_
    refine lv_iconst (v := 4) hx hb dX7_decides_24 (by decide) ?_
    refine lv_aload_n hx hb dX7_decides_25 rfl (lv_at hl 1 rfl) ?_
    refine va_get (D := D) (ci := 9) (C := RX7) (T := TX7) (N := 17) hx hb hts inX7 hown hK hP (279) c_279 rfl 2 (by decide) (hts (.fieldLink RX7 13 "TileRunnersModel" "setting" "[I") (List.mem_of_getElem? (i := 1) rfl)) (fun _ h9 => h9) rfl dX7_decides_26 ?_
    refine lv_iconst (v := 2) hx hb dX7_decides_29 (by decide) ?_
    refine pald (n := 4) (o := 480) (t := 482) (i := 2) hx hb hK hP c_281 (vp_in_iff.mpr (by decide)) rfl dX7_decides_30 ?_
    refine lv_iload_n hx hb dX7_decides_31 rfl (lv_at hl 0 rfl) ?_
    refine va_callv (va_runV (As := [.int a, .int 4, .int (u19 482), .int r2]) (rest := []) ⟨hx, hb, hml, hown, hts⟩ (c7_counts l hA σ u19 a 4 (u19 482) r2 hO (vp_in_iff.mpr (by decide)) hba) (cwV 4 hts gX7_decides_X7_counts rfl rfl rfl hd_X7_countsV ⟨Nat.le_of_ble_eq_true rfl, Nat.le_of_ble_eq_true rfl⟩) ⟨hp_blind, va_recv hK hP (ci := 9) (q0 := 279) rfl c_279, hp_pre hK hN hP⟩ rfl rfl hl.1 rfl (lv_room (Nat.le_of_ble_eq_true rfl)) dX7_decides_32 ⟨Nat.zero_le _, Nat.zero_le _⟩) hS (fun _ _ h => h) (fun _ h => h) (fun u9 t H locs ht hvm hw9 hB hz1 hk1 hS => ?_)
    have hP := ho_at ht hB
    obtain ⟨eq32, ok9⟩ := hw9
    obtain ⟨u32, e_u32⟩ : ∃ z, z = u9 := ⟨_, rfl⟩
    rw [← e_u32] at hP eq32 ok9
    have hO := ok9
    have hF := bnd_s eq32 hF
    refine lv_aload_n hx hb dX7_decides_35 rfl (lv_at hl 1 rfl) ?_
    refine lv_iload_n hx hb dX7_decides_36 rfl (lv_at hl 2 rfl) ?_
    refine lv_iconst (v := 5) hx hb dX7_decides_37 (by decide) ?_
    refine lv_aload_n hx hb dX7_decides_38 rfl (lv_at hl 1 rfl) ?_
    refine va_get (D := D) (ci := 9) (C := RX7) (T := TX7) (N := 17) hx hb hts inX7 hown hK hP (279) c_279 rfl 2 (by decide) (hts (.fieldLink RX7 13 "TileRunnersModel" "setting" "[I") (List.mem_of_getElem? (i := 1) rfl)) (fun _ h9 => h9) rfl dX7_decides_39 ?_
    refine lv_iconst (v := 3) hx hb dX7_decides_42 (by decide) ?_
    refine pald (n := 4) (o := 480) (t := 483) (i := 3) hx hb hK hP c_281 (vp_in_iff.mpr (by decide)) rfl dX7_decides_43 ?_
    refine lv_aload_n hx hb dX7_decides_44 rfl (lv_at hl 1 rfl) ?_
    refine lv_iload_n hx hb dX7_decides_45 rfl (lv_at hl 2 rfl) ?_
    refine lv_iconst (v := 4) hx hb dX7_decides_46 (by decide) ?_
    refine va_calli (va_runV (As := [.int a, .int 4]) (rest := [.int (u32 483), .int 5, .int a, .ref (ad (279))]) ⟨hx, hb, hml, hown, hts⟩ (c7_isPressed l hA σ u32 a 4 hba) (cwV 2 hts gX7_decides_X7_isPressed rfl rfl rfl hd_X7_isPressedV ⟨Nat.le_of_ble_eq_true rfl, Nat.le_of_ble_eq_true rfl⟩) ⟨hp_blind, va_recv hK hP (ci := 9) (q0 := 279) rfl c_279, hp_pre hK hN hP⟩ rfl rfl hl.1 rfl (lv_room (Nat.le_of_ble_eq_true rfl)) dX7_decides_47 ⟨Nat.zero_le _, Nat.zero_le _⟩) hS (fun _ _ h => h) (fun _ h => h) (fun r47 _ t H locs ht hvm hw9 hB hz1 hk1 hS => ?_)
    have hP := ho_at ht hB
    obtain ⟨eq47, hb_r47⟩ := hw9
    have hF := bnd_s eq47 hF
    have J70 : ∀ (t0_70 : Int32) (H : Heap) (locs : List Loc) (ls : Array Slot), bl t0_70 → va_P D vwCl (pool G ad (va_up σ 16 u32)) H → va_S (AA B0) s.heap H locs → lv_has ls 5 [(2, .int r2), (0, .ref (ad (279))), (1, .int a)] → f7_decides_b70 a r2 u32 t0_70 = FF → W p l e (headSpec wsX7_decides { frames := 9, cells := 0, slots := 0, locals := 205 }).room s m ([.ref (ad (279)), .int a] : List Value).toArray below meth c H locs 0 0 (MQ below (va_Qi (fun (r : Int32) (z : Nat → Int32) => (r, z) = f7_decides u a ∧ okM z ∧ bl r) (fun (z : Nat → Int32) => Ho D G ad (va_up σ 16 z)) (AA B0)) ([.ref (ad (279)), .int a] : List Value).toArray s 0 0 (AA B0)) (F0 m 70 ls [.int t0_70, .int (u32 483), .int 5, .int a, .ref (ad (279))]) := by
      intro t0_70 H locs ls hb_t0_70 hP hS hl hF
      rw [f7_decides_b70] at hF
      refine va_callv (va_runV (As := [.int a, .int 5, .int (u32 483), .int t0_70]) (rest := []) ⟨hx, hb, hml, hown, hts⟩ (c7_counts l hA σ u32 a 5 (u32 483) t0_70 hO (vp_in_iff.mpr (by decide)) hba) (cwV 4 hts gX7_decides_X7_counts rfl rfl rfl hd_X7_countsV ⟨Nat.le_of_ble_eq_true rfl, Nat.le_of_ble_eq_true rfl⟩) ⟨hp_blind, va_recv hK hP (ci := 9) (q0 := 279) rfl c_279, hp_pre hK hN hP⟩ rfl rfl hl.1 rfl (lv_room (Nat.le_of_ble_eq_true rfl)) dX7_decides_70 ⟨Nat.zero_le _, Nat.zero_le _⟩) hS (fun _ _ h => h) (fun _ h => h) (fun u9 t H locs ht hvm hw9 hB hz1 hk1 hS => ?_)
      have hP := ho_at ht hB
      obtain ⟨eq70, ok9⟩ := hw9
      obtain ⟨u70, e_u70⟩ : ∃ z, z = u9 := ⟨_, rfl⟩
      rw [← e_u70] at hP eq70 ok9
      have hO := ok9
      have hF := bnd_s eq70 hF
      refine lv_aload_n hx hb dX7_decides_73 rfl (lv_at hl 1 rfl) ?_
      refine lv_iload_n hx hb dX7_decides_74 rfl (lv_at hl 2 rfl) ?_
      refine lv_bipush (v := 6) hx hb dX7_decides_75 (by decide) ?_
      refine lv_iconst (v := 0) hx hb dX7_decides_77 (by decide) ?_
      refine lv_iconst (v := 0) hx hb dX7_decides_78 (by decide) ?_
      refine va_callv (va_runV (As := [.int a, .int 6, .int 0, .int 0]) (rest := []) ⟨hx, hb, hml, hown, hts⟩ (c7_counts l hA σ u70 a 6 0 0 hO (vp_in_iff.mpr (by decide)) hba) (cwV 4 hts gX7_decides_X7_counts rfl rfl rfl hd_X7_countsV ⟨Nat.le_of_ble_eq_true rfl, Nat.le_of_ble_eq_true rfl⟩) ⟨hp_blind, va_recv hK hP (ci := 9) (q0 := 279) rfl c_279, hp_pre hK hN hP⟩ rfl rfl hl.1 rfl (lv_room (Nat.le_of_ble_eq_true rfl)) dX7_decides_79 ⟨Nat.zero_le _, Nat.zero_le _⟩) hS (fun _ _ h => h) (fun _ h => h) (fun u9 t H locs ht hvm hw9 hB hz1 hk1 hS => ?_)
      have hP := ho_at ht hB
      obtain ⟨eq79, ok9⟩ := hw9
      obtain ⟨u79, e_u79⟩ : ∃ z, z = u9 := ⟨_, rfl⟩
      rw [← e_u79] at hP eq79 ok9
      have hO := ok9
      have hF := bnd_s eq79 hF
      refine lv_aload_n hx hb dX7_decides_82 rfl (lv_at hl 1 rfl) ?_
      refine lv_iload_n hx hb dX7_decides_83 rfl (lv_at hl 2 rfl) ?_
      refine lv_aload_n hx hb dX7_decides_84 rfl (lv_at hl 1 rfl) ?_
      refine lv_iload_n hx hb dX7_decides_85 rfl (lv_at hl 2 rfl) ?_
      refine lv_iconst (v := 0) hx hb dX7_decides_86 (by decide) ?_
      refine va_calli (va_runV (As := [.int a, .int 0]) (rest := [.int a, .ref (ad (279))]) ⟨hx, hb, hml, hown, hts⟩ (c7_of l hA σ u79 a 0 (vp_in_iff.mpr (by decide)) hba) (cwV 2 hts gX7_decides_X7_of rfl rfl rfl hd_X7_ofV ⟨Nat.le_of_ble_eq_true rfl, Nat.le_of_ble_eq_true rfl⟩) ⟨hp_blind, va_recv hK hP (ci := 9) (q0 := 279) rfl c_279, hp_pre hK hN hP⟩ rfl rfl hl.1 rfl (lv_room (Nat.le_of_ble_eq_true rfl)) dX7_decides_87 ⟨Nat.zero_le _, Nat.zero_le _⟩) hS (fun _ _ h => h) (fun _ h => h) (fun r87 _ t H locs ht hvm hw9 hB hz1 hk1 hS => ?_)
      have hP := ho_at ht hB
      have eq87 := hw9
      have hF := bnd_s eq87 hF
      refine lv_aload_n hx hb dX7_decides_90 rfl (lv_at hl 1 rfl) ?_
      refine lv_iload_n hx hb dX7_decides_91 rfl (lv_at hl 2 rfl) ?_
      refine lv_iconst (v := 1) hx hb dX7_decides_92 (by decide) ?_
      refine va_calli (va_runV (As := [.int a, .int 1]) (rest := [.int r87, .int a, .ref (ad (279))]) ⟨hx, hb, hml, hown, hts⟩ (c7_of l hA σ u79 a 1 (vp_in_iff.mpr (by decide)) hba) (cwV 2 hts gX7_decides_X7_of rfl rfl rfl hd_X7_ofV ⟨Nat.le_of_ble_eq_true rfl, Nat.le_of_ble_eq_true rfl⟩) ⟨hp_blind, va_recv hK hP (ci := 9) (q0 := 279) rfl c_279, hp_pre hK hN hP⟩ rfl rfl hl.1 rfl (lv_room (Nat.le_of_ble_eq_true rfl)) dX7_decides_93 ⟨Nat.zero_le _, Nat.zero_le _⟩) hS (fun _ _ h => h) (fun _ h => h) (fun r93 _ t H locs ht hvm hw9 hB hz1 hk1 hS => ?_)
      have hP := ho_at ht hB
      have eq93 := hw9
      have hF := bnd_s eq93 hF
      refine va_calli (va_runV (As := [.int a, .int r87, .int r93]) (rest := []) ⟨hx, hb, hml, hown, hts⟩ (c7_firmBelow l hA σ u79 a r87 r93 hba) (cwV 3 hts gX7_decides_X7_firmBelow rfl rfl rfl hd_X7_firmBelowV ⟨Nat.le_of_ble_eq_true rfl, Nat.le_of_ble_eq_true rfl⟩) ⟨hp_blind, va_recv hK hP (ci := 9) (q0 := 279) rfl c_279, hp_pre hK hN hP⟩ rfl rfl hl.1 rfl (lv_room (Nat.le_of_ble_eq_true rfl)) dX7_decides_96 ⟨Nat.zero_le _, Nat.zero_le _⟩) hS (fun _ _ h => h) (fun _ h => h) (fun r96 _ t H locs ht hvm hw9 hB hz1 hk1 hS => ?_)
      have hP := ho_at ht hB
      have eq96 := hw9
      have hF := bnd_s eq96 hF
      have J127 : ∀ (t0_127 : Int32) (H : Heap) (locs : List Loc) (ls : Array Slot), bl t0_127 → va_P D vwCl (pool G ad (va_up σ 16 u79)) H → va_S (AA B0) s.heap H locs → lv_has ls 5 [(2, .int r2), (0, .ref (ad (279))), (1, .int a)] → f7_decides_b127 a r2 u79 t0_127 = FF → W p l e (headSpec wsX7_decides { frames := 9, cells := 0, slots := 0, locals := 205 }).room s m ([.ref (ad (279)), .int a] : List Value).toArray below meth c H locs 0 0 (MQ below (va_Qi (fun (r : Int32) (z : Nat → Int32) => (r, z) = f7_decides u a ∧ okM z ∧ bl r) (fun (z : Nat → Int32) => Ho D G ad (va_up σ 16 z)) (AA B0)) ([.ref (ad (279)), .int a] : List Value).toArray s 0 0 (AA B0)) (F0 m 127 ls [.int t0_127]) := by
        intro t0_127 H locs ls hb_t0_127 hP hS hl hF
        rw [f7_decides_b127] at hF
        refine lv_istore_n (lv' := [(3, .int t0_127), (2, .int r2), (0, .ref (ad (279))), (1, .int a)]) hx hb dX7_decides_127 rfl hl (by decide) rfl (fun ls hl => ?_)
        refine lv_iload_n hx hb dX7_decides_128 rfl (lv_at hl 1 rfl) ?_
        have J180 : ∀ (w2_180 : Int32) (u_180 : (Nat → Int32)) (H : Heap) (locs : List Loc) (ls : Array Slot), bl w2_180 → okM u_180 → va_P D vwCl (pool G ad (va_up σ 16 u_180)) H → va_S (AA B0) s.heap H locs → lv_has ls 5 [(2, .int w2_180), (0, .ref (ad (279))), (1, .int a)] → f7_decides_b180 a w2_180 u_180 = FF → W p l e (headSpec wsX7_decides { frames := 9, cells := 0, slots := 0, locals := 205 }).room s m ([.ref (ad (279)), .int a] : List Value).toArray below meth c H locs 0 0 (MQ below (va_Qi (fun (r : Int32) (z : Nat → Int32) => (r, z) = f7_decides u a ∧ okM z ∧ bl r) (fun (z : Nat → Int32) => Ho D G ad (va_up σ 16 z)) (AA B0)) ([.ref (ad (279)), .int a] : List Value).toArray s 0 0 (AA B0)) (F0 m 180 ls []) := by
          intro w2_180 u_180 H locs ls hb_w2_180 hO hP hS hl hF
          rw [f7_decides_b180] at hF
          refine lv_aload_n hx hb dX7_decides_180 rfl (lv_at hl 1 rfl) ?_
          refine lv_iload_n hx hb dX7_decides_181 rfl (lv_at hl 2 rfl) ?_
          refine va_calli (va_runV (As := [.int a]) (rest := []) ⟨hx, hb, hml, hown, hts⟩ (c7_wayOf l hA σ u_180 a hba) (cwV 1 hts gX7_decides_X7_wayOf rfl rfl rfl hd_X7_wayOfV ⟨Nat.le_of_ble_eq_true rfl, Nat.le_of_ble_eq_true rfl⟩) ⟨hp_blind, va_recv hK hP (ci := 9) (q0 := 279) rfl c_279, hp_pre hK hN hP⟩ rfl rfl hl.1 rfl (lv_room (Nat.le_of_ble_eq_true rfl)) dX7_decides_182 ⟨Nat.zero_le _, Nat.zero_le _⟩) hS (fun _ _ h => h) (fun _ h => h) (fun r182 _ t H locs ht hvm hw9 hB hz1 hk1 hS => ?_)
          have hP := ho_at ht hB
          have eq182 := hw9
          have hF := bnd_s eq182 hF
          refine lv_istore (lv' := [(4, .int r182), (2, .int w2_180), (0, .ref (ad (279))), (1, .int a)]) hx hb dX7_decides_185 hl (by decide) rfl (fun ls hl => ?_)
          refine lv_iload hx hb dX7_decides_187 (lv_at hl 0 rfl) ?_
          have J220 : ∀ (u_220 : (Nat → Int32)) (H : Heap) (locs : List Loc) (ls : Array Slot), okM u_220 → va_P D vwCl (pool G ad (va_up σ 16 u_220)) H → va_S (AA B0) s.heap H locs → lv_has ls 5 [(4, .int r182), (2, .int w2_180), (0, .ref (ad (279))), (1, .int a)] → f7_decides_b220 a w2_180 r182 u_220 = FF → W p l e (headSpec wsX7_decides { frames := 9, cells := 0, slots := 0, locals := 205 }).room s m ([.ref (ad (279)), .int a] : List Value).toArray below meth c H locs 0 0 (MQ below (va_Qi (fun (r : Int32) (z : Nat → Int32) => (r, z) = f7_decides u a ∧ okM z ∧ bl r) (fun (z : Nat → Int32) => Ho D G ad (va_up σ 16 z)) (AA B0)) ([.ref (ad (279)), .int a] : List Value).toArray s 0 0 (AA B0)) (F0 m 220 ls []) := by
            intro u_220 H locs ls hO hP hS hl hF
            rw [f7_decides_b220] at hF
            refine lv_aload_n hx hb dX7_decides_220 rfl (lv_at hl 2 rfl) ?_
            refine lv_iload_n hx hb dX7_decides_221 rfl (lv_at hl 3 rfl) ?_
            refine lv_iload_n hx hb dX7_decides_222 rfl (lv_at hl 1 rfl) ?_
            refine va_calli (va_runV (As := [.int a, .int w2_180]) (rest := []) ⟨hx, hb, hml, hown, hts⟩ (c7_jumps l hA σ u_220 a w2_180 hO hba) (cwV 2 hts gX7_decides_X7_jumps rfl rfl rfl hd_X7_jumpsV ⟨Nat.le_of_ble_eq_true rfl, Nat.le_of_ble_eq_true rfl⟩) ⟨hp_blind, va_recv hK hP (ci := 9) (q0 := 279) rfl c_279, hp_pre hK hN hP⟩ rfl rfl hl.1 rfl (lv_room (Nat.le_of_ble_eq_true rfl)) dX7_decides_223 ⟨Nat.zero_le _, Nat.zero_le _⟩) hS (fun _ _ h => h) (fun _ h => h) (fun r223 u9 t H locs ht hvm hw9 hB hz1 hk1 hS => ?_)
            have hP := ho_at ht hB
            obtain ⟨eq223, ok9, hb_r223⟩ := hw9
            obtain ⟨u223, e_u223⟩ : ∃ z, z = u9 := ⟨_, rfl⟩
            rw [← e_u223] at hP eq223 ok9
            have hO := ok9
            have hF := bnd2_s eq223 hF
            have J231 : ∀ (w2_231 : Int32) (H : Heap) (locs : List Loc) (ls : Array Slot), bl w2_231 → va_P D vwCl (pool G ad (va_up σ 16 u223)) H → va_S (AA B0) s.heap H locs → lv_has ls 5 [(4, .int r182), (2, .int w2_231), (0, .ref (ad (279))), (1, .int a)] → f7_decides_b231 a r182 u223 w2_231 = FF → W p l e (headSpec wsX7_decides { frames := 9, cells := 0, slots := 0, locals := 205 }).room s m ([.ref (ad (279)), .int a] : List Value).toArray below meth c H locs 0 0 (MQ below (va_Qi (fun (r : Int32) (z : Nat → Int32) => (r, z) = f7_decides u a ∧ okM z ∧ bl r) (fun (z : Nat → Int32) => Ho D G ad (va_up σ 16 z)) (AA B0)) ([.ref (ad (279)), .int a] : List Value).toArray s 0 0 (AA B0)) (F0 m 231 ls []) := by
              intro w2_231 H locs ls hb_w2_231 hP hS hl hF
              rw [f7_decides_b231] at hF
              refine lv_aload_n hx hb dX7_decides_231 rfl (lv_at hl 2 rfl) ?_
              refine lv_iload_n hx hb dX7_decides_232 rfl (lv_at hl 3 rfl) ?_
              refine lv_bipush (v := 11) hx hb dX7_decides_233 (by decide) ?_
              refine va_calli (va_runV (As := [.int a, .int 11]) (rest := []) ⟨hx, hb, hml, hown, hts⟩ (c7_of l hA σ u223 a 11 (vp_in_iff.mpr (by decide)) hba) (cwV 2 hts gX7_decides_X7_of rfl rfl rfl hd_X7_ofV ⟨Nat.le_of_ble_eq_true rfl, Nat.le_of_ble_eq_true rfl⟩) ⟨hp_blind, va_recv hK hP (ci := 9) (q0 := 279) rfl c_279, hp_pre hK hN hP⟩ rfl rfl hl.1 rfl (lv_room (Nat.le_of_ble_eq_true rfl)) dX7_decides_235 ⟨Nat.zero_le _, Nat.zero_le _⟩) hS (fun _ _ h => h) (fun _ h => h) (fun r235 _ t H locs ht hvm hw9 hB hz1 hk1 hS => ?_)
              have hP := ho_at ht hB
              have eq235 := hw9
              have hF := bnd_s eq235 hF
              refine lv_iconst (v := 1) hx hb dX7_decides_238 (by decide) ?_
              have J268 : ∀ (u_268 : (Nat → Int32)) (H : Heap) (locs : List Loc) (ls : Array Slot), okM u_268 → va_P D vwCl (pool G ad (va_up σ 16 u_268)) H → va_S (AA B0) s.heap H locs → lv_has ls 5 [(4, .int r182), (2, .int w2_231), (0, .ref (ad (279))), (1, .int a)] → f7_decides_b268 a r182 w2_231 u_268 = FF → W p l e (headSpec wsX7_decides { frames := 9, cells := 0, slots := 0, locals := 205 }).room s m ([.ref (ad (279)), .int a] : List Value).toArray below meth c H locs 0 0 (MQ below (va_Qi (fun (r : Int32) (z : Nat → Int32) => (r, z) = f7_decides u a ∧ okM z ∧ bl r) (fun (z : Nat → Int32) => Ho D G ad (va_up σ 16 z)) (AA B0)) ([.ref (ad (279)), .int a] : List Value).toArray s 0 0 (AA B0)) (F0 m 268 ls []) := by
                intro u_268 H locs ls hO hP hS hl hF
                rw [f7_decides_b268] at hF
                refine lv_iload_n hx hb dX7_decides_268 rfl (lv_at hl 1 rfl) ?_
                refine lv_if_ne (tgt := 279) hx hb dX7_decides_269 (by decide) (fun c269 => ?_) (fun c269 => ?_)
                · have hF := iff_ c269 hF
                  refine lv_iload_n hx hb dX7_decides_279 rfl (lv_at hl 1 rfl) ?_
                  exact W.zret (v := w2_231) hx hb hr (bl_nar hb_w2_231) (fun t ht hW => ⟨⟨w2_231, u_268, rfl, ⟨hF.trans hFF, hO, hb_w2_231⟩, ho_of ht hP⟩, hS.F ht⟩) hS.2.2 dX7_decides_280
                · have hF := ift c269 hF
                  refine lv_aload_n hx hb dX7_decides_272 rfl (lv_at hl 2 rfl) ?_
                  refine lv_iload_n hx hb dX7_decides_273 rfl (lv_at hl 3 rfl) ?_
                  refine lv_iload hx hb dX7_decides_274 (lv_at hl 0 rfl) ?_
                  refine va_callv (va_runV (As := [.int a, .int r182]) (rest := []) ⟨hx, hb, hml, hown, hts⟩ (c7_falls l hA σ u_268 a r182 hO hba) (cwV 2 hts gX7_decides_X7_falls rfl rfl rfl hd_X7_fallsV ⟨Nat.le_of_ble_eq_true rfl, Nat.le_of_ble_eq_true rfl⟩) ⟨hp_blind, va_recv hK hP (ci := 9) (q0 := 279) rfl c_279, hp_pre hK hN hP⟩ rfl rfl hl.1 rfl (lv_room (Nat.le_of_ble_eq_true rfl)) dX7_decides_276 ⟨Nat.zero_le _, Nat.zero_le _⟩) hS (fun _ _ h => h) (fun _ h => h) (fun u9 t H locs ht hvm hw9 hB hz1 hk1 hS => ?_)
                  have hP := ho_at ht hB
                  obtain ⟨eq276, ok9⟩ := hw9
                  obtain ⟨u276, e_u276⟩ : ∃ z, z = u9 := ⟨_, rfl⟩
                  rw [← e_u276] at hP eq276 ok9
                  have hO := ok9
                  have hF := bnd_s eq276 hF
                  refine lv_iload_n hx hb dX7_decides_279 rfl (lv_at hl 1 rfl) ?_
                  exact W.zret (v := w2_231) hx hb hr (bl_nar hb_w2_231) (fun t ht hW => ⟨⟨w2_231, u276, rfl, ⟨hF.trans hFF, hO, hb_w2_231⟩, ho_of ht hP⟩, hS.F ht⟩) hS.2.2 dX7_decides_280
              refine lv_icmp_ne (tgt := 268) hx hb dX7_decides_239 (by decide) (fun c239 => ?_) (fun c239 => ?_)
              · have hF := iff_ c239 hF
                exact J268 u223 _ _ ls hO hP hS (lv_sub hl [0, 1, 2, 3] rfl) hF
              · have hF := ift c239 hF
                refine lv_aload_n hx hb dX7_decides_242 rfl (lv_at hl 2 rfl) ?_
                refine lv_iload_n hx hb dX7_decides_243 rfl (lv_at hl 3 rfl) ?_
                refine lv_iconst (v := 3) hx hb dX7_decides_244 (by decide) ?_
                refine va_calli (va_runV (As := [.int a, .int 3]) (rest := []) ⟨hx, hb, hml, hown, hts⟩ (c7_of l hA σ u223 a 3 (vp_in_iff.mpr (by decide)) hba) (cwV 2 hts gX7_decides_X7_of rfl rfl rfl hd_X7_ofV ⟨Nat.le_of_ble_eq_true rfl, Nat.le_of_ble_eq_true rfl⟩) ⟨hp_blind, va_recv hK hP (ci := 9) (q0 := 279) rfl c_279, hp_pre hK hN hP⟩ rfl rfl hl.1 rfl (lv_room (Nat.le_of_ble_eq_true rfl)) dX7_decides_245 ⟨Nat.zero_le _, Nat.zero_le _⟩) hS (fun _ _ h => h) (fun _ h => h) (fun r245 _ t H locs ht hvm hw9 hB hz1 hk1 hS => ?_)
                have hP := ho_at ht hB
                have eq245 := hw9
                have hF := bnd_s eq245 hF
                refine lv_iconst (v := 4) hx hb dX7_decides_248 (by decide) ?_
                refine lv_icmp_le (tgt := 268) hx hb dX7_decides_249 (by decide) (fun c249 => ?_) (fun c249 => ?_)
                · have hF := ift c249 hF
                  exact J268 u223 _ _ ls hO hP hS (lv_sub hl [0, 1, 2, 3] rfl) hF
                · have hF := iff_ c249 hF
                  refine lv_aload_n hx hb dX7_decides_252 rfl (lv_at hl 2 rfl) ?_
                  refine lv_iload_n hx hb dX7_decides_253 rfl (lv_at hl 3 rfl) ?_
                  refine lv_iconst (v := 4) hx hb dX7_decides_254 (by decide) ?_
                  refine va_calli (va_runV (As := [.int a, .int 4]) (rest := []) ⟨hx, hb, hml, hown, hts⟩ (c7_isPressed l hA σ u223 a 4 hba) (cwV 2 hts gX7_decides_X7_isPressed rfl rfl rfl hd_X7_isPressedV ⟨Nat.le_of_ble_eq_true rfl, Nat.le_of_ble_eq_true rfl⟩) ⟨hp_blind, va_recv hK hP (ci := 9) (q0 := 279) rfl c_279, hp_pre hK hN hP⟩ rfl rfl hl.1 rfl (lv_room (Nat.le_of_ble_eq_true rfl)) dX7_decides_255 ⟨Nat.zero_le _, Nat.zero_le _⟩) hS (fun _ _ h => h) (fun _ h => h) (fun r255 _ t H locs ht hvm hw9 hB hz1 hk1 hS => ?_)
                  have hP := ho_at ht hB
                  obtain ⟨eq255, hb_r255⟩ := hw9
                  have hF := bnd_s eq255 hF
                  refine lv_if_ne (tgt := 268) hx hb dX7_decides_258 (by decide) (fun c258 => ?_) (fun c258 => ?_)
                  · have hF := iff_ c258 hF
                    exact J268 u223 _ _ ls hO hP hS (lv_sub hl [0, 1, 2, 3] rfl) hF
                  · have hF := ift c258 hF
                    refine lv_aload_n hx hb dX7_decides_261 rfl (lv_at hl 2 rfl) ?_
                    refine lv_iload_n hx hb dX7_decides_262 rfl (lv_at hl 3 rfl) ?_
                    refine lv_iconst (v := 3) hx hb dX7_decides_263 (by decide) ?_
                    refine lv_iconst (v := 4) hx hb dX7_decides_264 (by decide) ?_
                    refine va_callv (va_runV (As := [.int a, .int 3, .int 4]) (rest := []) ⟨hx, hb, hml, hown, hts⟩ (c7_sets l hA σ u223 a 3 4 hO (vp_in_iff.mpr (by decide)) hba) (cwV 3 hts gX7_decides_X7_sets rfl rfl rfl hd_X7_setsV ⟨Nat.le_of_ble_eq_true rfl, Nat.le_of_ble_eq_true rfl⟩) ⟨hp_blind, va_recv hK hP (ci := 9) (q0 := 279) rfl c_279, hp_pre hK hN hP⟩ rfl rfl hl.1 rfl (lv_room (Nat.le_of_ble_eq_true rfl)) dX7_decides_265 ⟨Nat.zero_le _, Nat.zero_le _⟩) hS (fun _ _ h => h) (fun _ h => h) (fun u9 t H locs ht hvm hw9 hB hz1 hk1 hS => ?_)
                    have hP := ho_at ht hB
                    obtain ⟨eq265, ok9⟩ := hw9
                    obtain ⟨u265, e_u265⟩ : ∃ z, z = u9 := ⟨_, rfl⟩
                    rw [← e_u265] at hP eq265 ok9
                    have hO := ok9
                    have hF := bnd_s eq265 hF
                    exact J268 u265 _ _ ls hO hP hS (lv_sub hl [0, 1, 2, 3] rfl) hF
            refine lv_if_eq (tgt := 231) hx hb dX7_decides_226 (by decide) (fun c226 => ?_) (fun c226 => ?_)
            · have hF := ift c226 hF
              exact J231 w2_180 _ _ ls hb_w2_180 hP hS (lv_sub hl [0, 1, 2, 3] rfl) hF
            · have hF := iff_ c226 hF
              refine lv_iconst (v := 0) hx hb dX7_decides_229 (by decide) ?_
              refine lv_istore_n (lv' := [(2, .int 0), (4, .int r182), (0, .ref (ad (279))), (1, .int a)]) hx hb dX7_decides_230 rfl hl (by decide) rfl (fun ls hl => ?_)
              exact J231 0 _ _ ls bl0 hP hS (lv_sub hl [1, 0, 2, 3] rfl) hF
          refine lv_if_eq (tgt := 203) hx hb dX7_decides_189 (by decide) (fun c189 => ?_) (fun c189 => ?_)
          · have hF := ift c189 hF
            refine lv_iload_n hx hb dX7_decides_203 rfl (lv_at hl 1 rfl) ?_
            refine lv_if_eq (tgt := 220) hx hb dX7_decides_204 (by decide) (fun c204 => ?_) (fun c204 => ?_)
            · have hF := ift c204 hF
              exact J220 u_180 _ _ ls hO hP hS (lv_sub hl [0, 1, 2, 3] rfl) hF
            · have hF := iff_ c204 hF
              refine lv_aload_n hx hb dX7_decides_207 rfl (lv_at hl 2 rfl) ?_
              refine lv_iload_n hx hb dX7_decides_208 rfl (lv_at hl 3 rfl) ?_
              refine va_calli (va_runV (As := [.int a]) (rest := []) ⟨hx, hb, hml, hown, hts⟩ (c7_isOnIce l hA σ u_180 a hba) (cwV 1 hts gX7_decides_X7_isOnIce rfl rfl rfl hd_X7_isOnIceV ⟨Nat.le_of_ble_eq_true rfl, Nat.le_of_ble_eq_true rfl⟩) ⟨hp_blind, va_recv hK hP (ci := 9) (q0 := 279) rfl c_279, hp_pre hK hN hP⟩ rfl rfl hl.1 rfl (lv_room (Nat.le_of_ble_eq_true rfl)) dX7_decides_209 ⟨Nat.zero_le _, Nat.zero_le _⟩) hS (fun _ _ h => h) (fun _ h => h) (fun r209 _ t H locs ht hvm hw9 hB hz1 hk1 hS => ?_)
              have hP := ho_at ht hB
              obtain ⟨eq209, hb_r209⟩ := hw9
              have hF := bnd_s eq209 hF
              refine lv_if_ne (tgt := 220) hx hb dX7_decides_212 (by decide) (fun c212 => ?_) (fun c212 => ?_)
              · have hF := iff_ c212 hF
                exact J220 u_180 _ _ ls hO hP hS (lv_sub hl [0, 1, 2, 3] rfl) hF
              · have hF := ift c212 hF
                refine lv_aload_n hx hb dX7_decides_215 rfl (lv_at hl 2 rfl) ?_
                refine lv_iload_n hx hb dX7_decides_216 rfl (lv_at hl 3 rfl) ?_
                refine va_callv (va_runV (As := [.int a]) (rest := []) ⟨hx, hb, hml, hown, hts⟩ (c7_slowsDown l hA σ u_180 a hO hba) (cwV 1 hts gX7_decides_X7_slowsDown rfl rfl rfl hd_X7_slowsDownV ⟨Nat.le_of_ble_eq_true rfl, Nat.le_of_ble_eq_true rfl⟩) ⟨hp_blind, va_recv hK hP (ci := 9) (q0 := 279) rfl c_279, hp_pre hK hN hP⟩ rfl rfl hl.1 rfl (lv_room (Nat.le_of_ble_eq_true rfl)) dX7_decides_217 ⟨Nat.zero_le _, Nat.zero_le _⟩) hS (fun _ _ h => h) (fun _ h => h) (fun u9 t H locs ht hvm hw9 hB hz1 hk1 hS => ?_)
                have hP := ho_at ht hB
                obtain ⟨eq217, ok9⟩ := hw9
                obtain ⟨u217, e_u217⟩ : ∃ z, z = u9 := ⟨_, rfl⟩
                rw [← e_u217] at hP eq217 ok9
                have hO := ok9
                have hF := bnd_s eq217 hF
                exact J220 u217 _ _ ls hO hP hS (lv_sub hl [0, 1, 2, 3] rfl) hF
          · have hF := iff_ c189 hF
            refine lv_aload_n hx hb dX7_decides_192 rfl (lv_at hl 2 rfl) ?_
            refine lv_iload_n hx hb dX7_decides_193 rfl (lv_at hl 3 rfl) ?_
            refine lv_iload hx hb dX7_decides_194 (lv_at hl 0 rfl) ?_
            refine lv_iload_n hx hb dX7_decides_196 rfl (lv_at hl 1 rfl) ?_
            refine va_callv (va_runV (As := [.int a, .int r182, .int w2_180]) (rest := []) ⟨hx, hb, hml, hown, hts⟩ (c7_speedsUp l hA σ u_180 a r182 w2_180 hO hba) (cwV 3 hts gX7_decides_X7_speedsUp rfl rfl rfl hd_X7_speedsUpV ⟨Nat.le_of_ble_eq_true rfl, Nat.le_of_ble_eq_true rfl⟩) ⟨hp_blind, va_recv hK hP (ci := 9) (q0 := 279) rfl c_279, hp_pre hK hN hP⟩ rfl rfl hl.1 rfl (lv_room (Nat.le_of_ble_eq_true rfl)) dX7_decides_197 ⟨Nat.zero_le _, Nat.zero_le _⟩) hS (fun _ _ h => h) (fun _ h => h) (fun u9 t H locs ht hvm hw9 hB hz1 hk1 hS => ?_)
            have hP := ho_at ht hB
            obtain ⟨eq197, ok9⟩ := hw9
            obtain ⟨u197, e_u197⟩ : ∃ z, z = u9 := ⟨_, rfl⟩
            rw [← e_u197] at hP eq197 ok9
            have hO := ok9
            have hF := bnd_s eq197 hF
            refine lv_goto (tgt := 220) hx hb dX7_decides_200 (by decide) ?_
            exact J220 u197 _ _ ls hO hP hS (lv_sub hl [0, 1, 2, 3] rfl) hF
        refine lv_if_eq (tgt := 180) hx hb dX7_decides_129 (by decide) (fun c129 => ?_) (fun c129 => ?_)
        · have hF := ift c129 hF
          exact J180 r2 u79 _ _ ls hb_r2 hO hP hS (lv_sub hl [1, 2, 3] rfl) hF
        · have hF := iff_ c129 hF
          refine lv_iload_n hx hb dX7_decides_132 rfl (lv_at hl 0 rfl) ?_
          refine lv_if_ne (tgt := 180) hx hb dX7_decides_133 (by decide) (fun c133 => ?_) (fun c133 => ?_)
          · have hF := iff_ c133 hF
            exact J180 r2 u79 _ _ ls hb_r2 hO hP hS (lv_sub hl [1, 2, 3] rfl) hF
          · have hF := ift c133 hF
            refine lv_aload_n hx hb dX7_decides_136 rfl (lv_at hl 2 rfl) ?_
            refine lv_iload_n hx hb dX7_decides_137 rfl (lv_at hl 3 rfl) ?_
            refine lv_bipush (v := 8) hx hb dX7_decides_138 (by decide) ?_
            refine va_calli (va_runV (As := [.int a, .int 8]) (rest := []) ⟨hx, hb, hml, hown, hts⟩ (c7_isPressed l hA σ u79 a 8 hba) (cwV 2 hts gX7_decides_X7_isPressed rfl rfl rfl hd_X7_isPressedV ⟨Nat.le_of_ble_eq_true rfl, Nat.le_of_ble_eq_true rfl⟩) ⟨hp_blind, va_recv hK hP (ci := 9) (q0 := 279) rfl c_279, hp_pre hK hN hP⟩ rfl rfl hl.1 rfl (lv_room (Nat.le_of_ble_eq_true rfl)) dX7_decides_140 ⟨Nat.zero_le _, Nat.zero_le _⟩) hS (fun _ _ h => h) (fun _ h => h) (fun r140 _ t H locs ht hvm hw9 hB hz1 hk1 hS => ?_)
            have hP := ho_at ht hB
            obtain ⟨eq140, hb_r140⟩ := hw9
            have hF := bnd_s eq140 hF
            refine lv_if_eq (tgt := 180) hx hb dX7_decides_143 (by decide) (fun c143 => ?_) (fun c143 => ?_)
            · have hF := ift c143 hF
              exact J180 r2 u79 _ _ ls hb_r2 hO hP hS (lv_sub hl [1, 2, 3] rfl) hF
            · have hF := iff_ c143 hF
              refine lv_aload_n hx hb dX7_decides_146 rfl (lv_at hl 2 rfl) ?_
              refine lv_iload_n hx hb dX7_decides_147 rfl (lv_at hl 3 rfl) ?_
              refine lv_iconst (v := 5) hx hb dX7_decides_148 (by decide) ?_
              refine va_calli (va_runV (As := [.int a, .int 5]) (rest := []) ⟨hx, hb, hml, hown, hts⟩ (c7_of l hA σ u79 a 5 (vp_in_iff.mpr (by decide)) hba) (cwV 2 hts gX7_decides_X7_of rfl rfl rfl hd_X7_ofV ⟨Nat.le_of_ble_eq_true rfl, Nat.le_of_ble_eq_true rfl⟩) ⟨hp_blind, va_recv hK hP (ci := 9) (q0 := 279) rfl c_279, hp_pre hK hN hP⟩ rfl rfl hl.1 rfl (lv_room (Nat.le_of_ble_eq_true rfl)) dX7_decides_149 ⟨Nat.zero_le _, Nat.zero_le _⟩) hS (fun _ _ h => h) (fun _ h => h) (fun r149 _ t H locs ht hvm hw9 hB hz1 hk1 hS => ?_)
              have hP := ho_at ht hB
              have eq149 := hw9
              have hF := bnd_s eq149 hF
              refine lv_if_le (tgt := 180) hx hb dX7_decides_152 (by decide) (fun c152 => ?_) (fun c152 => ?_)
              · have hF := ift c152 hF
                exact J180 r2 u79 _ _ ls hb_r2 hO hP hS (lv_sub hl [1, 2, 3] rfl) hF
              · have hF := iff_ c152 hF
                refine lv_aload_n hx hb dX7_decides_155 rfl (lv_at hl 2 rfl) ?_
                refine lv_iload_n hx hb dX7_decides_156 rfl (lv_at hl 3 rfl) ?_
                refine lv_bipush (v := 6) hx hb dX7_decides_157 (by decide) ?_
                refine lv_bipush (v := 8) hx hb dX7_decides_159 (by decide) ?_
                refine va_callv (va_runV (As := [.int a, .int 6, .int 8]) (rest := []) ⟨hx, hb, hml, hown, hts⟩ (c7_sets l hA σ u79 a 6 8 hO (vp_in_iff.mpr (by decide)) hba) (cwV 3 hts gX7_decides_X7_sets rfl rfl rfl hd_X7_setsV ⟨Nat.le_of_ble_eq_true rfl, Nat.le_of_ble_eq_true rfl⟩) ⟨hp_blind, va_recv hK hP (ci := 9) (q0 := 279) rfl c_279, hp_pre hK hN hP⟩ rfl rfl hl.1 rfl (lv_room (Nat.le_of_ble_eq_true rfl)) dX7_decides_161 ⟨Nat.zero_le _, Nat.zero_le _⟩) hS (fun _ _ h => h) (fun _ h => h) (fun u9 t H locs ht hvm hw9 hB hz1 hk1 hS => ?_)
                have hP := ho_at ht hB
                obtain ⟨eq161, ok9⟩ := hw9
                obtain ⟨u161, e_u161⟩ : ∃ z, z = u9 := ⟨_, rfl⟩
                rw [← e_u161] at hP eq161 ok9
                have hO := ok9
                have hF := bnd_s eq161 hF
                refine lv_aload_n hx hb dX7_decides_164 rfl (lv_at hl 2 rfl) ?_
                refine lv_iload_n hx hb dX7_decides_165 rfl (lv_at hl 3 rfl) ?_
                refine lv_iconst (v := 5) hx hb dX7_decides_166 (by decide) ?_
                refine lv_iconst (v := 0) hx hb dX7_decides_167 (by decide) ?_
                refine va_callv (va_runV (As := [.int a, .int 5, .int 0]) (rest := []) ⟨hx, hb, hml, hown, hts⟩ (c7_sets l hA σ u161 a 5 0 hO (vp_in_iff.mpr (by decide)) hba) (cwV 3 hts gX7_decides_X7_sets rfl rfl rfl hd_X7_setsV ⟨Nat.le_of_ble_eq_true rfl, Nat.le_of_ble_eq_true rfl⟩) ⟨hp_blind, va_recv hK hP (ci := 9) (q0 := 279) rfl c_279, hp_pre hK hN hP⟩ rfl rfl hl.1 rfl (lv_room (Nat.le_of_ble_eq_true rfl)) dX7_decides_168 ⟨Nat.zero_le _, Nat.zero_le _⟩) hS (fun _ _ h => h) (fun _ h => h) (fun u9 t H locs ht hvm hw9 hB hz1 hk1 hS => ?_)
                have hP := ho_at ht hB
                obtain ⟨eq168, ok9⟩ := hw9
                obtain ⟨u168, e_u168⟩ : ∃ z, z = u9 := ⟨_, rfl⟩
                rw [← e_u168] at hP eq168 ok9
                have hO := ok9
                have hF := bnd_s eq168 hF
                refine lv_aload_n hx hb dX7_decides_171 rfl (lv_at hl 2 rfl) ?_
                refine lv_iload_n hx hb dX7_decides_172 rfl (lv_at hl 3 rfl) ?_
                refine lv_iconst (v := 4) hx hb dX7_decides_173 (by decide) ?_
                refine lv_iconst (v := 0) hx hb dX7_decides_174 (by decide) ?_
                refine va_callv (va_runV (As := [.int a, .int 4, .int 0]) (rest := []) ⟨hx, hb, hml, hown, hts⟩ (c7_sets l hA σ u168 a 4 0 hO (vp_in_iff.mpr (by decide)) hba) (cwV 3 hts gX7_decides_X7_sets rfl rfl rfl hd_X7_setsV ⟨Nat.le_of_ble_eq_true rfl, Nat.le_of_ble_eq_true rfl⟩) ⟨hp_blind, va_recv hK hP (ci := 9) (q0 := 279) rfl c_279, hp_pre hK hN hP⟩ rfl rfl hl.1 rfl (lv_room (Nat.le_of_ble_eq_true rfl)) dX7_decides_175 ⟨Nat.zero_le _, Nat.zero_le _⟩) hS (fun _ _ h => h) (fun _ h => h) (fun u9 t H locs ht hvm hw9 hB hz1 hk1 hS => ?_)
                have hP := ho_at ht hB
                obtain ⟨eq175, ok9⟩ := hw9
                obtain ⟨u175, e_u175⟩ : ∃ z, z = u9 := ⟨_, rfl⟩
                rw [← e_u175] at hP eq175 ok9
                have hO := ok9
                have hF := bnd_s eq175 hF
                refine lv_iconst (v := 0) hx hb dX7_decides_178 (by decide) ?_
                refine lv_istore_n (lv' := [(2, .int 0), (3, .int t0_127), (0, .ref (ad (279))), (1, .int a)]) hx hb dX7_decides_179 rfl hl (by decide) rfl (fun ls hl => ?_)
                exact J180 0 u175 _ _ ls bl0 hO hP hS (lv_sub hl [0, 2, 3] rfl) hF
      have J122 : ∀  (H : Heap) (locs : List Loc) (ls : Array Slot), va_P D vwCl (pool G ad (va_up σ 16 u79)) H → va_S (AA B0) s.heap H locs → lv_has ls 5 [(2, .int r2), (0, .ref (ad (279))), (1, .int a)] → f7_decides_b122 a r2 u79  = FF → W p l e (headSpec wsX7_decides { frames := 9, cells := 0, slots := 0, locals := 205 }).room s m ([.ref (ad (279)), .int a] : List Value).toArray below meth c H locs 0 0 (MQ below (va_Qi (fun (r : Int32) (z : Nat → Int32) => (r, z) = f7_decides u a ∧ okM z ∧ bl r) (fun (z : Nat → Int32) => Ho D G ad (va_up σ 16 z)) (AA B0)) ([.ref (ad (279)), .int a] : List Value).toArray s 0 0 (AA B0)) (F0 m 122 ls []) := by
        intro  H locs ls hP hS hl hF
        rw [f7_decides_b122] at hF
        refine lv_iconst (v := 1) hx hb dX7_decides_122 (by decide) ?_
        refine lv_goto (tgt := 127) hx hb dX7_decides_123 (by decide) ?_
        exact J127 1 _ _ ls bl1 hP hS (lv_sub hl [0, 1, 2] rfl) hF
      refine lv_if_ne (tgt := 122) hx hb dX7_decides_99 (by decide) (fun c99 => ?_) (fun c99 => ?_)
      · have hF := iff_ c99 hF
        exact J122  _ _ ls hP hS (lv_sub hl [0, 1, 2] rfl) hF
      · have hF := ift c99 hF
        refine lv_aload_n hx hb dX7_decides_102 rfl (lv_at hl 1 rfl) ?_
        refine lv_iload_n hx hb dX7_decides_103 rfl (lv_at hl 2 rfl) ?_
        refine lv_aload_n hx hb dX7_decides_104 rfl (lv_at hl 1 rfl) ?_
        refine lv_iload_n hx hb dX7_decides_105 rfl (lv_at hl 2 rfl) ?_
        refine lv_iconst (v := 0) hx hb dX7_decides_106 (by decide) ?_
        refine va_calli (va_runV (As := [.int a, .int 0]) (rest := [.int a, .ref (ad (279))]) ⟨hx, hb, hml, hown, hts⟩ (c7_of l hA σ u79 a 0 (vp_in_iff.mpr (by decide)) hba) (cwV 2 hts gX7_decides_X7_of rfl rfl rfl hd_X7_ofV ⟨Nat.le_of_ble_eq_true rfl, Nat.le_of_ble_eq_true rfl⟩) ⟨hp_blind, va_recv hK hP (ci := 9) (q0 := 279) rfl c_279, hp_pre hK hN hP⟩ rfl rfl hl.1 rfl (lv_room (Nat.le_of_ble_eq_true rfl)) dX7_decides_107 ⟨Nat.zero_le _, Nat.zero_le _⟩) hS (fun _ _ h => h) (fun _ h => h) (fun r107 _ t H locs ht hvm hw9 hB hz1 hk1 hS => ?_)
        have hP := ho_at ht hB
        have eq107 := hw9
        have hF := bnd_s eq107 hF
        refine lv_aload_n hx hb dX7_decides_110 rfl (lv_at hl 1 rfl) ?_
        refine lv_iload_n hx hb dX7_decides_111 rfl (lv_at hl 2 rfl) ?_
        refine lv_iconst (v := 1) hx hb dX7_decides_112 (by decide) ?_
        refine va_calli (va_runV (As := [.int a, .int 1]) (rest := [.int r107, .int a, .ref (ad (279))]) ⟨hx, hb, hml, hown, hts⟩ (c7_of l hA σ u79 a 1 (vp_in_iff.mpr (by decide)) hba) (cwV 2 hts gX7_decides_X7_of rfl rfl rfl hd_X7_ofV ⟨Nat.le_of_ble_eq_true rfl, Nat.le_of_ble_eq_true rfl⟩) ⟨hp_blind, va_recv hK hP (ci := 9) (q0 := 279) rfl c_279, hp_pre hK hN hP⟩ rfl rfl hl.1 rfl (lv_room (Nat.le_of_ble_eq_true rfl)) dX7_decides_113 ⟨Nat.zero_le _, Nat.zero_le _⟩) hS (fun _ _ h => h) (fun _ h => h) (fun r113 _ t H locs ht hvm hw9 hB hz1 hk1 hS => ?_)
        have hP := ho_at ht hB
        have eq113 := hw9
        have hF := bnd_s eq113 hF
        refine va_calli (va_runV (As := [.int a, .int r107, .int r113]) (rest := []) ⟨hx, hb, hml, hown, hts⟩ (c7_isOnSlope l hA σ u79 a r107 r113 hba) (cwV 3 hts gX7_decides_X7_isOnSlope rfl rfl rfl hd_X7_isOnSlopeV ⟨Nat.le_of_ble_eq_true rfl, Nat.le_of_ble_eq_true rfl⟩) ⟨hp_blind, va_recv hK hP (ci := 9) (q0 := 279) rfl c_279, hp_pre hK hN hP⟩ rfl rfl hl.1 rfl (lv_room (Nat.le_of_ble_eq_true rfl)) dX7_decides_116 ⟨Nat.zero_le _, Nat.zero_le _⟩) hS (fun _ _ h => h) (fun _ h => h) (fun r116 _ t H locs ht hvm hw9 hB hz1 hk1 hS => ?_)
        have hP := ho_at ht hB
        obtain ⟨eq116, hb_r116⟩ := hw9
        have hF := bnd_s eq116 hF
        refine lv_if_eq (tgt := 126) hx hb dX7_decides_119 (by decide) (fun c119 => ?_) (fun c119 => ?_)
        · have hF := ift c119 hF
          refine lv_iconst (v := 0) hx hb dX7_decides_126 (by decide) ?_
          exact J127 0 _ _ ls bl0 hP hS (lv_sub hl [0, 1, 2] rfl) hF
        · have hF := iff_ c119 hF
          exact J122  _ _ ls hP hS (lv_sub hl [0, 1, 2] rfl) hF
    have J69 : ∀  (H : Heap) (locs : List Loc) (ls : Array Slot), va_P D vwCl (pool G ad (va_up σ 16 u32)) H → va_S (AA B0) s.heap H locs → lv_has ls 5 [(2, .int r2), (0, .ref (ad (279))), (1, .int a)] → f7_decides_b69 a r2 u32  = FF → W p l e (headSpec wsX7_decides { frames := 9, cells := 0, slots := 0, locals := 205 }).room s m ([.ref (ad (279)), .int a] : List Value).toArray below meth c H locs 0 0 (MQ below (va_Qi (fun (r : Int32) (z : Nat → Int32) => (r, z) = f7_decides u a ∧ okM z ∧ bl r) (fun (z : Nat → Int32) => Ho D G ad (va_up σ 16 z)) (AA B0)) ([.ref (ad (279)), .int a] : List Value).toArray s 0 0 (AA B0)) (F0 m 69 ls [.int (u32 483), .int 5, .int a, .ref (ad (279))]) := by
      intro  H locs ls hP hS hl hF
      rw [f7_decides_b69] at hF
      refine lv_iconst (v := 0) hx hb dX7_decides_69 (by decide) ?_
      exact J70 0 _ _ ls bl0 hP hS (lv_sub hl [0, 1, 2] rfl) hF
    refine lv_if_eq (tgt := 69) hx hb dX7_decides_50 (by decide) (fun c50 => ?_) (fun c50 => ?_)
    · have hF := ift c50 hF
      exact J69  _ _ ls hP hS (lv_sub hl [0, 1, 2] rfl) hF
    · have hF := iff_ c50 hF
      refine lv_aload_n hx hb dX7_decides_53 rfl (lv_at hl 1 rfl) ?_
      refine lv_iload_n hx hb dX7_decides_54 rfl (lv_at hl 2 rfl) ?_
      refine lv_bipush (v := 10) hx hb dX7_decides_55 (by decide) ?_
      refine va_calli (va_runV (As := [.int a, .int 10]) (rest := [.int (u32 483), .int 5, .int a, .ref (ad (279))]) ⟨hx, hb, hml, hown, hts⟩ (c7_of l hA σ u32 a 10 (vp_in_iff.mpr (by decide)) hba) (cwV 2 hts gX7_decides_X7_of rfl rfl rfl hd_X7_ofV ⟨Nat.le_of_ble_eq_true rfl, Nat.le_of_ble_eq_true rfl⟩) ⟨hp_blind, va_recv hK hP (ci := 9) (q0 := 279) rfl c_279, hp_pre hK hN hP⟩ rfl rfl hl.1 rfl (lv_room (Nat.le_of_ble_eq_true rfl)) dX7_decides_57 ⟨Nat.zero_le _, Nat.zero_le _⟩) hS (fun _ _ h => h) (fun _ h => h) (fun r57 _ t H locs ht hvm hw9 hB hz1 hk1 hS => ?_)
      have hP := ho_at ht hB
      have eq57 := hw9
      have hF := bnd_s eq57 hF
      refine lv_iconst (v := 4) hx hb dX7_decides_60 (by decide) ?_
      refine lv_iand hx hb dX7_decides_61 ?_
      refine lv_if_ne (tgt := 69) hx hb dX7_decides_62 (by decide) (fun c62 => ?_) (fun c62 => ?_)
      · have hF := iff_ c62 hF
        exact J69  _ _ ls hP hS (lv_sub hl [0, 1, 2] rfl) hF
      · have hF := ift c62 hF
        refine lv_iconst (v := 1) hx hb dX7_decides_65 (by decide) ?_
        refine lv_goto (tgt := 70) hx hb dX7_decides_66 (by decide) ?_
        exact J70 1 _ _ ls bl1 hP hS (lv_sub hl [0, 1, 2] rfl) hF
  refine lv_if_eq (tgt := 18) hx hb dX7_decides_11 (by decide) (fun c11 => ?_) (fun c11 => ?_)
  · have hF := ift c11 hF
    refine lv_iconst (v := 0) hx hb dX7_decides_18 (by decide) ?_
    exact J19 0 _ _ ls bl0 hP hS (lv_sub hl [0, 1, 2] rfl) hF
  · have hF := iff_ c11 hF
    refine lv_iconst (v := 1) hx hb dX7_decides_14 (by decide) ?_
    refine lv_goto (tgt := 19) hx hb dX7_decides_15 (by decide) ?_
    exact J19 1 _ _ ls bl1 hP hS (lv_sub hl [0, 1, 2] rfl) hF
theorem hd_X7_decidesV : yX7_decides.cls = RX7 ∧ yX7_decides.cls ≠ "java/lang/invoke/MethodHandle" ∧ yX7_decides.cls ≠ "java/lang/invoke/VarHandle" ∧ (parseMethodDescriptor yX7_decides.desc).map (fun d => d.parameters.length) = some 1 := by decide +kernel
set_option maxHeartbeats 4000000 in
set_option maxRecDepth 100000 in
theorem c7_updates (l : Launch) {D : va_G} {G : CY} {ad : Nat → Nat} {B0 : Nat} (hA : adOK B0 ad) (σ : Nat → Nat → Int32) (u : Nat → Int32) (a : Int32) (hO : okM u) (hba : vp_in a 4) : Met l yX7_updates wsX7_updates { frames := 11, cells := 0, slots := 0, locals := 257 } (va_Pc [.ref (ad (279)), .int a] (Hp D G ad (va_up σ 16 u))) (va_Qv (fun (z : Nat → Int32) => z = f7_updates u a ∧ okM z) (fun (z : Nat → Int32) => Ho D G ad (va_up σ 16 z)) (AA B0)) 0 0 (AA B0) := by
  refine Met.ofW (cc := cX7_updates) (maxL := 3) (ret := none) (by decide) rfl ?_
  intro p e s m args below meth c s₁ B hml hv
  obtain ⟨rfl, hP, hK, hN⟩ := hv
  have hx := B.exec
  have hb := B.bytes
  have hr := B.returns
  have hts := atoms_spec (ws := wsX7_updates) B.pre
  have hown : s.vm.findClass RX7 = some m.cls := findClass_of_methodNamed B.named
  have hlocks := B.notSynchronized
  have hP : va_P D vwCl (pool G ad (va_up σ 16 u)) s.heap := hP
  have hS : va_S (AA B0) s.heap s.heap [] := va_S.rf
  have hl := lv_entry ([.ref (ad (279)), .int a]) (n := 3) (Nat.le_of_ble_eq_true rfl)
  rw [lg_entry_eq]
  generalize (lg_sl ([.ref (ad (279)), .int a]) ++ List.replicate (3 - (lg_sl ([.ref (ad (279)), .int a])).length) Slot.unset).toArray = ls at hl ⊢
  have hl : lv_has ls 3 [(0, .ref (ad (279))), (1, .int a)] := hl
  obtain ⟨FF, hFF⟩ : ∃ z, z = f7_updates u a := ⟨_, rfl⟩
  have hF := hFF.symm
  rw [f7_updates] at hF
  refine lv_aload_n hx hb dX7_updates_0 rfl (lv_at hl 0 rfl) ?_
  refine lv_iload_n hx hb dX7_updates_1 rfl (lv_at hl 1 rfl) ?_
  refine va_calli (va_runV (As := [.int a]) (rest := []) ⟨hx, hb, hml, hown, hts⟩ (c7_decides l hA σ u a hO hba) (cwV 1 hts gX7_updates_X7_decides rfl rfl rfl hd_X7_decidesV ⟨Nat.le_of_ble_eq_true rfl, Nat.le_of_ble_eq_true rfl⟩) ⟨hp_blind, va_recv hK hP (ci := 9) (q0 := 279) rfl c_279, hp_pre hK hN hP⟩ rfl rfl hl.1 rfl (lv_room (Nat.le_of_ble_eq_true rfl)) dX7_updates_2 ⟨Nat.zero_le _, Nat.zero_le _⟩) hS (fun _ _ h => h) (fun _ h => h) (fun r2 u9 t H locs ht hvm hw9 hB hz1 hk1 hS => ?_)
  have hP := ho_at ht hB
  obtain ⟨eq2, ok9, hb_r2⟩ := hw9
  obtain ⟨u2, e_u2⟩ : ∃ z, z = u9 := ⟨_, rfl⟩
  rw [← e_u2] at hP eq2 ok9
  have hO := ok9
  have hF := bnd2_s eq2 hF
  have J60 : ∀ (u_60 : (Nat → Int32)) (H : Heap) (locs : List Loc) (ls : Array Slot), okM u_60 → va_P D vwCl (pool G ad (va_up σ 16 u_60)) H → va_S (AA B0) s.heap H locs → lv_has ls 3 [(0, .ref (ad (279))), (1, .int a)] → f7_updates_b60 a u_60 = FF → W p l e (headSpec wsX7_updates { frames := 11, cells := 0, slots := 0, locals := 257 }).room s m ([.ref (ad (279)), .int a] : List Value).toArray below meth c H locs 0 0 (MQ below (va_Qv (fun (z : Nat → Int32) => z = f7_updates u a ∧ okM z) (fun (z : Nat → Int32) => Ho D G ad (va_up σ 16 z)) (AA B0)) ([.ref (ad (279)), .int a] : List Value).toArray s 0 0 (AA B0)) (F0 m 60 ls []) := by
    intro u_60 H locs ls hO hP hS hl hF
    rw [f7_updates_b60] at hF
    refine lv_aload_n hx hb dX7_updates_60 rfl (lv_at hl 0 rfl) ?_
    refine lv_iload_n hx hb dX7_updates_61 rfl (lv_at hl 1 rfl) ?_
    refine va_callv (va_runV (As := [.int a]) (rest := []) ⟨hx, hb, hml, hown, hts⟩ (c7_goesAcross l hA σ u_60 a hO hba) (cwV 1 hts gX7_updates_X7_goesAcross rfl rfl rfl hd_X7_goesAcrossV ⟨Nat.le_of_ble_eq_true rfl, Nat.le_of_ble_eq_true rfl⟩) ⟨hp_blind, va_recv hK hP (ci := 9) (q0 := 279) rfl c_279, hp_pre hK hN hP⟩ rfl rfl hl.1 rfl (lv_room (Nat.le_of_ble_eq_true rfl)) dX7_updates_62 ⟨Nat.zero_le _, Nat.zero_le _⟩) hS (fun _ _ h => h) (fun _ h => h) (fun u9 t H locs ht hvm hw9 hB hz1 hk1 hS => ?_)
    have hP := ho_at ht hB
    obtain ⟨eq62, ok9⟩ := hw9
    obtain ⟨u62, e_u62⟩ : ∃ z, z = u9 := ⟨_, rfl⟩
    rw [← e_u62] at hP eq62 ok9
    have hO := ok9
    have hF := bnd_s eq62 hF
    refine lv_aload_n hx hb dX7_updates_65 rfl (lv_at hl 0 rfl) ?_
    refine lv_iload_n hx hb dX7_updates_66 rfl (lv_at hl 1 rfl) ?_
    refine lv_iconst (v := 3) hx hb dX7_updates_67 (by decide) ?_
    refine va_calli (va_runV (As := [.int a, .int 3]) (rest := []) ⟨hx, hb, hml, hown, hts⟩ (c7_of l hA σ u62 a 3 (vp_in_iff.mpr (by decide)) hba) (cwV 2 hts gX7_updates_X7_of rfl rfl rfl hd_X7_ofV ⟨Nat.le_of_ble_eq_true rfl, Nat.le_of_ble_eq_true rfl⟩) ⟨hp_blind, va_recv hK hP (ci := 9) (q0 := 279) rfl c_279, hp_pre hK hN hP⟩ rfl rfl hl.1 rfl (lv_room (Nat.le_of_ble_eq_true rfl)) dX7_updates_68 ⟨Nat.zero_le _, Nat.zero_le _⟩) hS (fun _ _ h => h) (fun _ h => h) (fun r68 _ t H locs ht hvm hw9 hB hz1 hk1 hS => ?_)
    have hP := ho_at ht hB
    have eq68 := hw9
    have hF := bnd_s eq68 hF
    have J87 : ∀ (u_87 : (Nat → Int32)) (H : Heap) (locs : List Loc) (ls : Array Slot), okM u_87 → va_P D vwCl (pool G ad (va_up σ 16 u_87)) H → va_S (AA B0) s.heap H locs → lv_has ls 3 [(0, .ref (ad (279))), (1, .int a)] → f7_updates_b87 a u_87 = FF → W p l e (headSpec wsX7_updates { frames := 11, cells := 0, slots := 0, locals := 257 }).room s m ([.ref (ad (279)), .int a] : List Value).toArray below meth c H locs 0 0 (MQ below (va_Qv (fun (z : Nat → Int32) => z = f7_updates u a ∧ okM z) (fun (z : Nat → Int32) => Ho D G ad (va_up σ 16 z)) (AA B0)) ([.ref (ad (279)), .int a] : List Value).toArray s 0 0 (AA B0)) (F0 m 87 ls []) := by
      intro u_87 H locs ls hO hP hS hl hF
      rw [f7_updates_b87] at hF
      refine lv_aload_n hx hb dX7_updates_87 rfl (lv_at hl 0 rfl) ?_
      refine lv_iload_n hx hb dX7_updates_88 rfl (lv_at hl 1 rfl) ?_
      refine va_calli (va_runV (As := [.int a]) (rest := []) ⟨hx, hb, hml, hown, hts⟩ (c7_touches l hA σ u_87 a hO hba) (cwV 1 hts gX7_updates_X7_touches rfl rfl rfl hd_X7_touchesV ⟨Nat.le_of_ble_eq_true rfl, Nat.le_of_ble_eq_true rfl⟩) ⟨hp_blind, va_recv hK hP (ci := 9) (q0 := 279) rfl c_279, hp_pre hK hN hP⟩ rfl rfl hl.1 rfl (lv_room (Nat.le_of_ble_eq_true rfl)) dX7_updates_89 ⟨Nat.zero_le _, Nat.zero_le _⟩) hS (fun _ _ h => h) (fun _ h => h) (fun r89 u9 t H locs ht hvm hw9 hB hz1 hk1 hS => ?_)
      have hP := ho_at ht hB
      obtain ⟨eq89, ok9, hb_r89⟩ := hw9
      obtain ⟨u89, e_u89⟩ : ∃ z, z = u9 := ⟨_, rfl⟩
      rw [← e_u89] at hP eq89 ok9
      have hO := ok9
      have hF := bnd2_s eq89 hF
      have J111 : ∀ (u_111 : (Nat → Int32)) (H : Heap) (locs : List Loc) (ls : Array Slot), okM u_111 → va_P D vwCl (pool G ad (va_up σ 16 u_111)) H → va_S (AA B0) s.heap H locs → lv_has ls 3 [(0, .ref (ad (279))), (1, .int a)] → f7_updates_b111 a u_111 = FF → W p l e (headSpec wsX7_updates { frames := 11, cells := 0, slots := 0, locals := 257 }).room s m ([.ref (ad (279)), .int a] : List Value).toArray below meth c H locs 0 0 (MQ below (va_Qv (fun (z : Nat → Int32) => z = f7_updates u a ∧ okM z) (fun (z : Nat → Int32) => Ho D G ad (va_up σ 16 z)) (AA B0)) ([.ref (ad (279)), .int a] : List Value).toArray s 0 0 (AA B0)) (F0 m 111 ls []) := by
        intro u_111 H locs ls hO hP hS hl hF
        rw [f7_updates_b111] at hF
        refine lv_aload_n hx hb dX7_updates_111 rfl (lv_at hl 0 rfl) ?_
        refine lv_iload_n hx hb dX7_updates_112 rfl (lv_at hl 1 rfl) ?_
        refine lv_iconst (v := 3) hx hb dX7_updates_113 (by decide) ?_
        refine va_calli (va_runV (As := [.int a, .int 3]) (rest := []) ⟨hx, hb, hml, hown, hts⟩ (c7_of l hA σ u_111 a 3 (vp_in_iff.mpr (by decide)) hba) (cwV 2 hts gX7_updates_X7_of rfl rfl rfl hd_X7_ofV ⟨Nat.le_of_ble_eq_true rfl, Nat.le_of_ble_eq_true rfl⟩) ⟨hp_blind, va_recv hK hP (ci := 9) (q0 := 279) rfl c_279, hp_pre hK hN hP⟩ rfl rfl hl.1 rfl (lv_room (Nat.le_of_ble_eq_true rfl)) dX7_updates_114 ⟨Nat.zero_le _, Nat.zero_le _⟩) hS (fun _ _ h => h) (fun _ h => h) (fun r114 _ t H locs ht hvm hw9 hB hz1 hk1 hS => ?_)
        have hP := ho_at ht hB
        have eq114 := hw9
        have hF := bnd_s eq114 hF
        have J128 : ∀ (u_128 : (Nat → Int32)) (H : Heap) (locs : List Loc) (ls : Array Slot), okM u_128 → va_P D vwCl (pool G ad (va_up σ 16 u_128)) H → va_S (AA B0) s.heap H locs → lv_has ls 3 [(0, .ref (ad (279))), (1, .int a)] → f7_updates_b128 a u_128 = FF → W p l e (headSpec wsX7_updates { frames := 11, cells := 0, slots := 0, locals := 257 }).room s m ([.ref (ad (279)), .int a] : List Value).toArray below meth c H locs 0 0 (MQ below (va_Qv (fun (z : Nat → Int32) => z = f7_updates u a ∧ okM z) (fun (z : Nat → Int32) => Ho D G ad (va_up σ 16 z)) (AA B0)) ([.ref (ad (279)), .int a] : List Value).toArray s 0 0 (AA B0)) (F0 m 128 ls []) := by
          intro u_128 H locs ls hO hP hS hl hF
          rw [f7_updates_b128] at hF
          refine lv_aload_n hx hb dX7_updates_128 rfl (lv_at hl 0 rfl) ?_
          refine lv_iload_n hx hb dX7_updates_129 rfl (lv_at hl 1 rfl) ?_
          refine lv_bipush (v := 10) hx hb dX7_updates_130 (by decide) ?_
          refine lv_aload_n hx hb dX7_updates_132 rfl (lv_at hl 0 rfl) ?_
          refine lv_iload_n hx hb dX7_updates_133 rfl (lv_at hl 1 rfl) ?_
          refine lv_bipush (v := 9) hx hb dX7_updates_134 (by decide) ?_
          refine va_calli (va_runV (As := [.int a, .int 9]) (rest := [.int 10, .int a, .ref (ad (279))]) ⟨hx, hb, hml, hown, hts⟩ (c7_of l hA σ u_128 a 9 (vp_in_iff.mpr (by decide)) hba) (cwV 2 hts gX7_updates_X7_of rfl rfl rfl hd_X7_ofV ⟨Nat.le_of_ble_eq_true rfl, Nat.le_of_ble_eq_true rfl⟩) ⟨hp_blind, va_recv hK hP (ci := 9) (q0 := 279) rfl c_279, hp_pre hK hN hP⟩ rfl rfl hl.1 rfl (lv_room (Nat.le_of_ble_eq_true rfl)) dX7_updates_136 ⟨Nat.zero_le _, Nat.zero_le _⟩) hS (fun _ _ h => h) (fun _ h => h) (fun r136 _ t H locs ht hvm hw9 hB hz1 hk1 hS => ?_)
          have hP := ho_at ht hB
          have eq136 := hw9
          have hF := bnd_s eq136 hF
          refine va_callv (va_runV (As := [.int a, .int 10, .int r136]) (rest := []) ⟨hx, hb, hml, hown, hts⟩ (c7_sets l hA σ u_128 a 10 r136 hO (vp_in_iff.mpr (by decide)) hba) (cwV 3 hts gX7_updates_X7_sets rfl rfl rfl hd_X7_setsV ⟨Nat.le_of_ble_eq_true rfl, Nat.le_of_ble_eq_true rfl⟩) ⟨hp_blind, va_recv hK hP (ci := 9) (q0 := 279) rfl c_279, hp_pre hK hN hP⟩ rfl rfl hl.1 rfl (lv_room (Nat.le_of_ble_eq_true rfl)) dX7_updates_139 ⟨Nat.zero_le _, Nat.zero_le _⟩) hS (fun _ _ h => h) (fun _ h => h) (fun u9 t H locs ht hvm hw9 hB hz1 hk1 hS => ?_)
          have hP := ho_at ht hB
          obtain ⟨eq139, ok9⟩ := hw9
          obtain ⟨u139, e_u139⟩ : ∃ z, z = u9 := ⟨_, rfl⟩
          rw [← e_u139] at hP eq139 ok9
          have hO := ok9
          have hF := bnd_s eq139 hF
          refine lv_aload_n hx hb dX7_updates_142 rfl (lv_at hl 0 rfl) ?_
          refine lv_iload_n hx hb dX7_updates_143 rfl (lv_at hl 1 rfl) ?_
          refine lv_bipush (v := 21) hx hb dX7_updates_144 (by decide) ?_
          refine lv_iconst (v := 1) hx hb dX7_updates_146 (by decide) ?_
          refine va_callv (va_runV (As := [.int a, .int 21, .int 1]) (rest := []) ⟨hx, hb, hml, hown, hts⟩ (c7_adds l hA σ u139 a 21 1 hO (vp_in_iff.mpr (by decide)) hba) (cwV 3 hts gX7_updates_X7_adds rfl rfl rfl hd_X7_addsV ⟨Nat.le_of_ble_eq_true rfl, Nat.le_of_ble_eq_true rfl⟩) ⟨hp_blind, va_recv hK hP (ci := 9) (q0 := 279) rfl c_279, hp_pre hK hN hP⟩ rfl rfl hl.1 rfl (lv_room (Nat.le_of_ble_eq_true rfl)) dX7_updates_147 ⟨Nat.zero_le _, Nat.zero_le _⟩) hS (fun _ _ h => h) (fun _ h => h) (fun u9 t H locs ht hvm hw9 hB hz1 hk1 hS => ?_)
          have hP := ho_at ht hB
          obtain ⟨eq147, ok9⟩ := hw9
          obtain ⟨u147, e_u147⟩ : ∃ z, z = u9 := ⟨_, rfl⟩
          rw [← e_u147] at hP eq147 ok9
          have hO := ok9
          have hF := bnd_s eq147 hF
          refine lv_aload_n hx hb dX7_updates_150 rfl (lv_at hl 0 rfl) ?_
          refine lv_iload_n hx hb dX7_updates_151 rfl (lv_at hl 1 rfl) ?_
          refine lv_bipush (v := 21) hx hb dX7_updates_152 (by decide) ?_
          refine va_calli (va_runV (As := [.int a, .int 21]) (rest := []) ⟨hx, hb, hml, hown, hts⟩ (c7_of l hA σ u147 a 21 (vp_in_iff.mpr (by decide)) hba) (cwV 2 hts gX7_updates_X7_of rfl rfl rfl hd_X7_ofV ⟨Nat.le_of_ble_eq_true rfl, Nat.le_of_ble_eq_true rfl⟩) ⟨hp_blind, va_recv hK hP (ci := 9) (q0 := 279) rfl c_279, hp_pre hK hN hP⟩ rfl rfl hl.1 rfl (lv_room (Nat.le_of_ble_eq_true rfl)) dX7_updates_154 ⟨Nat.zero_le _, Nat.zero_le _⟩) hS (fun _ _ h => h) (fun _ h => h) (fun r154 _ t H locs ht hvm hw9 hB hz1 hk1 hS => ?_)
          have hP := ho_at ht hB
          have eq154 := hw9
          have hF := bnd_s eq154 hF
          refine lv_iconst (v := 1) hx hb dX7_updates_157 (by decide) ?_
          have J177 : ∀  (H : Heap) (locs : List Loc) (ls : Array Slot), va_P D vwCl (pool G ad (va_up σ 16 u147)) H → va_S (AA B0) s.heap H locs → lv_has ls 3 [(0, .ref (ad (279))), (1, .int a)] → f7_updates_b177 a u147  = FF → W p l e (headSpec wsX7_updates { frames := 11, cells := 0, slots := 0, locals := 257 }).room s m ([.ref (ad (279)), .int a] : List Value).toArray below meth c H locs 0 0 (MQ below (va_Qv (fun (z : Nat → Int32) => z = f7_updates u a ∧ okM z) (fun (z : Nat → Int32) => Ho D G ad (va_up σ 16 z)) (AA B0)) ([.ref (ad (279)), .int a] : List Value).toArray s 0 0 (AA B0)) (F0 m 177 ls []) := by
            intro  H locs ls hP hS hl hF
            rw [f7_updates_b177] at hF
            refine lv_aload_n hx hb dX7_updates_177 rfl (lv_at hl 0 rfl) ?_
            refine lv_iload_n hx hb dX7_updates_178 rfl (lv_at hl 1 rfl) ?_
            refine lv_bipush (v := 20) hx hb dX7_updates_179 (by decide) ?_
            refine lv_aload_n hx hb dX7_updates_181 rfl (lv_at hl 0 rfl) ?_
            refine lv_iload_n hx hb dX7_updates_182 rfl (lv_at hl 1 rfl) ?_
            refine lv_iconst (v := 1) hx hb dX7_updates_183 (by decide) ?_
            refine va_calli (va_runV (As := [.int a, .int 1]) (rest := [.int 20, .int a, .ref (ad (279))]) ⟨hx, hb, hml, hown, hts⟩ (c7_of l hA σ u147 a 1 (vp_in_iff.mpr (by decide)) hba) (cwV 2 hts gX7_updates_X7_of rfl rfl rfl hd_X7_ofV ⟨Nat.le_of_ble_eq_true rfl, Nat.le_of_ble_eq_true rfl⟩) ⟨hp_blind, va_recv hK hP (ci := 9) (q0 := 279) rfl c_279, hp_pre hK hN hP⟩ rfl rfl hl.1 rfl (lv_room (Nat.le_of_ble_eq_true rfl)) dX7_updates_184 ⟨Nat.zero_le _, Nat.zero_le _⟩) hS (fun _ _ h => h) (fun _ h => h) (fun r184 _ t H locs ht hvm hw9 hB hz1 hk1 hS => ?_)
            have hP := ho_at ht hB
            have eq184 := hw9
            have hF := bnd_s eq184 hF
            refine va_callv (va_runV (As := [.int a, .int 20, .int r184]) (rest := []) ⟨hx, hb, hml, hown, hts⟩ (c7_sets l hA σ u147 a 20 r184 hO (vp_in_iff.mpr (by decide)) hba) (cwV 3 hts gX7_updates_X7_sets rfl rfl rfl hd_X7_setsV ⟨Nat.le_of_ble_eq_true rfl, Nat.le_of_ble_eq_true rfl⟩) ⟨hp_blind, va_recv hK hP (ci := 9) (q0 := 279) rfl c_279, hp_pre hK hN hP⟩ rfl rfl hl.1 rfl (lv_room (Nat.le_of_ble_eq_true rfl)) dX7_updates_187 ⟨Nat.zero_le _, Nat.zero_le _⟩) hS (fun _ _ h => h) (fun _ h => h) (fun u9 t H locs ht hvm hw9 hB hz1 hk1 hS => ?_)
            have hP := ho_at ht hB
            obtain ⟨eq187, ok9⟩ := hw9
            obtain ⟨u187, e_u187⟩ : ∃ z, z = u9 := ⟨_, rfl⟩
            rw [← e_u187] at hP eq187 ok9
            have hO := ok9
            have hF := bnd_s eq187 hF
            exact W.vret hx hb hr (fun t ht hW => ⟨⟨u187, rfl, ⟨hF.trans hFF, hO⟩, ho_of ht hP⟩, hS.F ht⟩) hS.2.2 dX7_updates_190
          refine lv_icmp_eq (tgt := 177) hx hb dX7_updates_158 (by decide) (fun c158 => ?_) (fun c158 => ?_)
          · have hF := ift c158 hF
            exact J177  _ _ ls hP hS (lv_sub hl [0, 1] rfl) hF
          · have hF := iff_ c158 hF
            refine lv_aload_n hx hb dX7_updates_161 rfl (lv_at hl 0 rfl) ?_
            refine lv_iload_n hx hb dX7_updates_162 rfl (lv_at hl 1 rfl) ?_
            refine lv_iconst (v := 1) hx hb dX7_updates_163 (by decide) ?_
            refine va_calli (va_runV (As := [.int a, .int 1]) (rest := []) ⟨hx, hb, hml, hown, hts⟩ (c7_of l hA σ u147 a 1 (vp_in_iff.mpr (by decide)) hba) (cwV 2 hts gX7_updates_X7_of rfl rfl rfl hd_X7_ofV ⟨Nat.le_of_ble_eq_true rfl, Nat.le_of_ble_eq_true rfl⟩) ⟨hp_blind, va_recv hK hP (ci := 9) (q0 := 279) rfl c_279, hp_pre hK hN hP⟩ rfl rfl hl.1 rfl (lv_room (Nat.le_of_ble_eq_true rfl)) dX7_updates_164 ⟨Nat.zero_le _, Nat.zero_le _⟩) hS (fun _ _ h => h) (fun _ h => h) (fun r164 _ t H locs ht hvm hw9 hB hz1 hk1 hS => ?_)
            have hP := ho_at ht hB
            have eq164 := hw9
            have hF := bnd_s eq164 hF
            refine lv_aload_n hx hb dX7_updates_167 rfl (lv_at hl 0 rfl) ?_
            refine lv_iload_n hx hb dX7_updates_168 rfl (lv_at hl 1 rfl) ?_
            refine lv_bipush (v := 20) hx hb dX7_updates_169 (by decide) ?_
            refine va_calli (va_runV (As := [.int a, .int 20]) (rest := [.int r164]) ⟨hx, hb, hml, hown, hts⟩ (c7_of l hA σ u147 a 20 (vp_in_iff.mpr (by decide)) hba) (cwV 2 hts gX7_updates_X7_of rfl rfl rfl hd_X7_ofV ⟨Nat.le_of_ble_eq_true rfl, Nat.le_of_ble_eq_true rfl⟩) ⟨hp_blind, va_recv hK hP (ci := 9) (q0 := 279) rfl c_279, hp_pre hK hN hP⟩ rfl rfl hl.1 rfl (lv_room (Nat.le_of_ble_eq_true rfl)) dX7_updates_171 ⟨Nat.zero_le _, Nat.zero_le _⟩) hS (fun _ _ h => h) (fun _ h => h) (fun r171 _ t H locs ht hvm hw9 hB hz1 hk1 hS => ?_)
            have hP := ho_at ht hB
            have eq171 := hw9
            have hF := bnd_s eq171 hF
            refine lv_icmp_le (tgt := 190) hx hb dX7_updates_174 (by decide) (fun c174 => ?_) (fun c174 => ?_)
            · have hF := ift c174 hF
              exact W.vret hx hb hr (fun t ht hW => ⟨⟨u147, rfl, ⟨hF.trans hFF, hO⟩, ho_of ht hP⟩, hS.F ht⟩) hS.2.2 dX7_updates_190
            · have hF := iff_ c174 hF
              exact J177  _ _ ls hP hS (lv_sub hl [0, 1] rfl) hF
        refine lv_if_gt (tgt := 128) hx hb dX7_updates_117 (by decide) (fun c117 => ?_) (fun c117 => ?_)
        · have hF := ift c117 hF
          exact J128 u_111 _ _ ls hO hP hS (lv_sub hl [0, 1] rfl) hF
        · have hF := iff_ c117 hF
          refine lv_aload_n hx hb dX7_updates_120 rfl (lv_at hl 0 rfl) ?_
          refine lv_iload_n hx hb dX7_updates_121 rfl (lv_at hl 1 rfl) ?_
          refine lv_bipush (v := 11) hx hb dX7_updates_122 (by decide) ?_
          refine lv_iconst (v := 0) hx hb dX7_updates_124 (by decide) ?_
          refine va_callv (va_runV (As := [.int a, .int 11, .int 0]) (rest := []) ⟨hx, hb, hml, hown, hts⟩ (c7_sets l hA σ u_111 a 11 0 hO (vp_in_iff.mpr (by decide)) hba) (cwV 3 hts gX7_updates_X7_sets rfl rfl rfl hd_X7_setsV ⟨Nat.le_of_ble_eq_true rfl, Nat.le_of_ble_eq_true rfl⟩) ⟨hp_blind, va_recv hK hP (ci := 9) (q0 := 279) rfl c_279, hp_pre hK hN hP⟩ rfl rfl hl.1 rfl (lv_room (Nat.le_of_ble_eq_true rfl)) dX7_updates_125 ⟨Nat.zero_le _, Nat.zero_le _⟩) hS (fun _ _ h => h) (fun _ h => h) (fun u9 t H locs ht hvm hw9 hB hz1 hk1 hS => ?_)
          have hP := ho_at ht hB
          obtain ⟨eq125, ok9⟩ := hw9
          obtain ⟨u125, e_u125⟩ : ∃ z, z = u9 := ⟨_, rfl⟩
          rw [← e_u125] at hP eq125 ok9
          have hO := ok9
          have hF := bnd_s eq125 hF
          exact J128 u125 _ _ ls hO hP hS (lv_sub hl [0, 1] rfl) hF
      have J106 : ∀  (H : Heap) (locs : List Loc) (ls : Array Slot), va_P D vwCl (pool G ad (va_up σ 16 u89)) H → va_S (AA B0) s.heap H locs → lv_has ls 3 [(0, .ref (ad (279))), (1, .int a)] → f7_updates_b106 a u89  = FF → W p l e (headSpec wsX7_updates { frames := 11, cells := 0, slots := 0, locals := 257 }).room s m ([.ref (ad (279)), .int a] : List Value).toArray below meth c H locs 0 0 (MQ below (va_Qv (fun (z : Nat → Int32) => z = f7_updates u a ∧ okM z) (fun (z : Nat → Int32) => Ho D G ad (va_up σ 16 z)) (AA B0)) ([.ref (ad (279)), .int a] : List Value).toArray s 0 0 (AA B0)) (F0 m 106 ls []) := by
        intro  H locs ls hP hS hl hF
        rw [f7_updates_b106] at hF
        refine lv_aload_n hx hb dX7_updates_106 rfl (lv_at hl 0 rfl) ?_
        refine lv_iload_n hx hb dX7_updates_107 rfl (lv_at hl 1 rfl) ?_
        refine va_callv (va_runV (As := [.int a]) (rest := []) ⟨hx, hb, hml, hown, hts⟩ (c7_dies l hA σ u89 a hO hba) (cwV 1 hts gX7_updates_X7_dies rfl rfl rfl hd_X7_diesV ⟨Nat.le_of_ble_eq_true rfl, Nat.le_of_ble_eq_true rfl⟩) ⟨hp_blind, va_recv hK hP (ci := 9) (q0 := 279) rfl c_279, hp_pre hK hN hP⟩ rfl rfl hl.1 rfl (lv_room (Nat.le_of_ble_eq_true rfl)) dX7_updates_108 ⟨Nat.zero_le _, Nat.zero_le _⟩) hS (fun _ _ h => h) (fun _ h => h) (fun u9 t H locs ht hvm hw9 hB hz1 hk1 hS => ?_)
        have hP := ho_at ht hB
        obtain ⟨eq108, ok9⟩ := hw9
        obtain ⟨u108, e_u108⟩ : ∃ z, z = u9 := ⟨_, rfl⟩
        rw [← e_u108] at hP eq108 ok9
        have hO := ok9
        have hF := bnd_s eq108 hF
        exact J111 u108 _ _ ls hO hP hS (lv_sub hl [0, 1] rfl) hF
      refine lv_if_ne (tgt := 106) hx hb dX7_updates_92 (by decide) (fun c92 => ?_) (fun c92 => ?_)
      · have hF := iff_ c92 hF
        exact J106  _ _ ls hP hS (lv_sub hl [0, 1] rfl) hF
      · have hF := ift c92 hF
        refine lv_aload_n hx hb dX7_updates_95 rfl (lv_at hl 0 rfl) ?_
        refine lv_iload_n hx hb dX7_updates_96 rfl (lv_at hl 1 rfl) ?_
        refine lv_iconst (v := 1) hx hb dX7_updates_97 (by decide) ?_
        refine va_calli (va_runV (As := [.int a, .int 1]) (rest := []) ⟨hx, hb, hml, hown, hts⟩ (c7_of l hA σ u89 a 1 (vp_in_iff.mpr (by decide)) hba) (cwV 2 hts gX7_updates_X7_of rfl rfl rfl hd_X7_ofV ⟨Nat.le_of_ble_eq_true rfl, Nat.le_of_ble_eq_true rfl⟩) ⟨hp_blind, va_recv hK hP (ci := 9) (q0 := 279) rfl c_279, hp_pre hK hN hP⟩ rfl rfl hl.1 rfl (lv_room (Nat.le_of_ble_eq_true rfl)) dX7_updates_98 ⟨Nat.zero_le _, Nat.zero_le _⟩) hS (fun _ _ h => h) (fun _ h => h) (fun r98 _ t H locs ht hvm hw9 hB hz1 hk1 hS => ?_)
        have hP := ho_at ht hB
        have eq98 := hw9
        have hF := bnd_s eq98 hF
        refine lv_bipush (v := (-40)) hx hb dX7_updates_101 (by decide) ?_
        refine lv_icmp_ge (tgt := 111) hx hb dX7_updates_103 (by decide) (fun c103 => ?_) (fun c103 => ?_)
        · have hF := ift c103 hF
          exact J111 u89 _ _ ls hO hP hS (lv_sub hl [0, 1] rfl) hF
        · have hF := iff_ c103 hF
          exact J106  _ _ ls hP hS (lv_sub hl [0, 1] rfl) hF
    refine lv_if_le (tgt := 82) hx hb dX7_updates_71 (by decide) (fun c71 => ?_) (fun c71 => ?_)
    · have hF := ift c71 hF
      refine lv_aload_n hx hb dX7_updates_82 rfl (lv_at hl 0 rfl) ?_
      refine lv_iload_n hx hb dX7_updates_83 rfl (lv_at hl 1 rfl) ?_
      refine va_callv (va_runV (As := [.int a]) (rest := []) ⟨hx, hb, hml, hown, hts⟩ (c7_goesDown l hA σ u62 a hO hba) (cwV 1 hts gX7_updates_X7_goesDown rfl rfl rfl hd_X7_goesDownV ⟨Nat.le_of_ble_eq_true rfl, Nat.le_of_ble_eq_true rfl⟩) ⟨hp_blind, va_recv hK hP (ci := 9) (q0 := 279) rfl c_279, hp_pre hK hN hP⟩ rfl rfl hl.1 rfl (lv_room (Nat.le_of_ble_eq_true rfl)) dX7_updates_84 ⟨Nat.zero_le _, Nat.zero_le _⟩) hS (fun _ _ h => h) (fun _ h => h) (fun u9 t H locs ht hvm hw9 hB hz1 hk1 hS => ?_)
      have hP := ho_at ht hB
      obtain ⟨eq84, ok9⟩ := hw9
      obtain ⟨u84, e_u84⟩ : ∃ z, z = u9 := ⟨_, rfl⟩
      rw [← e_u84] at hP eq84 ok9
      have hO := ok9
      have hF := bnd_s eq84 hF
      exact J87 u84 _ _ ls hO hP hS (lv_sub hl [0, 1] rfl) hF
    · have hF := iff_ c71 hF
      refine lv_aload_n hx hb dX7_updates_74 rfl (lv_at hl 0 rfl) ?_
      refine lv_iload_n hx hb dX7_updates_75 rfl (lv_at hl 1 rfl) ?_
      refine va_callv (va_runV (As := [.int a]) (rest := []) ⟨hx, hb, hml, hown, hts⟩ (c7_goesUp l hA σ u62 a hO hba) (cwV 1 hts gX7_updates_X7_goesUp rfl rfl rfl hd_X7_goesUpV ⟨Nat.le_of_ble_eq_true rfl, Nat.le_of_ble_eq_true rfl⟩) ⟨hp_blind, va_recv hK hP (ci := 9) (q0 := 279) rfl c_279, hp_pre hK hN hP⟩ rfl rfl hl.1 rfl (lv_room (Nat.le_of_ble_eq_true rfl)) dX7_updates_76 ⟨Nat.zero_le _, Nat.zero_le _⟩) hS (fun _ _ h => h) (fun _ h => h) (fun u9 t H locs ht hvm hw9 hB hz1 hk1 hS => ?_)
      have hP := ho_at ht hB
      obtain ⟨eq76, ok9⟩ := hw9
      obtain ⟨u76, e_u76⟩ : ∃ z, z = u9 := ⟨_, rfl⟩
      rw [← e_u76] at hP eq76 ok9
      have hO := ok9
      have hF := bnd_s eq76 hF
      refine lv_goto (tgt := 87) hx hb dX7_updates_79 (by decide) ?_
      exact J87 u76 _ _ ls hO hP hS (lv_sub hl [0, 1] rfl) hF
  refine lv_if_eq (tgt := 60) hx hb dX7_updates_5 (by decide) (fun c5 => ?_) (fun c5 => ?_)
  · have hF := ift c5 hF
    exact J60 u2 _ _ ls hO hP hS (lv_sub hl [0, 1] rfl) hF
  · have hF := iff_ c5 hF
    refine lv_aload_n hx hb dX7_updates_8 rfl (lv_at hl 0 rfl) ?_
    refine lv_iload_n hx hb dX7_updates_9 rfl (lv_at hl 1 rfl) ?_
    refine lv_aload_n hx hb dX7_updates_10 rfl (lv_at hl 0 rfl) ?_
    refine lv_iload_n hx hb dX7_updates_11 rfl (lv_at hl 1 rfl) ?_
    refine lv_iconst (v := 0) hx hb dX7_updates_12 (by decide) ?_
    refine va_calli (va_runV (As := [.int a, .int 0]) (rest := [.int a, .ref (ad (279))]) ⟨hx, hb, hml, hown, hts⟩ (c7_of l hA σ u2 a 0 (vp_in_iff.mpr (by decide)) hba) (cwV 2 hts gX7_updates_X7_of rfl rfl rfl hd_X7_ofV ⟨Nat.le_of_ble_eq_true rfl, Nat.le_of_ble_eq_true rfl⟩) ⟨hp_blind, va_recv hK hP (ci := 9) (q0 := 279) rfl c_279, hp_pre hK hN hP⟩ rfl rfl hl.1 rfl (lv_room (Nat.le_of_ble_eq_true rfl)) dX7_updates_13 ⟨Nat.zero_le _, Nat.zero_le _⟩) hS (fun _ _ h => h) (fun _ h => h) (fun r13 _ t H locs ht hvm hw9 hB hz1 hk1 hS => ?_)
    have hP := ho_at ht hB
    have eq13 := hw9
    have hF := bnd_s eq13 hF
    refine lv_aload_n hx hb dX7_updates_16 rfl (lv_at hl 0 rfl) ?_
    refine lv_iload_n hx hb dX7_updates_17 rfl (lv_at hl 1 rfl) ?_
    refine lv_iconst (v := 1) hx hb dX7_updates_18 (by decide) ?_
    refine va_calli (va_runV (As := [.int a, .int 1]) (rest := [.int r13, .int a, .ref (ad (279))]) ⟨hx, hb, hml, hown, hts⟩ (c7_of l hA σ u2 a 1 (vp_in_iff.mpr (by decide)) hba) (cwV 2 hts gX7_updates_X7_of rfl rfl rfl hd_X7_ofV ⟨Nat.le_of_ble_eq_true rfl, Nat.le_of_ble_eq_true rfl⟩) ⟨hp_blind, va_recv hK hP (ci := 9) (q0 := 279) rfl c_279, hp_pre hK hN hP⟩ rfl rfl hl.1 rfl (lv_room (Nat.le_of_ble_eq_true rfl)) dX7_updates_19 ⟨Nat.zero_le _, Nat.zero_le _⟩) hS (fun _ _ h => h) (fun _ h => h) (fun r19 _ t H locs ht hvm hw9 hB hz1 hk1 hS => ?_)
    have hP := ho_at ht hB
    have eq19 := hw9
    have hF := bnd_s eq19 hF
    refine va_calli (va_runV (As := [.int a, .int r13, .int r19]) (rest := []) ⟨hx, hb, hml, hown, hts⟩ (c7_firmBelow l hA σ u2 a r13 r19 hba) (cwV 3 hts gX7_updates_X7_firmBelow rfl rfl rfl hd_X7_firmBelowV ⟨Nat.le_of_ble_eq_true rfl, Nat.le_of_ble_eq_true rfl⟩) ⟨hp_blind, va_recv hK hP (ci := 9) (q0 := 279) rfl c_279, hp_pre hK hN hP⟩ rfl rfl hl.1 rfl (lv_room (Nat.le_of_ble_eq_true rfl)) dX7_updates_22 ⟨Nat.zero_le _, Nat.zero_le _⟩) hS (fun _ _ h => h) (fun _ h => h) (fun r22 _ t H locs ht hvm hw9 hB hz1 hk1 hS => ?_)
    have hP := ho_at ht hB
    have eq22 := hw9
    have hF := bnd_s eq22 hF
    refine lv_istore_n (lv' := [(2, .int r22), (0, .ref (ad (279))), (1, .int a)]) hx hb dX7_updates_25 rfl hl (by decide) rfl (fun ls hl => ?_)
    refine lv_iload_n hx hb dX7_updates_26 rfl (lv_at hl 0 rfl) ?_
    refine lv_bipush (v := 6) hx hb dX7_updates_27 (by decide) ?_
    refine lv_ishr hx hb dX7_updates_29 ?_
    refine lv_iconst (v := 1) hx hb dX7_updates_30 (by decide) ?_
    refine lv_iand hx hb dX7_updates_31 ?_
    refine lv_iconst (v := 1) hx hb dX7_updates_32 (by decide) ?_
    have J43 : ∀ (u_43 : (Nat → Int32)) (H : Heap) (locs : List Loc) (ls : Array Slot), okM u_43 → va_P D vwCl (pool G ad (va_up σ 16 u_43)) H → va_S (AA B0) s.heap H locs → lv_has ls 3 [(2, .int r22), (0, .ref (ad (279))), (1, .int a)] → f7_updates_b43 a r22 u_43 = FF → W p l e (headSpec wsX7_updates { frames := 11, cells := 0, slots := 0, locals := 257 }).room s m ([.ref (ad (279)), .int a] : List Value).toArray below meth c H locs 0 0 (MQ below (va_Qv (fun (z : Nat → Int32) => z = f7_updates u a ∧ okM z) (fun (z : Nat → Int32) => Ho D G ad (va_up σ 16 z)) (AA B0)) ([.ref (ad (279)), .int a] : List Value).toArray s 0 0 (AA B0)) (F0 m 43 ls []) := by
      intro u_43 H locs ls hO hP hS hl hF
      rw [f7_updates_b43] at hF
      refine lv_iload_n hx hb dX7_updates_43 rfl (lv_at hl 0 rfl) ?_
      refine lv_bipush (v := 7) hx hb dX7_updates_44 (by decide) ?_
      refine lv_ishr hx hb dX7_updates_46 ?_
      refine lv_iconst (v := 1) hx hb dX7_updates_47 (by decide) ?_
      refine lv_iand hx hb dX7_updates_48 ?_
      refine lv_iconst (v := 1) hx hb dX7_updates_49 (by decide) ?_
      refine lv_icmp_ne (tgt := 60) hx hb dX7_updates_50 (by decide) (fun c50 => ?_) (fun c50 => ?_)
      · have hF := iff_ c50 hF
        exact J60 u_43 _ _ ls hO hP hS (lv_sub hl [1, 2] rfl) hF
      · have hF := ift c50 hF
        refine lv_aload_n hx hb dX7_updates_53 rfl (lv_at hl 1 rfl) ?_
        refine lv_iload_n hx hb dX7_updates_54 rfl (lv_at hl 2 rfl) ?_
        refine lv_iconst (v := (-1)) hx hb dX7_updates_55 (by decide) ?_
        refine va_calli (va_runV (As := [.int a, .int (-1)]) (rest := []) ⟨hx, hb, hml, hown, hts⟩ (c7_stepsAcross l hA σ u_43 a (-1) hO hba) (cwV 2 hts gX7_updates_X7_stepsAcross rfl rfl rfl hd_X7_stepsAcrossV ⟨Nat.le_of_ble_eq_true rfl, Nat.le_of_ble_eq_true rfl⟩) ⟨hp_blind, va_recv hK hP (ci := 9) (q0 := 279) rfl c_279, hp_pre hK hN hP⟩ rfl rfl hl.1 rfl (lv_room (Nat.le_of_ble_eq_true rfl)) dX7_updates_56 ⟨Nat.zero_le _, Nat.zero_le _⟩) hS (fun _ _ h => h) (fun _ h => h) (fun r56 u9 t H locs ht hvm hw9 hB hz1 hk1 hS => ?_)
        have hP := ho_at ht hB
        obtain ⟨eq56, ok9, hb_r56⟩ := hw9
        obtain ⟨u56, e_u56⟩ : ∃ z, z = u9 := ⟨_, rfl⟩
        rw [← e_u56] at hP eq56 ok9
        have hO := ok9
        have hF := bnd2_s eq56 hF
        refine lv_pop hx hb dX7_updates_59 rfl ?_
        exact J60 u56 _ _ ls hO hP hS (lv_sub hl [1, 2] rfl) hF
    refine lv_icmp_ne (tgt := 43) hx hb dX7_updates_33 (by decide) (fun c33 => ?_) (fun c33 => ?_)
    · have hF := iff_ c33 hF
      exact J43 u2 _ _ ls hO hP hS (lv_sub hl [0, 1, 2] rfl) hF
    · have hF := ift c33 hF
      refine lv_aload_n hx hb dX7_updates_36 rfl (lv_at hl 1 rfl) ?_
      refine lv_iload_n hx hb dX7_updates_37 rfl (lv_at hl 2 rfl) ?_
      refine lv_iconst (v := 1) hx hb dX7_updates_38 (by decide) ?_
      refine va_calli (va_runV (As := [.int a, .int 1]) (rest := []) ⟨hx, hb, hml, hown, hts⟩ (c7_stepsAcross l hA σ u2 a 1 hO hba) (cwV 2 hts gX7_updates_X7_stepsAcross rfl rfl rfl hd_X7_stepsAcrossV ⟨Nat.le_of_ble_eq_true rfl, Nat.le_of_ble_eq_true rfl⟩) ⟨hp_blind, va_recv hK hP (ci := 9) (q0 := 279) rfl c_279, hp_pre hK hN hP⟩ rfl rfl hl.1 rfl (lv_room (Nat.le_of_ble_eq_true rfl)) dX7_updates_39 ⟨Nat.zero_le _, Nat.zero_le _⟩) hS (fun _ _ h => h) (fun _ h => h) (fun r39 u9 t H locs ht hvm hw9 hB hz1 hk1 hS => ?_)
      have hP := ho_at ht hB
      obtain ⟨eq39, ok9, hb_r39⟩ := hw9
      obtain ⟨u39, e_u39⟩ : ∃ z, z = u9 := ⟨_, rfl⟩
      rw [← e_u39] at hP eq39 ok9
      have hO := ok9
      have hF := bnd2_s eq39 hF
      refine lv_pop hx hb dX7_updates_42 rfl ?_
      exact J43 u39 _ _ ls hO hP hS (lv_sub hl [0, 1, 2] rfl) hF
theorem hd_X7_updatesV : yX7_updates.cls = RX7 ∧ yX7_updates.cls ≠ "java/lang/invoke/MethodHandle" ∧ yX7_updates.cls ≠ "java/lang/invoke/VarHandle" ∧ (parseMethodDescriptor yX7_updates.desc).map (fun d => d.parameters.length) = some 1 := by decide +kernel
set_option maxHeartbeats 4000000 in
set_option maxRecDepth 100000 in
theorem c7_goesTick (l : Launch) {D : va_G} {G : CY} {ad : Nat → Nat} {B0 : Nat} (hA : adOK B0 ad) (σ : Nat → Nat → Int32) (u : Nat → Int32)  (hO : okM u) : Met l yX7_goesTick wsX7_goesTick { frames := 12, cells := 0, slots := 0, locals := 279 } (va_Pc [.ref (ad (279))] (Hp D G ad (va_up σ 16 u))) (va_Qv (fun (z : Nat → Int32) => z = f7_goesTick u ∧ okM z) (fun (z : Nat → Int32) => Ho D G ad (va_up σ 16 z)) (AA B0)) 0 0 (AA B0) := by
  refine Met.ofW (cc := cX7_goesTick) (maxL := 2) (ret := none) (by decide) rfl ?_
  intro p e s m args below meth c s₁ B hml hv
  obtain ⟨rfl, hP, hK, hN⟩ := hv
  have hx := B.exec
  have hb := B.bytes
  have hr := B.returns
  have hts := atoms_spec (ws := wsX7_goesTick) B.pre
  have hown : s.vm.findClass RX7 = some m.cls := findClass_of_methodNamed B.named
  have hlocks := B.notSynchronized
  have inX7 : ∀ w ∈ wsX70, w ∈ wsX7_goesTick := (fun w h => List.mem_cons_of_mem _ (List.mem_append_left _ (List.mem_append_right _ h)))
  have hP : va_P D vwCl (pool G ad (va_up σ 16 u)) s.heap := hP
  have hS : va_S (AA B0) s.heap s.heap [] := va_S.rf
  have hl := lv_entry ([.ref (ad (279))]) (n := 2) (Nat.le_of_ble_eq_true rfl)
  rw [lg_entry_eq]
  generalize (lg_sl ([.ref (ad (279))]) ++ List.replicate (2 - (lg_sl ([.ref (ad (279))])).length) Slot.unset).toArray = ls at hl ⊢
  have hl : lv_has ls 2 [(0, .ref (ad (279)))] := hl
  obtain ⟨FF, hFF⟩ : ∃ z, z = f7_goesTick u := ⟨_, rfl⟩
  have hF := hFF.symm
  rw [f7_goesTick] at hF
  refine lv_aload_n hx hb dX7_goesTick_0 rfl (lv_at hl 0 rfl) ?_
  refine va_get (D := D) (ci := 9) (C := RX7) (T := TX7) (N := 17) hx hb hts inX7 hown hK hP (279) c_279 rfl 1 (by decide) (hts (.fieldLink RX7 7 "TileRunnersModel" "world" "[I") (List.mem_of_getElem? (i := 1) rfl)) (fun _ h9 => h9) rfl dX7_goesTick_1 ?_
  refine lv_sipush (v := 466) hx hb dX7_goesTick_4 (by decide) ?_
  refine lv_dup2_11 hx hb dX7_goesTick_7 rfl rfl ?_
  refine pald (n := 480) (o := 0) (t := 466) (i := 466) hx hb hK hP c_280 (vp_in_iff.mpr (by decide)) rfl dX7_goesTick_8 ?_
  refine lv_iconst (v := 1) hx hb dX7_goesTick_9 (by decide) ?_
  refine lv_iadd hx hb dX7_goesTick_10 ?_
  have hin9 : vp_in 466 480 := (vp_in_iff.mpr (by decide))
  refine past16 (n := 480) (o := 0) (t := 466) hx hb hK hP hA hS (j := 280) (by decide) (by decide) (fun _ _ => rfl) (fun k9 hk9 => by unfold own16; repeat first | rw [if_pos (by omega)] | rw [if_neg (by omega)]) hin9 rfl dX7_goesTick_11 (fun u9 H locs eu9 hP hS => ?_)
  have hlt9 := in_lt hin9
  obtain ⟨u11, e_u11⟩ : ∃ z, z = u9 := ⟨_, rfl⟩
  rw [← e_u11] at hP eu9
  have hF := bnd_s eu9 hF
  have hO := okM_up eu9 hO (by omega) (by omega) (by omega)
  refine lv_iconst (v := 0) hx hb dX7_goesTick_12 (by decide) ?_
  refine lv_istore_n (lv' := [(1, .int 0), (0, .ref (ad (279)))]) hx hb dX7_goesTick_13 rfl hl (by decide) rfl (fun ls hl => ?_)
  have L14 : ∀ (n14 : Nat) (w1_14 : Int32) (u_14 : (Nat → Int32)) (H : Heap) (locs : List Loc) (ls : Array Slot), (4 - w1_14.toInt).toNat < n14 → 0 ≤ w1_14 → okM u_14 → va_P D vwCl (pool G ad (va_up σ 16 u_14)) H → va_S (AA B0) s.heap H locs → lv_has ls 2 [(1, .int w1_14), (0, .ref (ad (279)))] → f7_goesTick_L14 n14 w1_14 u_14 = FF → W p l e (headSpec wsX7_goesTick { frames := 12, cells := 0, slots := 0, locals := 279 }).room s m ([.ref (ad (279))] : List Value).toArray below meth c H locs 0 0 (MQ below (va_Qv (fun (z : Nat → Int32) => z = f7_goesTick u ∧ okM z) (fun (z : Nat → Int32) => Ho D G ad (va_up σ 16 z)) (AA B0)) ([.ref (ad (279))] : List Value).toArray s 0 0 (AA B0)) (F0 m 14 ls []) := by
    intro n14
    induction n14 with
    | zero => intro w1_14 u_14 H locs ls hm; exact absurd hm (Nat.not_lt_zero _)
    | succ n14 ih14 =>
      intro w1_14 u_14 H locs ls hm14 h1 hO hP hS hl hF
      rw [f7_goesTick_L14] at hF
      refine lv_iload_n hx hb dX7_goesTick_14 rfl (lv_at hl 0 rfl) ?_
      refine lv_aload_n hx hb dX7_goesTick_15 rfl (lv_at hl 1 rfl) ?_
      refine va_get (D := D) (ci := 9) (C := RX7) (T := TX7) (N := 17) hx hb hts inX7 hown hK hP (279) c_279 rfl 1 (by decide) (hts (.fieldLink RX7 7 "TileRunnersModel" "world" "[I") (List.mem_of_getElem? (i := 1) rfl)) (fun _ h9 => h9) rfl dX7_goesTick_16 ?_
      refine lv_sipush (v := 464) hx hb dX7_goesTick_19 (by decide) ?_
      refine pald (n := 480) (o := 0) (t := 464) (i := 464) hx hb hK hP c_280 (vp_in_iff.mpr (by decide)) rfl dX7_goesTick_22 ?_
      refine lv_icmp_ge (tgt := 79) hx hb dX7_goesTick_23 (by decide) (fun c23 => ?_) (fun c23 => ?_)
      · have hF := ift c23 hF
        refine lv_iconst (v := 0) hx hb dX7_goesTick_79 (by decide) ?_
        refine lv_istore_n (lv' := [(1, .int 0), (0, .ref (ad (279)))]) hx hb dX7_goesTick_80 rfl hl (by decide) rfl (fun ls hl => ?_)
        have L81 : ∀ (n81 : Nat) (w1_81 : Int32) (u_81 : (Nat → Int32)) (H : Heap) (locs : List Loc) (ls : Array Slot), (4 - w1_81.toInt).toNat < n81 → 0 ≤ w1_81 → okM u_81 → va_P D vwCl (pool G ad (va_up σ 16 u_81)) H → va_S (AA B0) s.heap H locs → lv_has ls 2 [(1, .int w1_81), (0, .ref (ad (279)))] → f7_goesTick_L81 n81 w1_81 u_81 = FF → W p l e (headSpec wsX7_goesTick { frames := 12, cells := 0, slots := 0, locals := 279 }).room s m ([.ref (ad (279))] : List Value).toArray below meth c H locs 0 0 (MQ below (va_Qv (fun (z : Nat → Int32) => z = f7_goesTick u ∧ okM z) (fun (z : Nat → Int32) => Ho D G ad (va_up σ 16 z)) (AA B0)) ([.ref (ad (279))] : List Value).toArray s 0 0 (AA B0)) (F0 m 81 ls []) := by
          intro n81
          induction n81 with
          | zero => intro w1_81 u_81 H locs ls hm; exact absurd hm (Nat.not_lt_zero _)
          | succ n81 ih81 =>
            intro w1_81 u_81 H locs ls hm81 h1 hO hP hS hl hF
            rw [f7_goesTick_L81] at hF
            refine lv_iload_n hx hb dX7_goesTick_81 rfl (lv_at hl 0 rfl) ?_
            refine lv_aload_n hx hb dX7_goesTick_82 rfl (lv_at hl 1 rfl) ?_
            refine va_get (D := D) (ci := 9) (C := RX7) (T := TX7) (N := 17) hx hb hts inX7 hown hK hP (279) c_279 rfl 1 (by decide) (hts (.fieldLink RX7 7 "TileRunnersModel" "world" "[I") (List.mem_of_getElem? (i := 1) rfl)) (fun _ h9 => h9) rfl dX7_goesTick_83 ?_
            refine lv_sipush (v := 465) hx hb dX7_goesTick_86 (by decide) ?_
            refine pald (n := 480) (o := 0) (t := 465) (i := 465) hx hb hK hP c_280 (vp_in_iff.mpr (by decide)) rfl dX7_goesTick_89 ?_
            refine lv_icmp_ge (tgt := 104) hx hb dX7_goesTick_90 (by decide) (fun c90 => ?_) (fun c90 => ?_)
            · have hF := ift c90 hF
              refine lv_iconst (v := 0) hx hb dX7_goesTick_104 (by decide) ?_
              refine lv_istore_n (lv' := [(1, .int 0), (0, .ref (ad (279)))]) hx hb dX7_goesTick_105 rfl hl (by decide) rfl (fun ls hl => ?_)
              have L106 : ∀ (n106 : Nat) (w1_106 : Int32) (u_106 : (Nat → Int32)) (H : Heap) (locs : List Loc) (ls : Array Slot), (4 - w1_106.toInt).toNat < n106 → 0 ≤ w1_106 → okM u_106 → va_P D vwCl (pool G ad (va_up σ 16 u_106)) H → va_S (AA B0) s.heap H locs → lv_has ls 2 [(1, .int w1_106), (0, .ref (ad (279)))] → f7_goesTick_L106 n106 w1_106 u_106 = FF → W p l e (headSpec wsX7_goesTick { frames := 12, cells := 0, slots := 0, locals := 279 }).room s m ([.ref (ad (279))] : List Value).toArray below meth c H locs 0 0 (MQ below (va_Qv (fun (z : Nat → Int32) => z = f7_goesTick u ∧ okM z) (fun (z : Nat → Int32) => Ho D G ad (va_up σ 16 z)) (AA B0)) ([.ref (ad (279))] : List Value).toArray s 0 0 (AA B0)) (F0 m 106 ls []) := by
                intro n106
                induction n106 with
                | zero => intro w1_106 u_106 H locs ls hm; exact absurd hm (Nat.not_lt_zero _)
                | succ n106 ih106 =>
                  intro w1_106 u_106 H locs ls hm106 h1 hO hP hS hl hF
                  rw [f7_goesTick_L106] at hF
                  refine lv_iload_n hx hb dX7_goesTick_106 rfl (lv_at hl 0 rfl) ?_
                  refine lv_aload_n hx hb dX7_goesTick_107 rfl (lv_at hl 1 rfl) ?_
                  refine va_get (D := D) (ci := 9) (C := RX7) (T := TX7) (N := 17) hx hb hts inX7 hown hK hP (279) c_279 rfl 1 (by decide) (hts (.fieldLink RX7 7 "TileRunnersModel" "world" "[I") (List.mem_of_getElem? (i := 1) rfl)) (fun _ h9 => h9) rfl dX7_goesTick_108 ?_
                  refine lv_sipush (v := 464) hx hb dX7_goesTick_111 (by decide) ?_
                  refine pald (n := 480) (o := 0) (t := 464) (i := 464) hx hb hK hP c_280 (vp_in_iff.mpr (by decide)) rfl dX7_goesTick_114 ?_
                  refine lv_icmp_ge (tgt := 129) hx hb dX7_goesTick_115 (by decide) (fun c115 => ?_) (fun c115 => ?_)
                  · have hF := ift c115 hF
                    exact W.vret hx hb hr (fun t ht hW => ⟨⟨u_106, rfl, ⟨hF.trans hFF, hO⟩, ho_of ht hP⟩, hS.F ht⟩) hS.2.2 dX7_goesTick_129
                  · have hF := iff_ c115 hF
                    have hbw1_106 : vp_in w1_106 4 := in_n h1 (nle_lt c115) hO.1.2.1
                    refine lv_aload_n hx hb dX7_goesTick_118 rfl (lv_at hl 1 rfl) ?_
                    refine lv_iload_n hx hb dX7_goesTick_119 rfl (lv_at hl 0 rfl) ?_
                    refine va_callv (va_runV (As := [.int w1_106]) (rest := []) ⟨hx, hb, hml, hown, hts⟩ (c7_updates l hA σ u_106 w1_106 hO hbw1_106) (cwV 1 hts gX7_goesTick_X7_updates rfl rfl rfl hd_X7_updatesV ⟨Nat.le_of_ble_eq_true rfl, Nat.le_of_ble_eq_true rfl⟩) ⟨hp_blind, va_recv hK hP (ci := 9) (q0 := 279) rfl c_279, hp_pre hK hN hP⟩ rfl rfl hl.1 rfl (lv_room (Nat.le_of_ble_eq_true rfl)) dX7_goesTick_120 ⟨Nat.zero_le _, Nat.zero_le _⟩) hS (fun _ _ h => h) (fun _ h => h) (fun u9 t H locs ht hvm hw9 hB hz1 hk1 hS => ?_)
                    have hP := ho_at ht hB
                    obtain ⟨eq120, ok9⟩ := hw9
                    obtain ⟨u120, e_u120⟩ : ∃ z, z = u9 := ⟨_, rfl⟩
                    rw [← e_u120] at hP eq120 ok9
                    have hO := ok9
                    have hF := bnd_s eq120 hF
                    obtain ⟨v1_123, e_v1_123⟩ : ∃ z : Int32, z = w1_106 + 1 := ⟨_, rfl⟩
                    have hF := bnd_s e_v1_123 hF
                    refine lv_iinc (v := v1_123) (lv' := [(1, .int v1_123), (0, .ref (ad (279)))]) hx hb dX7_goesTick_123 hl (k := 0) rfl (by rw [e_v1_123]; rfl) (by decide) rfl (fun ls hl => ?_)
                    refine lv_goto (tgt := 106) hx hb dX7_goesTick_126 (by decide) ?_
                    exact ih106 v1_123 u120 _ _ ls (ms_s (dec_i4 hbw1_106 e_v1_123) hm106) (ge0_i4 hbw1_106 e_v1_123) hO hP hS (lv_sub hl [0, 1] rfl) hF
              exact L106 BIG 0 u_81 _ _ ls (big_i4 _) le0 hO hP hS (lv_sub hl [0, 1] rfl) hF
            · have hF := iff_ c90 hF
              have hbw1_81 : vp_in w1_81 4 := in_n h1 (nle_lt c90) hO.1.2.2.2
              refine lv_aload_n hx hb dX7_goesTick_93 rfl (lv_at hl 1 rfl) ?_
              refine lv_iload_n hx hb dX7_goesTick_94 rfl (lv_at hl 0 rfl) ?_
              refine va_callv (va_runV (As := [.int w1_81]) (rest := []) ⟨hx, hb, hml, hown, hts⟩ (c7_goesPlatform l hA σ u_81 w1_81 hO hbw1_81) (cwV 1 hts gX7_goesTick_X7_goesPlatform rfl rfl rfl hd_X7_goesPlatformV ⟨Nat.le_of_ble_eq_true rfl, Nat.le_of_ble_eq_true rfl⟩) ⟨hp_blind, va_recv hK hP (ci := 9) (q0 := 279) rfl c_279, hp_pre hK hN hP⟩ rfl rfl hl.1 rfl (lv_room (Nat.le_of_ble_eq_true rfl)) dX7_goesTick_95 ⟨Nat.zero_le _, Nat.zero_le _⟩) hS (fun _ _ h => h) (fun _ h => h) (fun u9 t H locs ht hvm hw9 hB hz1 hk1 hS => ?_)
              have hP := ho_at ht hB
              obtain ⟨eq95, ok9⟩ := hw9
              obtain ⟨u95, e_u95⟩ : ∃ z, z = u9 := ⟨_, rfl⟩
              rw [← e_u95] at hP eq95 ok9
              have hO := ok9
              have hF := bnd_s eq95 hF
              obtain ⟨v1_98, e_v1_98⟩ : ∃ z : Int32, z = w1_81 + 1 := ⟨_, rfl⟩
              have hF := bnd_s e_v1_98 hF
              refine lv_iinc (v := v1_98) (lv' := [(1, .int v1_98), (0, .ref (ad (279)))]) hx hb dX7_goesTick_98 hl (k := 0) rfl (by rw [e_v1_98]; rfl) (by decide) rfl (fun ls hl => ?_)
              refine lv_goto (tgt := 81) hx hb dX7_goesTick_101 (by decide) ?_
              exact ih81 v1_98 u95 _ _ ls (ms_s (dec_i4 hbw1_81 e_v1_98) hm81) (ge0_i4 hbw1_81 e_v1_98) hO hP hS (lv_sub hl [0, 1] rfl) hF
        exact L81 BIG 0 u_14 _ _ ls (big_i4 _) le0 hO hP hS (lv_sub hl [0, 1] rfl) hF
      · have hF := iff_ c23 hF
        have hbw1_14 : vp_in w1_14 4 := in_n h1 (nle_lt c23) hO.1.2.1
        refine lv_aload_n hx hb dX7_goesTick_26 rfl (lv_at hl 1 rfl) ?_
        refine va_get (D := D) (ci := 9) (C := RX7) (T := TX7) (N := 17) hx hb hts inX7 hown hK hP (279) c_279 rfl 3 (by decide) (hts (.fieldLink RX7 16 "TileRunnersModel" "carrier" "[I") (List.mem_of_getElem? (i := 2) rfl)) (fun _ h9 => h9) rfl dX7_goesTick_27 ?_
        refine lv_iload_n hx hb dX7_goesTick_30 rfl (lv_at hl 0 rfl) ?_
        refine lv_aload_n hx hb dX7_goesTick_31 rfl (lv_at hl 1 rfl) ?_
        refine lv_iload_n hx hb dX7_goesTick_32 rfl (lv_at hl 0 rfl) ?_
        refine lv_iconst (v := 3) hx hb dX7_goesTick_33 (by decide) ?_
        refine va_calli (va_runV (As := [.int w1_14, .int 3]) (rest := [.int w1_14, .ref (ad (282))]) ⟨hx, hb, hml, hown, hts⟩ (c7_of l hA σ u_14 w1_14 3 (vp_in_iff.mpr (by decide)) hbw1_14) (cwV 2 hts gX7_goesTick_X7_of rfl rfl rfl hd_X7_ofV ⟨Nat.le_of_ble_eq_true rfl, Nat.le_of_ble_eq_true rfl⟩) ⟨hp_blind, va_recv hK hP (ci := 9) (q0 := 279) rfl c_279, hp_pre hK hN hP⟩ rfl rfl hl.1 rfl (lv_room (Nat.le_of_ble_eq_true rfl)) dX7_goesTick_34 ⟨Nat.zero_le _, Nat.zero_le _⟩) hS (fun _ _ h => h) (fun _ h => h) (fun r34 _ t H locs ht hvm hw9 hB hz1 hk1 hS => ?_)
        have hP := ho_at ht hB
        have eq34 := hw9
        have hF := bnd_s eq34 hF
        have J72 : ∀ (t0_72 : Int32) (H : Heap) (locs : List Loc) (ls : Array Slot), va_P D vwCl (pool G ad (va_up σ 16 u_14)) H → va_S (AA B0) s.heap H locs → lv_has ls 2 [(1, .int w1_14), (0, .ref (ad (279)))] → f7_goesTick_b72 (f7_goesTick_L14 n14) w1_14 u_14 t0_72 = FF → W p l e (headSpec wsX7_goesTick { frames := 12, cells := 0, slots := 0, locals := 279 }).room s m ([.ref (ad (279))] : List Value).toArray below meth c H locs 0 0 (MQ below (va_Qv (fun (z : Nat → Int32) => z = f7_goesTick u ∧ okM z) (fun (z : Nat → Int32) => Ho D G ad (va_up σ 16 z)) (AA B0)) ([.ref (ad (279))] : List Value).toArray s 0 0 (AA B0)) (F0 m 72 ls [.int t0_72, .int w1_14, .ref (ad (282))]) := by
          intro t0_72 H locs ls hP hS hl hF
          rw [f7_goesTick_b72] at hF
          have hin9 : vp_in w1_14 4 := hbw1_14
          refine past16 (n := 4) (o := 484) (t := 484+w1_14.toNatClampNeg) hx hb hK hP hA hS (j := 282) (by decide) (by decide) (fun _ _ => rfl) (fun k9 hk9 => by unfold own16; repeat first | rw [if_pos (by omega)] | rw [if_neg (by omega)]) hin9 rfl dX7_goesTick_72 (fun u9 H locs eu9 hP hS => ?_)
          have hlt9 := in_lt hin9
          obtain ⟨u72, e_u72⟩ : ∃ z, z = u9 := ⟨_, rfl⟩
          rw [← e_u72] at hP eu9
          have hF := bnd_s eu9 hF
          have hO := okM_up eu9 hO (by omega) (by omega) (by omega)
          obtain ⟨v1_73, e_v1_73⟩ : ∃ z : Int32, z = w1_14 + 1 := ⟨_, rfl⟩
          have hF := bnd_s e_v1_73 hF
          refine lv_iinc (v := v1_73) (lv' := [(1, .int v1_73), (0, .ref (ad (279)))]) hx hb dX7_goesTick_73 hl (k := 0) rfl (by rw [e_v1_73]; rfl) (by decide) rfl (fun ls hl => ?_)
          refine lv_goto (tgt := 14) hx hb dX7_goesTick_76 (by decide) ?_
          exact ih14 v1_73 u72 _ _ ls (ms_s (dec_i4 hbw1_14 e_v1_73) hm14) (ge0_i4 hbw1_14 e_v1_73) hO hP hS (lv_sub hl [0, 1] rfl) hF
        have J71 : ∀  (H : Heap) (locs : List Loc) (ls : Array Slot), va_P D vwCl (pool G ad (va_up σ 16 u_14)) H → va_S (AA B0) s.heap H locs → lv_has ls 2 [(1, .int w1_14), (0, .ref (ad (279)))] → f7_goesTick_b71 (f7_goesTick_L14 n14) w1_14 u_14  = FF → W p l e (headSpec wsX7_goesTick { frames := 12, cells := 0, slots := 0, locals := 279 }).room s m ([.ref (ad (279))] : List Value).toArray below meth c H locs 0 0 (MQ below (va_Qv (fun (z : Nat → Int32) => z = f7_goesTick u ∧ okM z) (fun (z : Nat → Int32) => Ho D G ad (va_up σ 16 z)) (AA B0)) ([.ref (ad (279))] : List Value).toArray s 0 0 (AA B0)) (F0 m 71 ls [.int w1_14, .ref (ad (282))]) := by
          intro  H locs ls hP hS hl hF
          rw [f7_goesTick_b71] at hF
          refine lv_iconst (v := (-1)) hx hb dX7_goesTick_71 (by decide) ?_
          exact J72 (-1) _ _ ls hP hS (lv_sub hl [0, 1] rfl) hF
        refine lv_if_gt (tgt := 71) hx hb dX7_goesTick_37 (by decide) (fun c37 => ?_) (fun c37 => ?_)
        · have hF := ift c37 hF
          exact J71  _ _ ls hP hS (lv_sub hl [0, 1] rfl) hF
        · have hF := iff_ c37 hF
          refine lv_aload_n hx hb dX7_goesTick_40 rfl (lv_at hl 1 rfl) ?_
          refine lv_iload_n hx hb dX7_goesTick_41 rfl (lv_at hl 0 rfl) ?_
          refine lv_bipush (v := 6) hx hb dX7_goesTick_42 (by decide) ?_
          refine va_calli (va_runV (As := [.int w1_14, .int 6]) (rest := [.int w1_14, .ref (ad (282))]) ⟨hx, hb, hml, hown, hts⟩ (c7_of l hA σ u_14 w1_14 6 (vp_in_iff.mpr (by decide)) hbw1_14) (cwV 2 hts gX7_goesTick_X7_of rfl rfl rfl hd_X7_ofV ⟨Nat.le_of_ble_eq_true rfl, Nat.le_of_ble_eq_true rfl⟩) ⟨hp_blind, va_recv hK hP (ci := 9) (q0 := 279) rfl c_279, hp_pre hK hN hP⟩ rfl rfl hl.1 rfl (lv_room (Nat.le_of_ble_eq_true rfl)) dX7_goesTick_44 ⟨Nat.zero_le _, Nat.zero_le _⟩) hS (fun _ _ h => h) (fun _ h => h) (fun r44 _ t H locs ht hvm hw9 hB hz1 hk1 hS => ?_)
          have hP := ho_at ht hB
          have eq44 := hw9
          have hF := bnd_s eq44 hF
          refine lv_if_ne (tgt := 71) hx hb dX7_goesTick_47 (by decide) (fun c47 => ?_) (fun c47 => ?_)
          · have hF := iff_ c47 hF
            exact J71  _ _ ls hP hS (lv_sub hl [0, 1] rfl) hF
          · have hF := ift c47 hF
            refine lv_aload_n hx hb dX7_goesTick_50 rfl (lv_at hl 1 rfl) ?_
            refine lv_iload_n hx hb dX7_goesTick_51 rfl (lv_at hl 0 rfl) ?_
            refine lv_aload_n hx hb dX7_goesTick_52 rfl (lv_at hl 1 rfl) ?_
            refine lv_iload_n hx hb dX7_goesTick_53 rfl (lv_at hl 0 rfl) ?_
            refine lv_iconst (v := 0) hx hb dX7_goesTick_54 (by decide) ?_
            refine va_calli (va_runV (As := [.int w1_14, .int 0]) (rest := [.int w1_14, .ref (ad (279)), .int w1_14, .ref (ad (282))]) ⟨hx, hb, hml, hown, hts⟩ (c7_of l hA σ u_14 w1_14 0 (vp_in_iff.mpr (by decide)) hbw1_14) (cwV 2 hts gX7_goesTick_X7_of rfl rfl rfl hd_X7_ofV ⟨Nat.le_of_ble_eq_true rfl, Nat.le_of_ble_eq_true rfl⟩) ⟨hp_blind, va_recv hK hP (ci := 9) (q0 := 279) rfl c_279, hp_pre hK hN hP⟩ rfl rfl hl.1 rfl (lv_room (Nat.le_of_ble_eq_true rfl)) dX7_goesTick_55 ⟨Nat.zero_le _, Nat.zero_le _⟩) hS (fun _ _ h => h) (fun _ h => h) (fun r55 _ t H locs ht hvm hw9 hB hz1 hk1 hS => ?_)
            have hP := ho_at ht hB
            have eq55 := hw9
            have hF := bnd_s eq55 hF
            refine lv_aload_n hx hb dX7_goesTick_58 rfl (lv_at hl 1 rfl) ?_
            refine lv_iload_n hx hb dX7_goesTick_59 rfl (lv_at hl 0 rfl) ?_
            refine lv_iconst (v := 1) hx hb dX7_goesTick_60 (by decide) ?_
            refine va_calli (va_runV (As := [.int w1_14, .int 1]) (rest := [.int r55, .int w1_14, .ref (ad (279)), .int w1_14, .ref (ad (282))]) ⟨hx, hb, hml, hown, hts⟩ (c7_of l hA σ u_14 w1_14 1 (vp_in_iff.mpr (by decide)) hbw1_14) (cwV 2 hts gX7_goesTick_X7_of rfl rfl rfl hd_X7_ofV ⟨Nat.le_of_ble_eq_true rfl, Nat.le_of_ble_eq_true rfl⟩) ⟨hp_blind, va_recv hK hP (ci := 9) (q0 := 279) rfl c_279, hp_pre hK hN hP⟩ rfl rfl hl.1 rfl (lv_room (Nat.le_of_ble_eq_true rfl)) dX7_goesTick_61 ⟨Nat.zero_le _, Nat.zero_le _⟩) hS (fun _ _ h => h) (fun _ h => h) (fun r61 _ t H locs ht hvm hw9 hB hz1 hk1 hS => ?_)
            have hP := ho_at ht hB
            have eq61 := hw9
            have hF := bnd_s eq61 hF
            refine lv_iconst (v := (-1)) hx hb dX7_goesTick_64 (by decide) ?_
            refine va_calli (va_runV (As := [.int w1_14, .int r55, .int r61, .int (-1)]) (rest := [.int w1_14, .ref (ad (282))]) ⟨hx, hb, hml, hown, hts⟩ (c7_platformBelow l hA σ u_14 w1_14 r55 r61 (-1) hO hbw1_14) (cwV 4 hts gX7_goesTick_X7_platformBelow rfl rfl rfl hd_X7_platformBelowV ⟨Nat.le_of_ble_eq_true rfl, Nat.le_of_ble_eq_true rfl⟩) ⟨hp_blind, va_recv hK hP (ci := 9) (q0 := 279) rfl c_279, hp_pre hK hN hP⟩ rfl rfl hl.1 rfl (lv_room (Nat.le_of_ble_eq_true rfl)) dX7_goesTick_65 ⟨Nat.zero_le _, Nat.zero_le _⟩) hS (fun _ _ h => h) (fun _ h => h) (fun r65 _ t H locs ht hvm hw9 hB hz1 hk1 hS => ?_)
            have hP := ho_at ht hB
            have eq65 := hw9
            have hF := bnd_s eq65 hF
            refine lv_goto (tgt := 72) hx hb dX7_goesTick_68 (by decide) ?_
            exact J72 r65 _ _ ls hP hS (lv_sub hl [0, 1] rfl) hF
  exact L14 BIG 0 u11 _ _ ls (big_i4 _) le0 hO hP hS (lv_sub hl [0, 1] rfl) hF
theorem hd_X7_goesTickV : yX7_goesTick.cls = RX7 ∧ yX7_goesTick.cls ≠ "java/lang/invoke/MethodHandle" ∧ yX7_goesTick.cls ≠ "java/lang/invoke/VarHandle" ∧ (parseMethodDescriptor yX7_goesTick.desc).map (fun d => d.parameters.length) = some 0 := by decide +kernel
