set_option maxHeartbeats 4000000 in
set_option maxRecDepth 100000 in
theorem c5_nearerToZero (l : Launch) {D : va_G} {G : CY} {ad : Nat → Nat} {B0 : Nat} (hA : adOK B0 ad) (σ : Nat → Nat → Int32) (u : Nat → Int32) (w : Nat) (hw : w < 15) (a : Int32) : Met l yX5_nearerToZero wsX5_nearerToZero { frames := 1, cells := 0, slots := 0, locals := 60 } (va_Pc [.ref (ad (18*w+0)), .int a] (Hp D G ad (va_up σ w u))) (va_Qi (fun (r : Int32) (_ : Unit) => r = f5_nearerToZero a) (fun (_ : Unit) => Ho D G ad (va_up σ w u)) (AA B0)) 0 0 (AA B0) := by
  refine Met.ofW (cc := cX5_nearerToZero) (maxL := 2) (ret := (some .int)) (by decide) rfl ?_
  intro p e s m args below meth c s₁ B hml hv
  obtain ⟨rfl, hP, hK, hN⟩ := hv
  have hx := B.exec
  have hb := B.bytes
  have hr := B.returns
  have hts := atoms_spec (ws := wsX5_nearerToZero) B.pre
  have hown : s.vm.findClass RX5 = some m.cls := findClass_of_methodNamed B.named
  have hlocks := B.notSynchronized
  have hP : va_P D vwCl (pool G ad (va_up σ w u)) s.heap := hP
  have hS : va_S (AA B0) s.heap s.heap [] := va_S.rf
  have hl := lv_entry ([.ref (ad (18*w+0)), .int a]) (n := 2) (Nat.le_of_ble_eq_true rfl)
  rw [lg_entry_eq]
  generalize (lg_sl ([.ref (ad (18*w+0)), .int a]) ++ List.replicate (2 - (lg_sl ([.ref (ad (18*w+0)), .int a])).length) Slot.unset).toArray = ls at hl ⊢
  have hl : lv_has ls 2 [(0, .ref (ad (18*w+0))), (1, .int a)] := hl
  obtain ⟨FF, hFF⟩ : ∃ z, z = f5_nearerToZero a := ⟨_, rfl⟩
  have hF := hFF.symm
  rw [f5_nearerToZero] at hF
  refine lv_iload_n hx hb dX5_nearerToZero_0 rfl (lv_at hl 1 rfl) ?_
  refine lv_if_le (tgt := 14) hx hb dX5_nearerToZero_1 (by decide) (fun c1 => ?_) (fun c1 => ?_)
  · have hF := ift c1 hF
    refine lv_iconst (v := 0) hx hb dX5_nearerToZero_14 (by decide) ?_
    refine lv_iload_n hx hb dX5_nearerToZero_15 rfl (lv_at hl 1 rfl) ?_
    refine lv_iconst (v := 2) hx hb dX5_nearerToZero_16 (by decide) ?_
    refine lv_iadd hx hb dX5_nearerToZero_17 ?_
    refine va_mmin hx hb (hml.trans hl.1.symm) hown (hts _ (List.mem_of_getElem? (i := 5) rfl)) (hts _ (List.mem_of_getElem? (i := 6) rfl)) (hts _ (List.mem_of_getElem? (i := 3) rfl)) (hts _ (List.mem_of_getElem? (i := 7) rfl)) (Nat.le_of_ble_eq_true rfl) (Nat.le_of_ble_eq_true rfl) (Nat.zero_le _) (Nat.zero_le _) dX5_nearerToZero_18 ?_
    exact W.iret (v := (mMin 0 (a + 2))) hx hb hr (fun t ht hW => ⟨⟨(mMin 0 (a + 2)), (), rfl, hF.trans hFF, ho_of ht hP⟩, hS.F ht⟩) hS.2.2 dX5_nearerToZero_21
  · have hF := iff_ c1 hF
    refine lv_iconst (v := 0) hx hb dX5_nearerToZero_4 (by decide) ?_
    refine lv_iload_n hx hb dX5_nearerToZero_5 rfl (lv_at hl 1 rfl) ?_
    refine lv_iconst (v := 2) hx hb dX5_nearerToZero_6 (by decide) ?_
    refine lv_isub hx hb dX5_nearerToZero_7 ?_
    refine va_mmax hx hb (hml.trans hl.1.symm) hown (hts _ (List.mem_of_getElem? (i := 1) rfl)) (hts _ (List.mem_of_getElem? (i := 2) rfl)) (hts _ (List.mem_of_getElem? (i := 3) rfl)) (hts _ (List.mem_of_getElem? (i := 4) rfl)) (Nat.le_of_ble_eq_true rfl) (Nat.le_of_ble_eq_true rfl) (Nat.zero_le _) (Nat.zero_le _) dX5_nearerToZero_8 ?_
    refine lv_goto (tgt := 21) hx hb dX5_nearerToZero_11 (by decide) ?_
    exact W.iret (v := (mMax 0 (a - 2))) hx hb hr (fun t ht hW => ⟨⟨(mMax 0 (a - 2)), (), rfl, hF.trans hFF, ho_of ht hP⟩, hS.F ht⟩) hS.2.2 dX5_nearerToZero_21
theorem hd_X5_nearerToZeroV : yX5_nearerToZero.cls = RX5 ∧ yX5_nearerToZero.cls ≠ "java/lang/invoke/MethodHandle" ∧ yX5_nearerToZero.cls ≠ "java/lang/invoke/VarHandle" ∧ (parseMethodDescriptor yX5_nearerToZero.desc).map (fun d => d.parameters.length) = some 1 := by decide +kernel
set_option maxHeartbeats 4000000 in
set_option maxRecDepth 100000 in
theorem c5_platformUnder (l : Launch) {D : va_G} {G : CY} {ad : Nat → Nat} {B0 : Nat} (hA : adOK B0 ad) (σ : Nat → Nat → Int32) (u : Nat → Int32) (w : Nat) (hw : w < 15) (i : Nat) (hi : i < 4) (a : Int32) (b : Int32) (c1 : Int32) (hO : okW u) : Met l yX5_platformUnder wsX5_platformUnder { frames := 1, cells := 0, slots := 0, locals := 23 } (va_Pc [.ref (ad (18*w+0)), .ref (ad (18*w+(6+2*i))), .int a, .int b, .int c1] (Hp D G ad (va_up σ w u))) (va_Qi (fun (r : Int32) (_ : Unit) => r = f5_platformUnder u i a b c1) (fun (_ : Unit) => Ho D G ad (va_up σ w u)) (AA B0)) 0 0 (AA B0) := by
  refine Met.ofW (cc := cX5_platformUnder) (maxL := 6) (ret := (some .int)) (by decide) rfl ?_
  intro p e s m args below meth c s₁ B hml hv
  obtain ⟨rfl, hP, hK, hN⟩ := hv
  have hx := B.exec
  have hb := B.bytes
  have hr := B.returns
  have hts := atoms_spec (ws := wsX5_platformUnder) B.pre
  have hown : s.vm.findClass RX5 = some m.cls := findClass_of_methodNamed B.named
  have hlocks := B.notSynchronized
  have inX5 : ∀ w ∈ wsX50, w ∈ wsX5_platformUnder := (fun w h => List.mem_cons_of_mem _ (List.mem_append_left _ (List.mem_append_left _ (List.mem_append_right _ h))))
  have hP : va_P D vwCl (pool G ad (va_up σ w u)) s.heap := hP
  have hS : va_S (AA B0) s.heap s.heap [] := va_S.rf
  have hl := lv_entry ([.ref (ad (18*w+0)), .ref (ad (18*w+(6+2*i))), .int a, .int b, .int c1]) (n := 6) (Nat.le_of_ble_eq_true rfl)
  rw [lg_entry_eq]
  generalize (lg_sl ([.ref (ad (18*w+0)), .ref (ad (18*w+(6+2*i))), .int a, .int b, .int c1]) ++ List.replicate (6 - (lg_sl ([.ref (ad (18*w+0)), .ref (ad (18*w+(6+2*i))), .int a, .int b, .int c1])).length) Slot.unset).toArray = ls at hl ⊢
  have hl : lv_has ls 6 [(0, .ref (ad (18*w+0))), (1, .ref (ad (18*w+(6+2*i)))), (2, .int a), (3, .int b), (4, .int c1)] := hl
  obtain ⟨FF, hFF⟩ : ∃ z, z = f5_platformUnder u i a b c1 := ⟨_, rfl⟩
  have hF := hFF.symm
  rw [f5_platformUnder] at hF
  refine lv_iconst (v := 0) hx hb dX5_platformUnder_0 (by decide) ?_
  refine lv_istore (lv' := [(5, .int 0), (0, .ref (ad (18*w+0))), (1, .ref (ad (18*w+(6+2*i)))), (2, .int a), (3, .int b), (4, .int c1)]) hx hb dX5_platformUnder_1 hl (by decide) rfl (fun ls hl => ?_)
  have L3 : ∀ (n3 : Nat) (w5_3 : Int32) (H : Heap) (locs : List Loc) (ls : Array Slot), (4 - w5_3.toInt).toNat < n3 → 0 ≤ w5_3 → va_P D vwCl (pool G ad (va_up σ w u)) H → va_S (AA B0) s.heap H locs → lv_has ls 6 [(5, .int w5_3), (0, .ref (ad (18*w+0))), (1, .ref (ad (18*w+(6+2*i)))), (2, .int a), (3, .int b), (4, .int c1)] → f5_platformUnder_L3 u i a b c1 n3 w5_3 = FF → W p l e (headSpec wsX5_platformUnder { frames := 1, cells := 0, slots := 0, locals := 23 }).room s m ([.ref (ad (18*w+0)), .ref (ad (18*w+(6+2*i))), .int a, .int b, .int c1] : List Value).toArray below meth c H locs 0 0 (MQ below (va_Qi (fun (r : Int32) (_ : Unit) => r = f5_platformUnder u i a b c1) (fun (_ : Unit) => Ho D G ad (va_up σ w u)) (AA B0)) ([.ref (ad (18*w+0)), .ref (ad (18*w+(6+2*i))), .int a, .int b, .int c1] : List Value).toArray s 0 0 (AA B0)) (F0 m 3 ls []) := by
    intro n3
    induction n3 with
    | zero => intro w5_3 H locs ls hm; exact absurd hm (Nat.not_lt_zero _)
    | succ n3 ih3 =>
      intro w5_3 H locs ls hm3 h5 hP hS hl hF
      rw [f5_platformUnder_L3] at hF
      refine lv_iload hx hb dX5_platformUnder_3 (lv_at hl 0 rfl) ?_
      refine lv_aload_n hx hb dX5_platformUnder_5 rfl (lv_at hl 1 rfl) ?_
      refine va_get (D := D) (ci := 7) (C := RX5) (T := TX5) (N := 7) hx hb hts inX5 hown hK hP (18*w+0) (c_o hw) rfl 5 (by decide) (hts (.fieldLink RX5 44 "TileRunners$World" "platformCount" "I") (List.mem_of_getElem? (i := 1) rfl)) (fun _ h9 => h9) rfl dX5_platformUnder_6 ?_
      refine lv_icmp_ge (tgt := 44) hx hb dX5_platformUnder_9 (by decide) (fun c9 => ?_) (fun c9 => ?_)
      · have hF := ift c9 hF
        refine lv_iconst (v := (-1)) hx hb dX5_platformUnder_44 (by decide) ?_
        exact W.iret (v := (-1)) hx hb hr (fun t ht hW => ⟨⟨(-1), (), rfl, hF.trans hFF, ho_of ht hP⟩, hS.F ht⟩) hS.2.2 dX5_platformUnder_45
      · have hF := iff_ c9 hF
        have hi5 : vp_in w5_3 4 := in_n h5 (nle_lt c9) hO.2.2.2
        refine lv_iload hx hb dX5_platformUnder_12 (lv_at hl 0 rfl) ?_
        refine lv_iload hx hb dX5_platformUnder_14 (lv_at hl 5 rfl) ?_
        have J38 : ∀  (H : Heap) (locs : List Loc) (ls : Array Slot), va_P D vwCl (pool G ad (va_up σ w u)) H → va_S (AA B0) s.heap H locs → lv_has ls 6 [(5, .int w5_3), (0, .ref (ad (18*w+0))), (1, .ref (ad (18*w+(6+2*i)))), (2, .int a), (3, .int b), (4, .int c1)] → f5_platformUnder_b38 (f5_platformUnder_L3 u i a b c1 n3) w5_3  = FF → W p l e (headSpec wsX5_platformUnder { frames := 1, cells := 0, slots := 0, locals := 23 }).room s m ([.ref (ad (18*w+0)), .ref (ad (18*w+(6+2*i))), .int a, .int b, .int c1] : List Value).toArray below meth c H locs 0 0 (MQ below (va_Qi (fun (r : Int32) (_ : Unit) => r = f5_platformUnder u i a b c1) (fun (_ : Unit) => Ho D G ad (va_up σ w u)) (AA B0)) ([.ref (ad (18*w+0)), .ref (ad (18*w+(6+2*i))), .int a, .int b, .int c1] : List Value).toArray s 0 0 (AA B0)) (F0 m 38 ls []) := by
          intro  H locs ls hP hS hl hF
          rw [f5_platformUnder_b38] at hF
          obtain ⟨v5_38, e_v5_38⟩ : ∃ z : Int32, z = w5_3 + 1 := ⟨_, rfl⟩
          have hF := bnd_s e_v5_38 hF
          refine lv_iinc (v := v5_38) (lv' := [(5, .int v5_38), (0, .ref (ad (18*w+0))), (1, .ref (ad (18*w+(6+2*i)))), (2, .int a), (3, .int b), (4, .int c1)]) hx hb dX5_platformUnder_38 hl (k := 0) rfl (by rw [e_v5_38]; rfl) (by decide) rfl (fun ls hl => ?_)
          refine lv_goto (tgt := 3) hx hb dX5_platformUnder_41 (by decide) ?_
          exact ih3 v5_38 _ _ ls (ms_s (dec_i4 hi5 e_v5_38) hm3) (ge0_i4 hi5 e_v5_38) hP hS (lv_sub hl [0, 1, 2, 3, 4, 5] rfl) hF
        refine lv_icmp_eq (tgt := 38) hx hb dX5_platformUnder_16 (by decide) (fun c16 => ?_) (fun c16 => ?_)
        · have hF := ift c16 hF
          exact J38  _ _ ls hP hS (lv_sub hl [0, 1, 2, 3, 4, 5] rfl) hF
        · have hF := iff_ c16 hF
          refine lv_aload_n hx hb dX5_platformUnder_19 rfl (lv_at hl 1 rfl) ?_
          refine va_get (D := D) (ci := 7) (C := RX5) (T := TX5) (N := 7) hx hb hts inX5 hown hK hP (18*w+0) (c_o hw) rfl 2 (by decide) (hts (.fieldLink RX5 26 "TileRunners$World" "platforms" "[LTileRunners$Platform;") (List.mem_of_getElem? (i := 2) rfl)) (fun _ h9 => h9) rfl dX5_platformUnder_20 ?_
          refine lv_iload hx hb dX5_platformUnder_23 (lv_at hl 0 rfl) ?_
          have hi_25 : w5_3.toNatClampNeg < 4 := in_lt (i := w5_3) hi5
          refine pqald (t0 := 3) (i := w5_3) hx hb hK hP (c_ps hw) rfl hi5 dX5_platformUnder_25 ?_
          refine lv_aload_n hx hb dX5_platformUnder_26 rfl (lv_at hl 2 rfl) ?_
          refine lv_iload_n hx hb dX5_platformUnder_27 rfl (lv_at hl 3 rfl) ?_
          refine lv_iload_n hx hb dX5_platformUnder_28 rfl (lv_at hl 4 rfl) ?_
          refine va_calli (va_runV (As := [.ref (ad (18*w+(6+2*i))), .int a, .int b]) (rest := []) ⟨hx, hb, hml, hown, hts⟩ (c2_isUnder l hA σ u w hw w5_3.toNatClampNeg hi_25 i hi a b ) (cwV 3 hts gX5_platformUnder_X2_isUnder rfl rfl rfl hd_X2_isUnderV ⟨Nat.le_of_ble_eq_true rfl, Nat.le_of_ble_eq_true rfl⟩) ⟨hp_blind, va_recv hK hP (ci := 4) (q0 := 18*w+(14+w5_3.toNatClampNeg)) rfl (c_p hw hi_25), hp_pre hK hN hP⟩ rfl rfl hl.1 rfl (lv_room (Nat.le_of_ble_eq_true rfl)) dX5_platformUnder_29 ⟨Nat.zero_le _, Nat.zero_le _⟩) hS (fun _ _ h => h) (fun _ h => h) (fun r29 _ t H locs ht hvm hw9 hB hz1 hk1 hS => ?_)
          have hP := ho_at ht hB
          obtain ⟨eq29, hb_r29⟩ := hw9
          have hF := bnd_s eq29 hF
          refine lv_if_eq (tgt := 38) hx hb dX5_platformUnder_32 (by decide) (fun c32 => ?_) (fun c32 => ?_)
          · have hF := ift c32 hF
            exact J38  _ _ ls hP hS (lv_sub hl [0, 1, 2, 3, 4, 5] rfl) hF
          · have hF := iff_ c32 hF
            refine lv_iload hx hb dX5_platformUnder_35 (lv_at hl 0 rfl) ?_
            exact W.iret (v := w5_3) hx hb hr (fun t ht hW => ⟨⟨w5_3, (), rfl, hF.trans hFF, ho_of ht hP⟩, hS.F ht⟩) hS.2.2 dX5_platformUnder_37
  exact L3 BIG 0 _ _ ls (big_i4 _) le0 hP hS (lv_sub hl [0, 1, 2, 3, 4, 5] rfl) hF
theorem hd_X5_platformUnderV : yX5_platformUnder.cls = RX5 ∧ yX5_platformUnder.cls ≠ "java/lang/invoke/MethodHandle" ∧ yX5_platformUnder.cls ≠ "java/lang/invoke/VarHandle" ∧ (parseMethodDescriptor yX5_platformUnder.desc).map (fun d => d.parameters.length) = some 4 := by decide +kernel
set_option maxHeartbeats 4000000 in
set_option maxRecDepth 100000 in
theorem c5_supportAt (l : Launch) {D : va_G} {G : CY} {ad : Nat → Nat} {B0 : Nat} (hA : adOK B0 ad) (σ : Nat → Nat → Int32) (u : Nat → Int32) (w : Nat) (hw : w < 15) (i : Nat) (hi : i < 4) (a : Int32) (b : Int32) (c1 : Int32) (hO : okW u) : Met l yX5_supportAt wsX5_supportAt { frames := 2, cells := 0, slots := 0, locals := 52 } (va_Pc [.ref (ad (18*w+0)), .ref (ad (18*w+(6+2*i))), .int a, .int b, .int c1] (Hp D G ad (va_up σ w u))) (va_Qi (fun (r : Int32) (_ : Unit) => r = f5_supportAt u i a b c1) (fun (_ : Unit) => Ho D G ad (va_up σ w u)) (AA B0)) 0 0 (AA B0) := by
  refine Met.ofW (cc := cX5_supportAt) (maxL := 6) (ret := (some .int)) (by decide) rfl ?_
  intro p e s m args below meth c s₁ B hml hv
  obtain ⟨rfl, hP, hK, hN⟩ := hv
  have hx := B.exec
  have hb := B.bytes
  have hr := B.returns
  have hts := atoms_spec (ws := wsX5_supportAt) B.pre
  have hown : s.vm.findClass RX5 = some m.cls := findClass_of_methodNamed B.named
  have hlocks := B.notSynchronized
  have inX0 : ∀ w ∈ wsX00, w ∈ wsX5_supportAt := (fun w h => List.mem_cons_of_mem _ (List.mem_append_left _ (List.mem_append_left _ (List.mem_append_left _ (List.mem_append_right _ h)))))
  have inX5 : ∀ w ∈ wsX50, w ∈ wsX5_supportAt := (fun w h => List.mem_cons_of_mem _ (List.mem_append_left _ (List.mem_append_left _ (List.mem_append_left _ (List.mem_append_left _ (List.mem_append_right _ h))))))
  have hP : va_P D vwCl (pool G ad (va_up σ w u)) s.heap := hP
  have hS : va_S (AA B0) s.heap s.heap [] := va_S.rf
  have hl := lv_entry ([.ref (ad (18*w+0)), .ref (ad (18*w+(6+2*i))), .int a, .int b, .int c1]) (n := 6) (Nat.le_of_ble_eq_true rfl)
  rw [lg_entry_eq]
  generalize (lg_sl ([.ref (ad (18*w+0)), .ref (ad (18*w+(6+2*i))), .int a, .int b, .int c1]) ++ List.replicate (6 - (lg_sl ([.ref (ad (18*w+0)), .ref (ad (18*w+(6+2*i))), .int a, .int b, .int c1])).length) Slot.unset).toArray = ls at hl ⊢
  have hl : lv_has ls 6 [(0, .ref (ad (18*w+0))), (1, .ref (ad (18*w+(6+2*i)))), (2, .int a), (3, .int b), (4, .int c1)] := hl
  obtain ⟨FF, hFF⟩ : ∃ z, z = f5_supportAt u i a b c1 := ⟨_, rfl⟩
  have hF := hFF.symm
  rw [f5_supportAt] at hF
  refine lv_iconst (v := 0) hx hb dX5_supportAt_0 (by decide) ?_
  refine lv_istore (lv' := [(5, .int 0), (0, .ref (ad (18*w+0))), (1, .ref (ad (18*w+(6+2*i)))), (2, .int a), (3, .int b), (4, .int c1)]) hx hb dX5_supportAt_1 hl (by decide) rfl (fun ls hl => ?_)
  refine lv_aload_n hx hb dX5_supportAt_3 rfl (lv_at hl 1 rfl) ?_
  refine va_get (D := D) (ci := 7) (C := RX5) (T := TX5) (N := 7) hx hb hts inX5 hown hK hP (18*w+0) (c_o hw) rfl 0 (by decide) (hts (.fieldLink RX5 12 "TileRunners$World" "tiles" "LTileRunners$Tiles;") (List.mem_of_getElem? (i := 1) rfl)) (fun _ h9 => h9) rfl dX5_supportAt_4 ?_
  refine lv_aload_n hx hb dX5_supportAt_7 rfl (lv_at hl 2 rfl) ?_
  refine lv_iload_n hx hb dX5_supportAt_8 rfl (lv_at hl 3 rfl) ?_
  refine lv_iload_n hx hb dX5_supportAt_9 rfl (lv_at hl 4 rfl) ?_
  refine va_calli (va_runV (As := [.ref (ad (18*w+(6+2*i))), .int a, .int b]) (rest := []) ⟨hx, hb, hml, hown, hts⟩ (c4_firmKindsBelow l hA σ u w hw i hi a b ) (cwV 3 hts gX5_supportAt_X4_firmKindsBelow rfl rfl rfl hd_X4_firmKindsBelowV ⟨Nat.le_of_ble_eq_true rfl, Nat.le_of_ble_eq_true rfl⟩) ⟨hp_blind, va_recv hK hP (ci := 6) (q0 := 18*w+1) rfl (c_t hw), hp_pre hK hN hP⟩ rfl rfl hl.1 rfl (lv_room (Nat.le_of_ble_eq_true rfl)) dX5_supportAt_10 ⟨Nat.zero_le _, Nat.zero_le _⟩) hS (fun _ _ h => h) (fun _ h => h) (fun r10 _ t H locs ht hvm hw9 hB hz1 hk1 hS => ?_)
  have hP := ho_at ht hB
  have eq10 := hw9
  have hF := bnd_s eq10 hF
  have J22 : ∀ (w5_22 : Int32) (H : Heap) (locs : List Loc) (ls : Array Slot), va_P D vwCl (pool G ad (va_up σ w u)) H → va_S (AA B0) s.heap H locs → lv_has ls 6 [(5, .int w5_22), (0, .ref (ad (18*w+0))), (1, .ref (ad (18*w+(6+2*i)))), (2, .int a), (3, .int b), (4, .int c1)] → f5_supportAt_b22 u i a b c1 w5_22 = FF → W p l e (headSpec wsX5_supportAt { frames := 2, cells := 0, slots := 0, locals := 52 }).room s m ([.ref (ad (18*w+0)), .ref (ad (18*w+(6+2*i))), .int a, .int b, .int c1] : List Value).toArray below meth c H locs 0 0 (MQ below (va_Qi (fun (r : Int32) (_ : Unit) => r = f5_supportAt u i a b c1) (fun (_ : Unit) => Ho D G ad (va_up σ w u)) (AA B0)) ([.ref (ad (18*w+0)), .ref (ad (18*w+(6+2*i))), .int a, .int b, .int c1] : List Value).toArray s 0 0 (AA B0)) (F0 m 22 ls []) := by
    intro w5_22 H locs ls hP hS hl hF
    rw [f5_supportAt_b22] at hF
    refine lv_aload_n hx hb dX5_supportAt_22 rfl (lv_at hl 1 rfl) ?_
    refine va_get (D := D) (ci := 7) (C := RX5) (T := TX5) (N := 7) hx hb hts inX5 hown hK hP (18*w+0) (c_o hw) rfl 0 (by decide) (hts (.fieldLink RX5 12 "TileRunners$World" "tiles" "LTileRunners$Tiles;") (List.mem_of_getElem? (i := 1) rfl)) (fun _ h9 => h9) rfl dX5_supportAt_23 ?_
    refine lv_aload_n hx hb dX5_supportAt_26 rfl (lv_at hl 2 rfl) ?_
    refine lv_iload_n hx hb dX5_supportAt_27 rfl (lv_at hl 3 rfl) ?_
    refine va_calli (va_runV (As := [.int a]) (rest := [.ref (ad (18*w+1))]) ⟨hx, hb, hml, hown, hts⟩ (c0_footAt l hA σ u w hw i hi a ) (cwV 1 hts gX5_supportAt_X0_footAt rfl rfl rfl hd_X0_footAtV ⟨Nat.le_of_ble_eq_true rfl, Nat.le_of_ble_eq_true rfl⟩) ⟨hp_blind, va_recv hK hP (ci := 2) (q0 := 18*w+(6+2*i)) rfl (c_b hw hi), hp_pre hK hN hP⟩ rfl rfl hl.1 rfl (lv_room (Nat.le_of_ble_eq_true rfl)) dX5_supportAt_28 ⟨Nat.zero_le _, Nat.zero_le _⟩) hS (fun _ _ h => h) (fun _ h => h) (fun r28 _ t H locs ht hvm hw9 hB hz1 hk1 hS => ?_)
    have hP := ho_at ht hB
    have eq28 := hw9
    have hF := bnd_s eq28 hF
    refine lv_iload_n hx hb dX5_supportAt_31 rfl (lv_at hl 4 rfl) ?_
    refine lv_iconst (v := 1) hx hb dX5_supportAt_32 (by decide) ?_
    refine lv_isub hx hb dX5_supportAt_33 ?_
    refine va_calli (va_runV (As := [.int r28, .int (b - 1)]) (rest := []) ⟨hx, hb, hml, hown, hts⟩ (c4_surfaceAt l hA σ u w hw r28 (b - 1) ) (cwV 2 hts gX5_supportAt_X4_surfaceAt rfl rfl rfl hd_X4_surfaceAtV ⟨Nat.le_of_ble_eq_true rfl, Nat.le_of_ble_eq_true rfl⟩) ⟨hp_blind, va_recv hK hP (ci := 6) (q0 := 18*w+1) rfl (c_t hw), hp_pre hK hN hP⟩ rfl rfl hl.1 rfl (lv_room (Nat.le_of_ble_eq_true rfl)) dX5_supportAt_34 ⟨Nat.zero_le _, Nat.zero_le _⟩) hS (fun _ _ h => h) (fun _ h => h) (fun r34 _ t H locs ht hvm hw9 hB hz1 hk1 hS => ?_)
    have hP := ho_at ht hB
    have eq34 := hw9
    have hF := bnd_s eq34 hF
    refine lv_iload_n hx hb dX5_supportAt_37 rfl (lv_at hl 4 rfl) ?_
    have J47 : ∀ (w5_47 : Int32) (H : Heap) (locs : List Loc) (ls : Array Slot), va_P D vwCl (pool G ad (va_up σ w u)) H → va_S (AA B0) s.heap H locs → lv_has ls 6 [(5, .int w5_47), (0, .ref (ad (18*w+0))), (1, .ref (ad (18*w+(6+2*i)))), (2, .int a), (3, .int b), (4, .int c1)] → f5_supportAt_b47 u i a b c1 w5_47 = FF → W p l e (headSpec wsX5_supportAt { frames := 2, cells := 0, slots := 0, locals := 52 }).room s m ([.ref (ad (18*w+0)), .ref (ad (18*w+(6+2*i))), .int a, .int b, .int c1] : List Value).toArray below meth c H locs 0 0 (MQ below (va_Qi (fun (r : Int32) (_ : Unit) => r = f5_supportAt u i a b c1) (fun (_ : Unit) => Ho D G ad (va_up σ w u)) (AA B0)) ([.ref (ad (18*w+0)), .ref (ad (18*w+(6+2*i))), .int a, .int b, .int c1] : List Value).toArray s 0 0 (AA B0)) (F0 m 47 ls []) := by
      intro w5_47 H locs ls hP hS hl hF
      rw [f5_supportAt_b47] at hF
      refine lv_aload_n hx hb dX5_supportAt_47 rfl (lv_at hl 2 rfl) ?_
      refine va_get (D := D) (ci := 2) (C := RX0) (T := TX0) (N := 16) hx hb hts inX0 hown hK hP (18*w+(6+2*i)) (c_b hw hi) rfl 10 (by decide) (hts (.fieldLink RX5 78 "TileRunners$Body" "dropping" "I") (List.mem_of_getElem? (i := 2) rfl)) (fun _ h9 => h9) rfl dX5_supportAt_48 ?_
      refine lv_if_le (tgt := 57) hx hb dX5_supportAt_51 (by decide) (fun c51 => ?_) (fun c51 => ?_)
      · have hF := ift c51 hF
        refine lv_aload_n hx hb dX5_supportAt_57 rfl (lv_at hl 1 rfl) ?_
        refine va_get (D := D) (ci := 7) (C := RX5) (T := TX5) (N := 7) hx hb hts inX5 hown hK hP (18*w+0) (c_o hw) rfl 0 (by decide) (hts (.fieldLink RX5 12 "TileRunners$World" "tiles" "LTileRunners$Tiles;") (List.mem_of_getElem? (i := 1) rfl)) (fun _ h9 => h9) rfl dX5_supportAt_58 ?_
        refine lv_aload_n hx hb dX5_supportAt_61 rfl (lv_at hl 2 rfl) ?_
        refine lv_iload_n hx hb dX5_supportAt_62 rfl (lv_at hl 3 rfl) ?_
        refine lv_iload_n hx hb dX5_supportAt_63 rfl (lv_at hl 4 rfl) ?_
        refine va_calli (va_runV (As := [.ref (ad (18*w+(6+2*i))), .int a, .int b]) (rest := []) ⟨hx, hb, hml, hown, hts⟩ (c4_haveFloorBelow l hA σ u w hw i hi a b ) (cwV 3 hts gX5_supportAt_X4_haveFloorBelow rfl rfl rfl hd_X4_haveFloorBelowV ⟨Nat.le_of_ble_eq_true rfl, Nat.le_of_ble_eq_true rfl⟩) ⟨hp_blind, va_recv hK hP (ci := 6) (q0 := 18*w+1) rfl (c_t hw), hp_pre hK hN hP⟩ rfl rfl hl.1 rfl (lv_room (Nat.le_of_ble_eq_true rfl)) dX5_supportAt_64 ⟨Nat.zero_le _, Nat.zero_le _⟩) hS (fun _ _ h => h) (fun _ h => h) (fun r64 _ t H locs ht hvm hw9 hB hz1 hk1 hS => ?_)
        have hP := ho_at ht hB
        obtain ⟨eq64, hb_r64⟩ := hw9
        have hF := bnd_s eq64 hF
        have J76 : ∀ (w5_76 : Int32) (H : Heap) (locs : List Loc) (ls : Array Slot), va_P D vwCl (pool G ad (va_up σ w u)) H → va_S (AA B0) s.heap H locs → lv_has ls 6 [(5, .int w5_76), (0, .ref (ad (18*w+0))), (1, .ref (ad (18*w+(6+2*i)))), (2, .int a), (3, .int b), (4, .int c1)] → f5_supportAt_b76 u i a b c1 w5_76 = FF → W p l e (headSpec wsX5_supportAt { frames := 2, cells := 0, slots := 0, locals := 52 }).room s m ([.ref (ad (18*w+0)), .ref (ad (18*w+(6+2*i))), .int a, .int b, .int c1] : List Value).toArray below meth c H locs 0 0 (MQ below (va_Qi (fun (r : Int32) (_ : Unit) => r = f5_supportAt u i a b c1) (fun (_ : Unit) => Ho D G ad (va_up σ w u)) (AA B0)) ([.ref (ad (18*w+0)), .ref (ad (18*w+(6+2*i))), .int a, .int b, .int c1] : List Value).toArray s 0 0 (AA B0)) (F0 m 76 ls []) := by
          intro w5_76 H locs ls hP hS hl hF
          rw [f5_supportAt_b76] at hF
          refine lv_aload_n hx hb dX5_supportAt_76 rfl (lv_at hl 1 rfl) ?_
          refine lv_aload_n hx hb dX5_supportAt_77 rfl (lv_at hl 2 rfl) ?_
          refine lv_iload_n hx hb dX5_supportAt_78 rfl (lv_at hl 3 rfl) ?_
          refine lv_iload_n hx hb dX5_supportAt_79 rfl (lv_at hl 4 rfl) ?_
          refine lv_iload hx hb dX5_supportAt_80 (lv_at hl 5 rfl) ?_
          refine va_calli (va_runV (As := [.ref (ad (18*w+(6+2*i))), .int a, .int b, .int c1]) (rest := []) ⟨hx, hb, hml, hown, hts⟩ (c5_platformUnder l hA σ u w hw i hi a b c1 hO) (cwV 4 hts gX5_supportAt_X5_platformUnder rfl rfl rfl hd_X5_platformUnderV ⟨Nat.le_of_ble_eq_true rfl, Nat.le_of_ble_eq_true rfl⟩) ⟨hp_blind, va_recv hK hP (ci := 7) (q0 := 18*w+0) rfl (c_o hw), hp_pre hK hN hP⟩ rfl rfl hl.1 rfl (lv_room (Nat.le_of_ble_eq_true rfl)) dX5_supportAt_82 ⟨Nat.zero_le _, Nat.zero_le _⟩) hS (fun _ _ h => h) (fun _ h => h) (fun r82 _ t H locs ht hvm hw9 hB hz1 hk1 hS => ?_)
          have hP := ho_at ht hB
          have eq82 := hw9
          have hF := bnd_s eq82 hF
          refine lv_iconst (v := (-1)) hx hb dX5_supportAt_85 (by decide) ?_
          refine lv_icmp_eq (tgt := 96) hx hb dX5_supportAt_86 (by decide) (fun c86 => ?_) (fun c86 => ?_)
          · have hF := ift c86 hF
            refine lv_iload hx hb dX5_supportAt_96 (lv_at hl 0 rfl) ?_
            exact W.iret (v := w5_76) hx hb hr (fun t ht hW => ⟨⟨w5_76, (), rfl, hF.trans hFF, ho_of ht hP⟩, hS.F ht⟩) hS.2.2 dX5_supportAt_98
          · have hF := iff_ c86 hF
            refine lv_iload hx hb dX5_supportAt_89 (lv_at hl 0 rfl) ?_
            refine lv_bipush (v := 8) hx hb dX5_supportAt_91 (by decide) ?_
            refine lv_ior hx hb dX5_supportAt_93 ?_
            refine lv_topi (fun v5_94 e_v5_94 => ?_)
            have hF := bnd_s e_v5_94 hF
            refine lv_istore (lv' := [(5, .int v5_94), (0, .ref (ad (18*w+0))), (1, .ref (ad (18*w+(6+2*i)))), (2, .int a), (3, .int b), (4, .int c1)]) hx hb dX5_supportAt_94 hl (by decide) rfl (fun ls hl => ?_)
            refine lv_iload hx hb dX5_supportAt_96 (lv_at hl 0 rfl) ?_
            exact W.iret (v := v5_94) hx hb hr (fun t ht hW => ⟨⟨v5_94, (), rfl, hF.trans hFF, ho_of ht hP⟩, hS.F ht⟩) hS.2.2 dX5_supportAt_98
        refine lv_if_eq (tgt := 76) hx hb dX5_supportAt_67 (by decide) (fun c67 => ?_) (fun c67 => ?_)
        · have hF := ift c67 hF
          exact J76 w5_47 _ _ ls hP hS (lv_sub hl [0, 1, 2, 3, 4, 5] rfl) hF
        · have hF := iff_ c67 hF
          refine lv_iload hx hb dX5_supportAt_70 (lv_at hl 0 rfl) ?_
          refine lv_iconst (v := 2) hx hb dX5_supportAt_72 (by decide) ?_
          refine lv_ior hx hb dX5_supportAt_73 ?_
          refine lv_topi (fun v5_74 e_v5_74 => ?_)
          have hF := bnd_s e_v5_74 hF
          refine lv_istore (lv' := [(5, .int v5_74), (0, .ref (ad (18*w+0))), (1, .ref (ad (18*w+(6+2*i)))), (2, .int a), (3, .int b), (4, .int c1)]) hx hb dX5_supportAt_74 hl (by decide) rfl (fun ls hl => ?_)
          exact J76 v5_74 _ _ ls hP hS (lv_sub hl [0, 1, 2, 3, 4, 5] rfl) hF
      · have hF := iff_ c51 hF
        refine lv_iload hx hb dX5_supportAt_54 (lv_at hl 0 rfl) ?_
        exact W.iret (v := w5_47) hx hb hr (fun t ht hW => ⟨⟨w5_47, (), rfl, hF.trans hFF, ho_of ht hP⟩, hS.F ht⟩) hS.2.2 dX5_supportAt_56
    refine lv_icmp_ne (tgt := 47) hx hb dX5_supportAt_38 (by decide) (fun c38 => ?_) (fun c38 => ?_)
    · have hF := iff_ c38 hF
      exact J47 w5_22 _ _ ls hP hS (lv_sub hl [0, 1, 2, 3, 4, 5] rfl) hF
    · have hF := ift c38 hF
      refine lv_iload hx hb dX5_supportAt_41 (lv_at hl 0 rfl) ?_
      refine lv_iconst (v := 4) hx hb dX5_supportAt_43 (by decide) ?_
      refine lv_ior hx hb dX5_supportAt_44 ?_
      refine lv_topi (fun v5_45 e_v5_45 => ?_)
      have hF := bnd_s e_v5_45 hF
      refine lv_istore (lv' := [(5, .int v5_45), (0, .ref (ad (18*w+0))), (1, .ref (ad (18*w+(6+2*i)))), (2, .int a), (3, .int b), (4, .int c1)]) hx hb dX5_supportAt_45 hl (by decide) rfl (fun ls hl => ?_)
      exact J47 v5_45 _ _ ls hP hS (lv_sub hl [0, 1, 2, 3, 4, 5] rfl) hF
  refine lv_if_eq (tgt := 22) hx hb dX5_supportAt_13 (by decide) (fun c13 => ?_) (fun c13 => ?_)
  · have hF := ift c13 hF
    exact J22 0 _ _ ls hP hS (lv_sub hl [0, 1, 2, 3, 4, 5] rfl) hF
  · have hF := iff_ c13 hF
    refine lv_iload hx hb dX5_supportAt_16 (lv_at hl 0 rfl) ?_
    refine lv_iconst (v := 1) hx hb dX5_supportAt_18 (by decide) ?_
    refine lv_ior hx hb dX5_supportAt_19 ?_
    refine lv_topi (fun v5_20 e_v5_20 => ?_)
    have hF := bnd_s e_v5_20 hF
    refine lv_istore (lv' := [(5, .int v5_20), (0, .ref (ad (18*w+0))), (1, .ref (ad (18*w+(6+2*i)))), (2, .int a), (3, .int b), (4, .int c1)]) hx hb dX5_supportAt_20 hl (by decide) rfl (fun ls hl => ?_)
    exact J22 v5_20 _ _ ls hP hS (lv_sub hl [0, 1, 2, 3, 4, 5] rfl) hF
theorem hd_X5_supportAtV : yX5_supportAt.cls = RX5 ∧ yX5_supportAt.cls ≠ "java/lang/invoke/MethodHandle" ∧ yX5_supportAt.cls ≠ "java/lang/invoke/VarHandle" ∧ (parseMethodDescriptor yX5_supportAt.desc).map (fun d => d.parameters.length) = some 4 := by decide +kernel
set_option maxHeartbeats 4000000 in
set_option maxRecDepth 100000 in
theorem c5_isStanding (l : Launch) {D : va_G} {G : CY} {ad : Nat → Nat} {B0 : Nat} (hA : adOK B0 ad) (σ : Nat → Nat → Int32) (u : Nat → Int32) (w : Nat) (hw : w < 15) (i : Nat) (hi : i < 4) (hO : okW u) : Met l yX5_isStanding wsX5_isStanding { frames := 3, cells := 0, slots := 0, locals := 77 } (va_Pc [.ref (ad (18*w+0)), .ref (ad (18*w+(6+2*i)))] (Hp D G ad (va_up σ w u))) (va_Qi (fun (r : Int32) (_ : Unit) => r = f5_isStanding u i ∧ bl r) (fun (_ : Unit) => Ho D G ad (va_up σ w u)) (AA B0)) 0 0 (AA B0) := by
  refine Met.ofW (cc := cX5_isStanding) (maxL := 2) (ret := (some .boolean)) (by decide) rfl ?_
  intro p e s m args below meth c s₁ B hml hv
  obtain ⟨rfl, hP, hK, hN⟩ := hv
  have hx := B.exec
  have hb := B.bytes
  have hr := B.returns
  have hts := atoms_spec (ws := wsX5_isStanding) B.pre
  have hown : s.vm.findClass RX5 = some m.cls := findClass_of_methodNamed B.named
  have hlocks := B.notSynchronized
  have inX0 : ∀ w ∈ wsX00, w ∈ wsX5_isStanding := (fun w h => List.mem_cons_of_mem _ (List.mem_append_left _ (List.mem_append_left _ (List.mem_append_left _ (List.mem_append_left _ (List.mem_append_right _ h))))))
  have hP : va_P D vwCl (pool G ad (va_up σ w u)) s.heap := hP
  have hS : va_S (AA B0) s.heap s.heap [] := va_S.rf
  have hl := lv_entry ([.ref (ad (18*w+0)), .ref (ad (18*w+(6+2*i)))]) (n := 2) (Nat.le_of_ble_eq_true rfl)
  rw [lg_entry_eq]
  generalize (lg_sl ([.ref (ad (18*w+0)), .ref (ad (18*w+(6+2*i)))]) ++ List.replicate (2 - (lg_sl ([.ref (ad (18*w+0)), .ref (ad (18*w+(6+2*i)))])).length) Slot.unset).toArray = ls at hl ⊢
  have hl : lv_has ls 2 [(0, .ref (ad (18*w+0))), (1, .ref (ad (18*w+(6+2*i))))] := hl
  obtain ⟨FF, hFF⟩ : ∃ z, z = f5_isStanding u i := ⟨_, rfl⟩
  have hF := hFF.symm
  rw [f5_isStanding] at hF
  refine lv_aload_n hx hb dX5_isStanding_0 rfl (lv_at hl 1 rfl) ?_
  refine va_get (D := D) (ci := 2) (C := RX0) (T := TX0) (N := 16) hx hb hts inX0 hown hK hP (18*w+(6+2*i)) (c_b hw hi) rfl 7 (by decide) (hts (.fieldLink RX5 91 "TileRunners$Body" "vertical" "I") (List.mem_of_getElem? (i := 1) rfl)) (fun _ h9 => h9) rfl dX5_isStanding_1 ?_
  refine lv_if_gt (tgt := 28) hx hb dX5_isStanding_4 (by decide) (fun c4 => ?_) (fun c4 => ?_)
  · have hF := ift c4 hF
    refine lv_iconst (v := 0) hx hb dX5_isStanding_28 (by decide) ?_
    exact W.zret (v := 0) hx hb hr (bl_nar bl0) (fun t ht hW => ⟨⟨0, (), rfl, ⟨hF.trans hFF, bl0⟩, ho_of ht hP⟩, hS.F ht⟩) hS.2.2 dX5_isStanding_29
  · have hF := iff_ c4 hF
    refine lv_aload_n hx hb dX5_isStanding_7 rfl (lv_at hl 0 rfl) ?_
    refine lv_aload_n hx hb dX5_isStanding_8 rfl (lv_at hl 1 rfl) ?_
    refine lv_aload_n hx hb dX5_isStanding_9 rfl (lv_at hl 1 rfl) ?_
    refine va_get (D := D) (ci := 2) (C := RX0) (T := TX0) (N := 16) hx hb hts inX0 hown hK hP (18*w+(6+2*i)) (c_b hw hi) rfl 0 (by decide) (hts (.fieldLink RX5 56 "TileRunners$Body" "x" "I") (List.mem_of_getElem? (i := 2) rfl)) (fun _ h9 => h9) rfl dX5_isStanding_10 ?_
    refine lv_aload_n hx hb dX5_isStanding_13 rfl (lv_at hl 1 rfl) ?_
    refine va_get (D := D) (ci := 2) (C := RX0) (T := TX0) (N := 16) hx hb hts inX0 hown hK hP (18*w+(6+2*i)) (c_b hw hi) rfl 1 (by decide) (hts (.fieldLink RX5 59 "TileRunners$Body" "y" "I") (List.mem_of_getElem? (i := 3) rfl)) (fun _ h9 => h9) rfl dX5_isStanding_14 ?_
    refine lv_iconst (v := (-1)) hx hb dX5_isStanding_17 (by decide) ?_
    refine va_calli (va_runV (As := [.ref (ad (18*w+(6+2*i))), .int (u (336+24*i+0)), .int (u (336+24*i+1)), .int (-1)]) (rest := []) ⟨hx, hb, hml, hown, hts⟩ (c5_supportAt l hA σ u w hw i hi (u (336+24*i+0)) (u (336+24*i+1)) (-1) hO) (cwV 4 hts gX5_isStanding_X5_supportAt rfl rfl rfl hd_X5_supportAtV ⟨Nat.le_of_ble_eq_true rfl, Nat.le_of_ble_eq_true rfl⟩) ⟨hp_blind, va_recv hK hP (ci := 7) (q0 := 18*w+0) rfl (c_o hw), hp_pre hK hN hP⟩ rfl rfl hl.1 rfl (lv_room (Nat.le_of_ble_eq_true rfl)) dX5_isStanding_18 ⟨Nat.zero_le _, Nat.zero_le _⟩) hS (fun _ _ h => h) (fun _ h => h) (fun r18 _ t H locs ht hvm hw9 hB hz1 hk1 hS => ?_)
    have hP := ho_at ht hB
    have eq18 := hw9
    have hF := bnd_s eq18 hF
    refine lv_if_eq (tgt := 28) hx hb dX5_isStanding_21 (by decide) (fun c21 => ?_) (fun c21 => ?_)
    · have hF := ift c21 hF
      refine lv_iconst (v := 0) hx hb dX5_isStanding_28 (by decide) ?_
      exact W.zret (v := 0) hx hb hr (bl_nar bl0) (fun t ht hW => ⟨⟨0, (), rfl, ⟨hF.trans hFF, bl0⟩, ho_of ht hP⟩, hS.F ht⟩) hS.2.2 dX5_isStanding_29
    · have hF := iff_ c21 hF
      refine lv_iconst (v := 1) hx hb dX5_isStanding_24 (by decide) ?_
      refine lv_goto (tgt := 29) hx hb dX5_isStanding_25 (by decide) ?_
      exact W.zret (v := 1) hx hb hr (bl_nar bl1) (fun t ht hW => ⟨⟨1, (), rfl, ⟨hF.trans hFF, bl1⟩, ho_of ht hP⟩, hS.F ht⟩) hS.2.2 dX5_isStanding_29
theorem hd_X5_isStandingV : yX5_isStanding.cls = RX5 ∧ yX5_isStanding.cls ≠ "java/lang/invoke/MethodHandle" ∧ yX5_isStanding.cls ≠ "java/lang/invoke/VarHandle" ∧ (parseMethodDescriptor yX5_isStanding.desc).map (fun d => d.parameters.length) = some 1 := by decide +kernel
set_option maxHeartbeats 4000000 in
set_option maxRecDepth 100000 in
theorem c5_hasBlockedBody (l : Launch) {D : va_G} {G : CY} {ad : Nat → Nat} {B0 : Nat} (hA : adOK B0 ad) (σ : Nat → Nat → Int32) (u : Nat → Int32) (w : Nat) (hw : w < 15) (hO : okW u) : Met l yX5_hasBlockedBody wsX5_hasBlockedBody { frames := 2, cells := 0, slots := 0, locals := 51 } (va_Pc [.ref (ad (18*w+0))] (Hp D G ad (va_up σ w u))) (va_Qi (fun (r : Int32) (_ : Unit) => r = f5_hasBlockedBody u ∧ bl r) (fun (_ : Unit) => Ho D G ad (va_up σ w u)) (AA B0)) 0 0 (AA B0) := by
  refine Met.ofW (cc := cX5_hasBlockedBody) (maxL := 2) (ret := (some .boolean)) (by decide) rfl ?_
  intro p e s m args below meth c s₁ B hml hv
  obtain ⟨rfl, hP, hK, hN⟩ := hv
  have hx := B.exec
  have hb := B.bytes
  have hr := B.returns
  have hts := atoms_spec (ws := wsX5_hasBlockedBody) B.pre
  have hown : s.vm.findClass RX5 = some m.cls := findClass_of_methodNamed B.named
  have hlocks := B.notSynchronized
  have inX0 : ∀ w ∈ wsX00, w ∈ wsX5_hasBlockedBody := (fun w h => List.mem_cons_of_mem _ (List.mem_append_left _ (List.mem_append_left _ (List.mem_append_right _ h))))
  have inX5 : ∀ w ∈ wsX50, w ∈ wsX5_hasBlockedBody := (fun w h => List.mem_cons_of_mem _ (List.mem_append_left _ (List.mem_append_left _ (List.mem_append_left _ (List.mem_append_right _ h)))))
  have hP : va_P D vwCl (pool G ad (va_up σ w u)) s.heap := hP
  have hS : va_S (AA B0) s.heap s.heap [] := va_S.rf
  have hl := lv_entry ([.ref (ad (18*w+0))]) (n := 2) (Nat.le_of_ble_eq_true rfl)
  rw [lg_entry_eq]
  generalize (lg_sl ([.ref (ad (18*w+0))]) ++ List.replicate (2 - (lg_sl ([.ref (ad (18*w+0))])).length) Slot.unset).toArray = ls at hl ⊢
  have hl : lv_has ls 2 [(0, .ref (ad (18*w+0)))] := hl
  obtain ⟨FF, hFF⟩ : ∃ z, z = f5_hasBlockedBody u := ⟨_, rfl⟩
  have hF := hFF.symm
  rw [f5_hasBlockedBody] at hF
  refine lv_iconst (v := 0) hx hb dX5_hasBlockedBody_0 (by decide) ?_
  refine lv_istore_n (lv' := [(1, .int 0), (0, .ref (ad (18*w+0)))]) hx hb dX5_hasBlockedBody_1 rfl hl (by decide) rfl (fun ls hl => ?_)
  have L2 : ∀ (n2 : Nat) (w1_2 : Int32) (H : Heap) (locs : List Loc) (ls : Array Slot), (4 - w1_2.toInt).toNat < n2 → 0 ≤ w1_2 → va_P D vwCl (pool G ad (va_up σ w u)) H → va_S (AA B0) s.heap H locs → lv_has ls 2 [(1, .int w1_2), (0, .ref (ad (18*w+0)))] → f5_hasBlockedBody_L2 u n2 w1_2 = FF → W p l e (headSpec wsX5_hasBlockedBody { frames := 2, cells := 0, slots := 0, locals := 51 }).room s m ([.ref (ad (18*w+0))] : List Value).toArray below meth c H locs 0 0 (MQ below (va_Qi (fun (r : Int32) (_ : Unit) => r = f5_hasBlockedBody u ∧ bl r) (fun (_ : Unit) => Ho D G ad (va_up σ w u)) (AA B0)) ([.ref (ad (18*w+0))] : List Value).toArray s 0 0 (AA B0)) (F0 m 2 ls []) := by
    intro n2
    induction n2 with
    | zero => intro w1_2 H locs ls hm; exact absurd hm (Nat.not_lt_zero _)
    | succ n2 ih2 =>
      intro w1_2 H locs ls hm2 h1 hP hS hl hF
      rw [f5_hasBlockedBody_L2] at hF
      refine lv_iload_n hx hb dX5_hasBlockedBody_2 rfl (lv_at hl 0 rfl) ?_
      refine lv_aload_n hx hb dX5_hasBlockedBody_3 rfl (lv_at hl 1 rfl) ?_
      refine va_get (D := D) (ci := 7) (C := RX5) (T := TX5) (N := 7) hx hb hts inX5 hown hK hP (18*w+0) (c_o hw) rfl 4 (by decide) (hts (.fieldLink RX5 40 "TileRunners$World" "bodyCount" "I") (List.mem_of_getElem? (i := 1) rfl)) (fun _ h9 => h9) rfl dX5_hasBlockedBody_4 ?_
      refine lv_icmp_ge (tgt := 52) hx hb dX5_hasBlockedBody_7 (by decide) (fun c7 => ?_) (fun c7 => ?_)
      · have hF := ift c7 hF
        refine lv_iconst (v := 0) hx hb dX5_hasBlockedBody_52 (by decide) ?_
        exact W.zret (v := 0) hx hb hr (bl_nar bl0) (fun t ht hW => ⟨⟨0, (), rfl, ⟨hF.trans hFF, bl0⟩, ho_of ht hP⟩, hS.F ht⟩) hS.2.2 dX5_hasBlockedBody_53
      · have hF := iff_ c7 hF
        have hi1 : vp_in w1_2 4 := in_n h1 (nle_lt c7) hO.2.1
        refine lv_aload_n hx hb dX5_hasBlockedBody_10 rfl (lv_at hl 1 rfl) ?_
        refine va_get (D := D) (ci := 7) (C := RX5) (T := TX5) (N := 7) hx hb hts inX5 hown hK hP (18*w+0) (c_o hw) rfl 0 (by decide) (hts (.fieldLink RX5 12 "TileRunners$World" "tiles" "LTileRunners$Tiles;") (List.mem_of_getElem? (i := 2) rfl)) (fun _ h9 => h9) rfl dX5_hasBlockedBody_11 ?_
        refine lv_aload_n hx hb dX5_hasBlockedBody_14 rfl (lv_at hl 1 rfl) ?_
        refine va_get (D := D) (ci := 7) (C := RX5) (T := TX5) (N := 7) hx hb hts inX5 hown hK hP (18*w+0) (c_o hw) rfl 1 (by decide) (hts (.fieldLink RX5 20 "TileRunners$World" "bodies" "[LTileRunners$Body;") (List.mem_of_getElem? (i := 3) rfl)) (fun _ h9 => h9) rfl dX5_hasBlockedBody_15 ?_
        refine lv_iload_n hx hb dX5_hasBlockedBody_18 rfl (lv_at hl 0 rfl) ?_
        have hi_19 : w1_2.toNatClampNeg < 4 := in_lt (i := w1_2) hi1
        refine pqald (t0 := 2) (i := w1_2) hx hb hK hP (c_bs hw) rfl hi1 dX5_hasBlockedBody_19 ?_
        refine lv_aload_n hx hb dX5_hasBlockedBody_20 rfl (lv_at hl 1 rfl) ?_
        refine va_get (D := D) (ci := 7) (C := RX5) (T := TX5) (N := 7) hx hb hts inX5 hown hK hP (18*w+0) (c_o hw) rfl 1 (by decide) (hts (.fieldLink RX5 20 "TileRunners$World" "bodies" "[LTileRunners$Body;") (List.mem_of_getElem? (i := 3) rfl)) (fun _ h9 => h9) rfl dX5_hasBlockedBody_21 ?_
        refine lv_iload_n hx hb dX5_hasBlockedBody_24 rfl (lv_at hl 0 rfl) ?_
        have hi_25 : w1_2.toNatClampNeg < 4 := in_lt (i := w1_2) hi1
        refine pqald (t0 := 2) (i := w1_2) hx hb hK hP (c_bs hw) rfl hi1 dX5_hasBlockedBody_25 ?_
        refine va_get (D := D) (ci := 2) (C := RX0) (T := TX0) (N := 16) hx hb hts inX0 hown hK hP (18*w+(6+2*w1_2.toNatClampNeg)) (c_b hw hi_25) rfl 0 (by decide) (hts (.fieldLink RX5 56 "TileRunners$Body" "x" "I") (List.mem_of_getElem? (i := 4) rfl)) (fun _ h9 => h9) rfl dX5_hasBlockedBody_26 ?_
        refine lv_aload_n hx hb dX5_hasBlockedBody_29 rfl (lv_at hl 1 rfl) ?_
        refine va_get (D := D) (ci := 7) (C := RX5) (T := TX5) (N := 7) hx hb hts inX5 hown hK hP (18*w+0) (c_o hw) rfl 1 (by decide) (hts (.fieldLink RX5 20 "TileRunners$World" "bodies" "[LTileRunners$Body;") (List.mem_of_getElem? (i := 3) rfl)) (fun _ h9 => h9) rfl dX5_hasBlockedBody_30 ?_
        refine lv_iload_n hx hb dX5_hasBlockedBody_33 rfl (lv_at hl 0 rfl) ?_
        have hi_34 : w1_2.toNatClampNeg < 4 := in_lt (i := w1_2) hi1
        refine pqald (t0 := 2) (i := w1_2) hx hb hK hP (c_bs hw) rfl hi1 dX5_hasBlockedBody_34 ?_
        refine va_get (D := D) (ci := 2) (C := RX0) (T := TX0) (N := 16) hx hb hts inX0 hown hK hP (18*w+(6+2*w1_2.toNatClampNeg)) (c_b hw hi_34) rfl 1 (by decide) (hts (.fieldLink RX5 59 "TileRunners$Body" "y" "I") (List.mem_of_getElem? (i := 5) rfl)) (fun _ h9 => h9) rfl dX5_hasBlockedBody_35 ?_
        refine va_calli (va_runV (As := [.ref (ad (18*w+(6+2*w1_2.toNatClampNeg))), .int (u (336+24*w1_2.toNatClampNeg+0)), .int (u (336+24*w1_2.toNatClampNeg+1))]) (rest := []) ⟨hx, hb, hml, hown, hts⟩ (c4_block l hA σ u w hw w1_2.toNatClampNeg hi_19 (u (336+24*w1_2.toNatClampNeg+0)) (u (336+24*w1_2.toNatClampNeg+1)) ) (cwV 3 hts gX5_hasBlockedBody_X4_block rfl rfl rfl hd_X4_blockV ⟨Nat.le_of_ble_eq_true rfl, Nat.le_of_ble_eq_true rfl⟩) ⟨hp_blind, va_recv hK hP (ci := 6) (q0 := 18*w+1) rfl (c_t hw), hp_pre hK hN hP⟩ rfl rfl hl.1 rfl (lv_room (Nat.le_of_ble_eq_true rfl)) dX5_hasBlockedBody_38 ⟨Nat.zero_le _, Nat.zero_le _⟩) hS (fun _ _ h => h) (fun _ h => h) (fun r38 _ t H locs ht hvm hw9 hB hz1 hk1 hS => ?_)
        have hP := ho_at ht hB
        obtain ⟨eq38, hb_r38⟩ := hw9
        have hF := bnd_s eq38 hF
        refine lv_if_eq (tgt := 46) hx hb dX5_hasBlockedBody_41 (by decide) (fun c41 => ?_) (fun c41 => ?_)
        · have hF := ift c41 hF
          obtain ⟨v1_46, e_v1_46⟩ : ∃ z : Int32, z = w1_2 + 1 := ⟨_, rfl⟩
          have hF := bnd_s e_v1_46 hF
          refine lv_iinc (v := v1_46) (lv' := [(1, .int v1_46), (0, .ref (ad (18*w+0)))]) hx hb dX5_hasBlockedBody_46 hl (k := 0) rfl (by rw [e_v1_46]; rfl) (by decide) rfl (fun ls hl => ?_)
          refine lv_goto (tgt := 2) hx hb dX5_hasBlockedBody_49 (by decide) ?_
          exact ih2 v1_46 _ _ ls (ms_s (dec_i4 hi1 e_v1_46) hm2) (ge0_i4 hi1 e_v1_46) hP hS (lv_sub hl [0, 1] rfl) hF
        · have hF := iff_ c41 hF
          refine lv_iconst (v := 1) hx hb dX5_hasBlockedBody_44 (by decide) ?_
          exact W.zret (v := 1) hx hb hr (bl_nar bl1) (fun t ht hW => ⟨⟨1, (), rfl, ⟨hF.trans hFF, bl1⟩, ho_of ht hP⟩, hS.F ht⟩) hS.2.2 dX5_hasBlockedBody_45
  exact L2 BIG 0 _ _ ls (big_i4 _) le0 hP hS (lv_sub hl [0, 1] rfl) hF
theorem hd_X5_hasBlockedBodyV : yX5_hasBlockedBody.cls = RX5 ∧ yX5_hasBlockedBody.cls ≠ "java/lang/invoke/MethodHandle" ∧ yX5_hasBlockedBody.cls ≠ "java/lang/invoke/VarHandle" ∧ (parseMethodDescriptor yX5_hasBlockedBody.desc).map (fun d => d.parameters.length) = some 0 := by decide +kernel
set_option maxHeartbeats 4000000 in
set_option maxRecDepth 100000 in
theorem c5_stepSideways (l : Launch) {D : va_G} {G : CY} {ad : Nat → Nat} {B0 : Nat} (hA : adOK B0 ad) (σ : Nat → Nat → Int32) (u : Nat → Int32) (w : Nat) (hw : w < 15) (i : Nat) (hi : i < 4) (a : Int32) (hO : okW u) : Met l yX5_stepSideways wsX5_stepSideways { frames := 3, cells := 0, slots := 0, locals := 77 } (va_Pc [.ref (ad (18*w+0)), .ref (ad (18*w+(6+2*i))), .int a] (Hp D G ad (va_up σ w u))) (va_Qi (fun (r : Int32) (z : Nat → Int32) => (r, z) = f5_stepSideways u i a ∧ okW z ∧ bl r) (fun (z : Nat → Int32) => Ho D G ad (va_up σ w z)) (AA B0)) 0 0 (AA B0) := by
  refine Met.ofW (cc := cX5_stepSideways) (maxL := 6) (ret := (some .boolean)) (by decide) rfl ?_
  intro p e s m args below meth c s₁ B hml hv
  obtain ⟨rfl, hP, hK, hN⟩ := hv
  have hx := B.exec
  have hb := B.bytes
  have hr := B.returns
  have hts := atoms_spec (ws := wsX5_stepSideways) B.pre
  have hown : s.vm.findClass RX5 = some m.cls := findClass_of_methodNamed B.named
  have hlocks := B.notSynchronized
  have inX0 : ∀ w ∈ wsX00, w ∈ wsX5_stepSideways := (fun w h => List.mem_cons_of_mem _ (List.mem_append_left _ (List.mem_append_left _ (List.mem_append_left _ (List.mem_append_left _ (List.mem_append_right _ h))))))
  have inX5 : ∀ w ∈ wsX50, w ∈ wsX5_stepSideways := (fun w h => List.mem_cons_of_mem _ (List.mem_append_left _ (List.mem_append_left _ (List.mem_append_left _ (List.mem_append_right _ h)))))
  have hP : va_P D vwCl (pool G ad (va_up σ w u)) s.heap := hP
  have hS : va_S (AA B0) s.heap s.heap [] := va_S.rf
  have hl := lv_entry ([.ref (ad (18*w+0)), .ref (ad (18*w+(6+2*i))), .int a]) (n := 6) (Nat.le_of_ble_eq_true rfl)
  rw [lg_entry_eq]
  generalize (lg_sl ([.ref (ad (18*w+0)), .ref (ad (18*w+(6+2*i))), .int a]) ++ List.replicate (6 - (lg_sl ([.ref (ad (18*w+0)), .ref (ad (18*w+(6+2*i))), .int a])).length) Slot.unset).toArray = ls at hl ⊢
  have hl : lv_has ls 6 [(0, .ref (ad (18*w+0))), (1, .ref (ad (18*w+(6+2*i)))), (2, .int a)] := hl
  obtain ⟨FF, hFF⟩ : ∃ z, z = f5_stepSideways u i a := ⟨_, rfl⟩
  have hF := hFF.symm
  rw [f5_stepSideways] at hF
  refine lv_aload_n hx hb dX5_stepSideways_0 rfl (lv_at hl 1 rfl) ?_
  refine va_get (D := D) (ci := 2) (C := RX0) (T := TX0) (N := 16) hx hb hts inX0 hown hK hP (18*w+(6+2*i)) (c_b hw hi) rfl 0 (by decide) (hts (.fieldLink RX5 56 "TileRunners$Body" "x" "I") (List.mem_of_getElem? (i := 1) rfl)) (fun _ h9 => h9) rfl dX5_stepSideways_1 ?_
  refine lv_iload_n hx hb dX5_stepSideways_4 rfl (lv_at hl 2 rfl) ?_
  refine lv_iadd hx hb dX5_stepSideways_5 ?_
  refine lv_topi (fun v3_6 e_v3_6 => ?_)
  have hF := bnd_s e_v3_6 hF
  refine lv_istore_n (lv' := [(3, .int v3_6), (0, .ref (ad (18*w+0))), (1, .ref (ad (18*w+(6+2*i)))), (2, .int a)]) hx hb dX5_stepSideways_6 rfl hl (by decide) rfl (fun ls hl => ?_)
  refine lv_aload_n hx hb dX5_stepSideways_7 rfl (lv_at hl 2 rfl) ?_
  refine va_get (D := D) (ci := 2) (C := RX0) (T := TX0) (N := 16) hx hb hts inX0 hown hK hP (18*w+(6+2*i)) (c_b hw hi) rfl 1 (by decide) (hts (.fieldLink RX5 59 "TileRunners$Body" "y" "I") (List.mem_of_getElem? (i := 2) rfl)) (fun _ h9 => h9) rfl dX5_stepSideways_8 ?_
  refine lv_topi (fun v4_11 e_v4_11 => ?_)
  have hF := bnd_s e_v4_11 hF
  refine lv_istore (lv' := [(4, .int v4_11), (3, .int v3_6), (0, .ref (ad (18*w+0))), (1, .ref (ad (18*w+(6+2*i)))), (2, .int a)]) hx hb dX5_stepSideways_11 hl (by decide) rfl (fun ls hl => ?_)
  refine lv_aload_n hx hb dX5_stepSideways_13 rfl (lv_at hl 2 rfl) ?_
  refine va_get (D := D) (ci := 7) (C := RX5) (T := TX5) (N := 7) hx hb hts inX5 hown hK hP (18*w+0) (c_o hw) rfl 0 (by decide) (hts (.fieldLink RX5 12 "TileRunners$World" "tiles" "LTileRunners$Tiles;") (List.mem_of_getElem? (i := 3) rfl)) (fun _ h9 => h9) rfl dX5_stepSideways_14 ?_
  refine lv_aload_n hx hb dX5_stepSideways_17 rfl (lv_at hl 3 rfl) ?_
  refine lv_iload_n hx hb dX5_stepSideways_18 rfl (lv_at hl 1 rfl) ?_
  refine va_calli (va_runV (As := [.int v3_6]) (rest := [.ref (ad (18*w+1))]) ⟨hx, hb, hml, hown, hts⟩ (c0_footAt l hA σ u w hw i hi v3_6 ) (cwV 1 hts gX5_stepSideways_X0_footAt rfl rfl rfl hd_X0_footAtV ⟨Nat.le_of_ble_eq_true rfl, Nat.le_of_ble_eq_true rfl⟩) ⟨hp_blind, va_recv hK hP (ci := 2) (q0 := 18*w+(6+2*i)) rfl (c_b hw hi), hp_pre hK hN hP⟩ rfl rfl hl.1 rfl (lv_room (Nat.le_of_ble_eq_true rfl)) dX5_stepSideways_19 ⟨Nat.zero_le _, Nat.zero_le _⟩) hS (fun _ _ h => h) (fun _ h => h) (fun r19 _ t H locs ht hvm hw9 hB hz1 hk1 hS => ?_)
  have hP := ho_at ht hB
  have eq19 := hw9
  have hF := bnd_s eq19 hF
  refine lv_iload hx hb dX5_stepSideways_22 (lv_at hl 0 rfl) ?_
  refine va_calli (va_runV (As := [.int r19, .int v4_11]) (rest := []) ⟨hx, hb, hml, hown, hts⟩ (c4_surfaceAt l hA σ u w hw r19 v4_11 ) (cwV 2 hts gX5_stepSideways_X4_surfaceAt rfl rfl rfl hd_X4_surfaceAtV ⟨Nat.le_of_ble_eq_true rfl, Nat.le_of_ble_eq_true rfl⟩) ⟨hp_blind, va_recv hK hP (ci := 6) (q0 := 18*w+1) rfl (c_t hw), hp_pre hK hN hP⟩ rfl rfl hl.1 rfl (lv_room (Nat.le_of_ble_eq_true rfl)) dX5_stepSideways_24 ⟨Nat.zero_le _, Nat.zero_le _⟩) hS (fun _ _ h => h) (fun _ h => h) (fun r24 _ t H locs ht hvm hw9 hB hz1 hk1 hS => ?_)
  have hP := ho_at ht hB
  have eq24 := hw9
  have hF := bnd_s eq24 hF
  refine lv_istore (lv' := [(5, .int r24), (4, .int v4_11), (3, .int v3_6), (0, .ref (ad (18*w+0))), (1, .ref (ad (18*w+(6+2*i)))), (2, .int a)]) hx hb dX5_stepSideways_27 hl (by decide) rfl (fun ls hl => ?_)
  refine lv_iload hx hb dX5_stepSideways_29 (lv_at hl 0 rfl) ?_
  refine lv_aload_n hx hb dX5_stepSideways_31 rfl (lv_at hl 4 rfl) ?_
  refine va_get (D := D) (ci := 2) (C := RX0) (T := TX0) (N := 16) hx hb hts inX0 hown hK hP (18*w+(6+2*i)) (c_b hw hi) rfl 1 (by decide) (hts (.fieldLink RX5 59 "TileRunners$Body" "y" "I") (List.mem_of_getElem? (i := 2) rfl)) (fun _ h9 => h9) rfl dX5_stepSideways_32 ?_
  refine lv_iconst (v := 1) hx hb dX5_stepSideways_35 (by decide) ?_
  refine lv_iadd hx hb dX5_stepSideways_36 ?_
  refine lv_icmp_le (tgt := 42) hx hb dX5_stepSideways_37 (by decide) (fun c37 => ?_) (fun c37 => ?_)
  · have hF := ift c37 hF
    refine lv_iload hx hb dX5_stepSideways_42 (lv_at hl 0 rfl) ?_
    refine lv_aload_n hx hb dX5_stepSideways_44 rfl (lv_at hl 4 rfl) ?_
    refine va_get (D := D) (ci := 2) (C := RX0) (T := TX0) (N := 16) hx hb hts inX0 hown hK hP (18*w+(6+2*i)) (c_b hw hi) rfl 1 (by decide) (hts (.fieldLink RX5 59 "TileRunners$Body" "y" "I") (List.mem_of_getElem? (i := 2) rfl)) (fun _ h9 => h9) rfl dX5_stepSideways_45 ?_
    refine lv_iconst (v := 1) hx hb dX5_stepSideways_48 (by decide) ?_
    refine lv_iadd hx hb dX5_stepSideways_49 ?_
    have J57 : ∀ (w4_57 : Int32) (H : Heap) (locs : List Loc) (ls : Array Slot), va_P D vwCl (pool G ad (va_up σ w u)) H → va_S (AA B0) s.heap H locs → lv_has ls 6 [(4, .int w4_57), (3, .int v3_6), (0, .ref (ad (18*w+0))), (1, .ref (ad (18*w+(6+2*i))))] → f5_stepSideways_b57 u i v3_6 w4_57 = FF → W p l e (headSpec wsX5_stepSideways { frames := 3, cells := 0, slots := 0, locals := 77 }).room s m ([.ref (ad (18*w+0)), .ref (ad (18*w+(6+2*i))), .int a] : List Value).toArray below meth c H locs 0 0 (MQ below (va_Qi (fun (r : Int32) (z : Nat → Int32) => (r, z) = f5_stepSideways u i a ∧ okW z ∧ bl r) (fun (z : Nat → Int32) => Ho D G ad (va_up σ w z)) (AA B0)) ([.ref (ad (18*w+0)), .ref (ad (18*w+(6+2*i))), .int a] : List Value).toArray s 0 0 (AA B0)) (F0 m 57 ls []) := by
      intro w4_57 H locs ls hP hS hl hF
      rw [f5_stepSideways_b57] at hF
      refine lv_aload_n hx hb dX5_stepSideways_57 rfl (lv_at hl 2 rfl) ?_
      refine va_get (D := D) (ci := 7) (C := RX5) (T := TX5) (N := 7) hx hb hts inX5 hown hK hP (18*w+0) (c_o hw) rfl 0 (by decide) (hts (.fieldLink RX5 12 "TileRunners$World" "tiles" "LTileRunners$Tiles;") (List.mem_of_getElem? (i := 3) rfl)) (fun _ h9 => h9) rfl dX5_stepSideways_58 ?_
      refine lv_aload_n hx hb dX5_stepSideways_61 rfl (lv_at hl 3 rfl) ?_
      refine lv_iload_n hx hb dX5_stepSideways_62 rfl (lv_at hl 1 rfl) ?_
      refine lv_iload hx hb dX5_stepSideways_63 (lv_at hl 0 rfl) ?_
      refine va_calli (va_runV (As := [.ref (ad (18*w+(6+2*i))), .int v3_6, .int w4_57]) (rest := []) ⟨hx, hb, hml, hown, hts⟩ (c4_block l hA σ u w hw i hi v3_6 w4_57 ) (cwV 3 hts gX5_stepSideways_X4_block rfl rfl rfl hd_X4_blockV ⟨Nat.le_of_ble_eq_true rfl, Nat.le_of_ble_eq_true rfl⟩) ⟨hp_blind, va_recv hK hP (ci := 6) (q0 := 18*w+1) rfl (c_t hw), hp_pre hK hN hP⟩ rfl rfl hl.1 rfl (lv_room (Nat.le_of_ble_eq_true rfl)) dX5_stepSideways_65 ⟨Nat.zero_le _, Nat.zero_le _⟩) hS (fun _ _ h => h) (fun _ h => h) (fun r65 _ t H locs ht hvm hw9 hB hz1 hk1 hS => ?_)
      have hP := ho_at ht hB
      obtain ⟨eq65, hb_r65⟩ := hw9
      have hF := bnd_s eq65 hF
      refine lv_if_eq (tgt := 73) hx hb dX5_stepSideways_68 (by decide) (fun c68 => ?_) (fun c68 => ?_)
      · have hF := ift c68 hF
        refine lv_aload_n hx hb dX5_stepSideways_73 rfl (lv_at hl 2 rfl) ?_
        refine lv_aload_n hx hb dX5_stepSideways_74 rfl (lv_at hl 3 rfl) ?_
        refine lv_iload_n hx hb dX5_stepSideways_75 rfl (lv_at hl 1 rfl) ?_
        refine lv_iload hx hb dX5_stepSideways_76 (lv_at hl 0 rfl) ?_
        refine lv_iconst (v := (-1)) hx hb dX5_stepSideways_78 (by decide) ?_
        refine va_calli (va_runV (As := [.ref (ad (18*w+(6+2*i))), .int v3_6, .int w4_57, .int (-1)]) (rest := []) ⟨hx, hb, hml, hown, hts⟩ (c5_supportAt l hA σ u w hw i hi v3_6 w4_57 (-1) hO) (cwV 4 hts gX5_stepSideways_X5_supportAt rfl rfl rfl hd_X5_supportAtV ⟨Nat.le_of_ble_eq_true rfl, Nat.le_of_ble_eq_true rfl⟩) ⟨hp_blind, va_recv hK hP (ci := 7) (q0 := 18*w+0) rfl (c_o hw), hp_pre hK hN hP⟩ rfl rfl hl.1 rfl (lv_room (Nat.le_of_ble_eq_true rfl)) dX5_stepSideways_79 ⟨Nat.zero_le _, Nat.zero_le _⟩) hS (fun _ _ h => h) (fun _ h => h) (fun r79 _ t H locs ht hvm hw9 hB hz1 hk1 hS => ?_)
        have hP := ho_at ht hB
        have eq79 := hw9
        have hF := bnd_s eq79 hF
        have J119 : ∀ (w4_119 : Int32) (H : Heap) (locs : List Loc) (ls : Array Slot), va_P D vwCl (pool G ad (va_up σ w u)) H → va_S (AA B0) s.heap H locs → lv_has ls 6 [(4, .int w4_119), (3, .int v3_6), (1, .ref (ad (18*w+(6+2*i))))] → f5_stepSideways_b119 u i v3_6 w4_119 = FF → W p l e (headSpec wsX5_stepSideways { frames := 3, cells := 0, slots := 0, locals := 77 }).room s m ([.ref (ad (18*w+0)), .ref (ad (18*w+(6+2*i))), .int a] : List Value).toArray below meth c H locs 0 0 (MQ below (va_Qi (fun (r : Int32) (z : Nat → Int32) => (r, z) = f5_stepSideways u i a ∧ okW z ∧ bl r) (fun (z : Nat → Int32) => Ho D G ad (va_up σ w z)) (AA B0)) ([.ref (ad (18*w+0)), .ref (ad (18*w+(6+2*i))), .int a] : List Value).toArray s 0 0 (AA B0)) (F0 m 119 ls []) := by
          intro w4_119 H locs ls hP hS hl hF
          rw [f5_stepSideways_b119] at hF
          refine lv_aload_n hx hb dX5_stepSideways_119 rfl (lv_at hl 2 rfl) ?_
          refine lv_iload_n hx hb dX5_stepSideways_120 rfl (lv_at hl 1 rfl) ?_
          refine pput hx hb hts inX0 tyX0 tyX0_ok nmX0 hown hK hP hA hS hw (j := 6+2*i) (by omega) (wcel_b hi) rfl 0 (by decide) (hts (.fieldLink RX5 56 "TileRunners$Body" "x" "I") (List.mem_of_getElem? (i := 1) rfl)) (fun _ h9 => h9) rfl (tyX0_ok 0 (by decide)) rfl rfl (Nat.le_of_ble_eq_true rfl) (336+24*i+0) (own_b hi (by decide) (by decide)) (setB_0 hi) dX5_stepSideways_121 (fun u9 H locs eu9 hP hS => ?_)
          obtain ⟨u121, e_u121⟩ : ∃ z, z = u9 := ⟨_, rfl⟩
          rw [← e_u121] at hP eu9
          have hF := bnd_s eu9 hF
          have hO := okW_up eu9 hO (by omega) (by omega)
          refine lv_aload_n hx hb dX5_stepSideways_124 rfl (lv_at hl 2 rfl) ?_
          refine lv_iload hx hb dX5_stepSideways_125 (lv_at hl 0 rfl) ?_
          refine pput hx hb hts inX0 tyX0 tyX0_ok nmX0 hown hK hP hA hS hw (j := 6+2*i) (by omega) (wcel_b hi) rfl 1 (by decide) (hts (.fieldLink RX5 59 "TileRunners$Body" "y" "I") (List.mem_of_getElem? (i := 2) rfl)) (fun _ h9 => h9) rfl (tyX0_ok 1 (by decide)) rfl rfl (Nat.le_of_ble_eq_true rfl) (336+24*i+1) (own_b hi (by decide) (by decide)) (setB_1 hi) dX5_stepSideways_127 (fun u9 H locs eu9 hP hS => ?_)
          obtain ⟨u127, e_u127⟩ : ∃ z, z = u9 := ⟨_, rfl⟩
          rw [← e_u127] at hP eu9
          have hF := bnd_s eu9 hF
          have hO := okW_up eu9 hO (by omega) (by omega)
          refine lv_iconst (v := 1) hx hb dX5_stepSideways_130 (by decide) ?_
          exact W.zret (v := 1) hx hb hr (bl_nar bl1) (fun t ht hW => ⟨⟨1, u127, rfl, ⟨hF.trans hFF, hO, bl1⟩, ho_of ht hP⟩, hS.F ht⟩) hS.2.2 dX5_stepSideways_131
        refine lv_if_ne (tgt := 119) hx hb dX5_stepSideways_82 (by decide) (fun c82 => ?_) (fun c82 => ?_)
        · have hF := iff_ c82 hF
          exact J119 w4_57 _ _ ls hP hS (lv_sub hl [0, 1, 3] rfl) hF
        · have hF := ift c82 hF
          refine lv_aload_n hx hb dX5_stepSideways_85 rfl (lv_at hl 2 rfl) ?_
          refine lv_aload_n hx hb dX5_stepSideways_86 rfl (lv_at hl 3 rfl) ?_
          refine lv_aload_n hx hb dX5_stepSideways_87 rfl (lv_at hl 3 rfl) ?_
          refine va_get (D := D) (ci := 2) (C := RX0) (T := TX0) (N := 16) hx hb hts inX0 hown hK hP (18*w+(6+2*i)) (c_b hw hi) rfl 0 (by decide) (hts (.fieldLink RX5 56 "TileRunners$Body" "x" "I") (List.mem_of_getElem? (i := 1) rfl)) (fun _ h9 => h9) rfl dX5_stepSideways_88 ?_
          refine lv_aload_n hx hb dX5_stepSideways_91 rfl (lv_at hl 3 rfl) ?_
          refine va_get (D := D) (ci := 2) (C := RX0) (T := TX0) (N := 16) hx hb hts inX0 hown hK hP (18*w+(6+2*i)) (c_b hw hi) rfl 1 (by decide) (hts (.fieldLink RX5 59 "TileRunners$Body" "y" "I") (List.mem_of_getElem? (i := 2) rfl)) (fun _ h9 => h9) rfl dX5_stepSideways_92 ?_
          refine lv_iconst (v := (-1)) hx hb dX5_stepSideways_95 (by decide) ?_
          refine va_calli (va_runV (As := [.ref (ad (18*w+(6+2*i))), .int (u (336+24*i+0)), .int (u (336+24*i+1)), .int (-1)]) (rest := []) ⟨hx, hb, hml, hown, hts⟩ (c5_supportAt l hA σ u w hw i hi (u (336+24*i+0)) (u (336+24*i+1)) (-1) hO) (cwV 4 hts gX5_stepSideways_X5_supportAt rfl rfl rfl hd_X5_supportAtV ⟨Nat.le_of_ble_eq_true rfl, Nat.le_of_ble_eq_true rfl⟩) ⟨hp_blind, va_recv hK hP (ci := 7) (q0 := 18*w+0) rfl (c_o hw), hp_pre hK hN hP⟩ rfl rfl hl.1 rfl (lv_room (Nat.le_of_ble_eq_true rfl)) dX5_stepSideways_96 ⟨Nat.zero_le _, Nat.zero_le _⟩) hS (fun _ _ h => h) (fun _ h => h) (fun r96 _ t H locs ht hvm hw9 hB hz1 hk1 hS => ?_)
          have hP := ho_at ht hB
          have eq96 := hw9
          have hF := bnd_s eq96 hF
          refine lv_if_eq (tgt := 119) hx hb dX5_stepSideways_99 (by decide) (fun c99 => ?_) (fun c99 => ?_)
          · have hF := ift c99 hF
            exact J119 w4_57 _ _ ls hP hS (lv_sub hl [0, 1, 3] rfl) hF
          · have hF := iff_ c99 hF
            refine lv_aload_n hx hb dX5_stepSideways_102 rfl (lv_at hl 2 rfl) ?_
            refine lv_aload_n hx hb dX5_stepSideways_103 rfl (lv_at hl 3 rfl) ?_
            refine lv_iload_n hx hb dX5_stepSideways_104 rfl (lv_at hl 1 rfl) ?_
            refine lv_iload hx hb dX5_stepSideways_105 (lv_at hl 0 rfl) ?_
            refine lv_iconst (v := 1) hx hb dX5_stepSideways_107 (by decide) ?_
            refine lv_isub hx hb dX5_stepSideways_108 ?_
            refine lv_iconst (v := (-1)) hx hb dX5_stepSideways_109 (by decide) ?_
            refine va_calli (va_runV (As := [.ref (ad (18*w+(6+2*i))), .int v3_6, .int (w4_57 - 1), .int (-1)]) (rest := []) ⟨hx, hb, hml, hown, hts⟩ (c5_supportAt l hA σ u w hw i hi v3_6 (w4_57 - 1) (-1) hO) (cwV 4 hts gX5_stepSideways_X5_supportAt rfl rfl rfl hd_X5_supportAtV ⟨Nat.le_of_ble_eq_true rfl, Nat.le_of_ble_eq_true rfl⟩) ⟨hp_blind, va_recv hK hP (ci := 7) (q0 := 18*w+0) rfl (c_o hw), hp_pre hK hN hP⟩ rfl rfl hl.1 rfl (lv_room (Nat.le_of_ble_eq_true rfl)) dX5_stepSideways_110 ⟨Nat.zero_le _, Nat.zero_le _⟩) hS (fun _ _ h => h) (fun _ h => h) (fun r110 _ t H locs ht hvm hw9 hB hz1 hk1 hS => ?_)
            have hP := ho_at ht hB
            have eq110 := hw9
            have hF := bnd_s eq110 hF
            refine lv_if_eq (tgt := 119) hx hb dX5_stepSideways_113 (by decide) (fun c113 => ?_) (fun c113 => ?_)
            · have hF := ift c113 hF
              exact J119 w4_57 _ _ ls hP hS (lv_sub hl [0, 1, 3] rfl) hF
            · have hF := iff_ c113 hF
              obtain ⟨v4_116, e_v4_116⟩ : ∃ z : Int32, z = w4_57 + (-1) := ⟨_, rfl⟩
              have hF := bnd_s e_v4_116 hF
              refine lv_iinc (v := v4_116) (lv' := [(4, .int v4_116), (3, .int v3_6), (0, .ref (ad (18*w+0))), (1, .ref (ad (18*w+(6+2*i))))]) hx hb dX5_stepSideways_116 hl (k := 0) rfl (by rw [e_v4_116]; rfl) (by decide) rfl (fun ls hl => ?_)
              exact J119 v4_116 _ _ ls hP hS (lv_sub hl [0, 1, 3] rfl) hF
      · have hF := iff_ c68 hF
        refine lv_iconst (v := 0) hx hb dX5_stepSideways_71 (by decide) ?_
        exact W.zret (v := 0) hx hb hr (bl_nar bl0) (fun t ht hW => ⟨⟨0, u, rfl, ⟨hF.trans hFF, hO, bl0⟩, ho_of ht hP⟩, hS.F ht⟩) hS.2.2 dX5_stepSideways_72
    refine lv_icmp_ne (tgt := 57) hx hb dX5_stepSideways_50 (by decide) (fun c50 => ?_) (fun c50 => ?_)
    · have hF := iff_ c50 hF
      exact J57 v4_11 _ _ ls hP hS (lv_sub hl [1, 2, 3, 4] rfl) hF
    · have hF := ift c50 hF
      refine lv_iload hx hb dX5_stepSideways_53 (lv_at hl 0 rfl) ?_
      refine lv_istore (lv' := [(4, .int r24), (5, .int r24), (3, .int v3_6), (0, .ref (ad (18*w+0))), (1, .ref (ad (18*w+(6+2*i)))), (2, .int a)]) hx hb dX5_stepSideways_55 hl (by decide) rfl (fun ls hl => ?_)
      exact J57 r24 _ _ ls hP hS (lv_sub hl [0, 2, 3, 4] rfl) hF
  · have hF := iff_ c37 hF
    refine lv_iconst (v := 0) hx hb dX5_stepSideways_40 (by decide) ?_
    exact W.zret (v := 0) hx hb hr (bl_nar bl0) (fun t ht hW => ⟨⟨0, u, rfl, ⟨hF.trans hFF, hO, bl0⟩, ho_of ht hP⟩, hS.F ht⟩) hS.2.2 dX5_stepSideways_41
theorem hd_X5_stepSidewaysV : yX5_stepSideways.cls = RX5 ∧ yX5_stepSideways.cls ≠ "java/lang/invoke/MethodHandle" ∧ yX5_stepSideways.cls ≠ "java/lang/invoke/VarHandle" ∧ (parseMethodDescriptor yX5_stepSideways.desc).map (fun d => d.parameters.length) = some 2 := by decide +kernel
set_option maxHeartbeats 4000000 in
set_option maxRecDepth 100000 in
theorem c5_stepUp (l : Launch) {D : va_G} {G : CY} {ad : Nat → Nat} {B0 : Nat} (hA : adOK B0 ad) (σ : Nat → Nat → Int32) (u : Nat → Int32) (w : Nat) (hw : w < 15) (i : Nat) (hi : i < 4) (hO : okW u) : Met l yX5_stepUp wsX5_stepUp { frames := 2, cells := 0, slots := 0, locals := 51 } (va_Pc [.ref (ad (18*w+0)), .ref (ad (18*w+(6+2*i)))] (Hp D G ad (va_up σ w u))) (va_Qi (fun (r : Int32) (z : Nat → Int32) => (r, z) = f5_stepUp u i ∧ okW z ∧ bl r) (fun (z : Nat → Int32) => Ho D G ad (va_up σ w z)) (AA B0)) 0 0 (AA B0) := by
  refine Met.ofW (cc := cX5_stepUp) (maxL := 2) (ret := (some .boolean)) (by decide) rfl ?_
  intro p e s m args below meth c s₁ B hml hv
  obtain ⟨rfl, hP, hK, hN⟩ := hv
  have hx := B.exec
  have hb := B.bytes
  have hr := B.returns
  have hts := atoms_spec (ws := wsX5_stepUp) B.pre
  have hown : s.vm.findClass RX5 = some m.cls := findClass_of_methodNamed B.named
  have hlocks := B.notSynchronized
  have inX0 : ∀ w ∈ wsX00, w ∈ wsX5_stepUp := (fun w h => List.mem_cons_of_mem _ (List.mem_append_left _ (List.mem_append_left _ (List.mem_append_right _ h))))
  have inX5 : ∀ w ∈ wsX50, w ∈ wsX5_stepUp := (fun w h => List.mem_cons_of_mem _ (List.mem_append_left _ (List.mem_append_left _ (List.mem_append_left _ (List.mem_append_right _ h)))))
  have hP : va_P D vwCl (pool G ad (va_up σ w u)) s.heap := hP
  have hS : va_S (AA B0) s.heap s.heap [] := va_S.rf
  have hl := lv_entry ([.ref (ad (18*w+0)), .ref (ad (18*w+(6+2*i)))]) (n := 2) (Nat.le_of_ble_eq_true rfl)
  rw [lg_entry_eq]
  generalize (lg_sl ([.ref (ad (18*w+0)), .ref (ad (18*w+(6+2*i)))]) ++ List.replicate (2 - (lg_sl ([.ref (ad (18*w+0)), .ref (ad (18*w+(6+2*i)))])).length) Slot.unset).toArray = ls at hl ⊢
  have hl : lv_has ls 2 [(0, .ref (ad (18*w+0))), (1, .ref (ad (18*w+(6+2*i))))] := hl
  obtain ⟨FF, hFF⟩ : ∃ z, z = f5_stepUp u i := ⟨_, rfl⟩
  have hF := hFF.symm
  rw [f5_stepUp] at hF
  refine lv_aload_n hx hb dX5_stepUp_0 rfl (lv_at hl 0 rfl) ?_
  refine va_get (D := D) (ci := 7) (C := RX5) (T := TX5) (N := 7) hx hb hts inX5 hown hK hP (18*w+0) (c_o hw) rfl 0 (by decide) (hts (.fieldLink RX5 12 "TileRunners$World" "tiles" "LTileRunners$Tiles;") (List.mem_of_getElem? (i := 1) rfl)) (fun _ h9 => h9) rfl dX5_stepUp_1 ?_
  refine lv_aload_n hx hb dX5_stepUp_4 rfl (lv_at hl 1 rfl) ?_
  refine lv_aload_n hx hb dX5_stepUp_5 rfl (lv_at hl 1 rfl) ?_
  refine va_get (D := D) (ci := 2) (C := RX0) (T := TX0) (N := 16) hx hb hts inX0 hown hK hP (18*w+(6+2*i)) (c_b hw hi) rfl 0 (by decide) (hts (.fieldLink RX5 56 "TileRunners$Body" "x" "I") (List.mem_of_getElem? (i := 2) rfl)) (fun _ h9 => h9) rfl dX5_stepUp_6 ?_
  refine lv_aload_n hx hb dX5_stepUp_9 rfl (lv_at hl 1 rfl) ?_
  refine va_get (D := D) (ci := 2) (C := RX0) (T := TX0) (N := 16) hx hb hts inX0 hown hK hP (18*w+(6+2*i)) (c_b hw hi) rfl 1 (by decide) (hts (.fieldLink RX5 59 "TileRunners$Body" "y" "I") (List.mem_of_getElem? (i := 3) rfl)) (fun _ h9 => h9) rfl dX5_stepUp_10 ?_
  refine lv_iconst (v := 1) hx hb dX5_stepUp_13 (by decide) ?_
  refine lv_iadd hx hb dX5_stepUp_14 ?_
  refine va_calli (va_runV (As := [.ref (ad (18*w+(6+2*i))), .int (u (336+24*i+0)), .int ((u (336+24*i+1)) + 1)]) (rest := []) ⟨hx, hb, hml, hown, hts⟩ (c4_block l hA σ u w hw i hi (u (336+24*i+0)) ((u (336+24*i+1)) + 1) ) (cwV 3 hts gX5_stepUp_X4_block rfl rfl rfl hd_X4_blockV ⟨Nat.le_of_ble_eq_true rfl, Nat.le_of_ble_eq_true rfl⟩) ⟨hp_blind, va_recv hK hP (ci := 6) (q0 := 18*w+1) rfl (c_t hw), hp_pre hK hN hP⟩ rfl rfl hl.1 rfl (lv_room (Nat.le_of_ble_eq_true rfl)) dX5_stepUp_15 ⟨Nat.zero_le _, Nat.zero_le _⟩) hS (fun _ _ h => h) (fun _ h => h) (fun r15 _ t H locs ht hvm hw9 hB hz1 hk1 hS => ?_)
  have hP := ho_at ht hB
  obtain ⟨eq15, hb_r15⟩ := hw9
  have hF := bnd_s eq15 hF
  refine lv_if_eq (tgt := 23) hx hb dX5_stepUp_18 (by decide) (fun c18 => ?_) (fun c18 => ?_)
  · have hF := ift c18 hF
    refine lv_aload_n hx hb dX5_stepUp_23 rfl (lv_at hl 1 rfl) ?_
    refine lv_dup hx hb dX5_stepUp_24 rfl ?_
    refine va_get (D := D) (ci := 2) (C := RX0) (T := TX0) (N := 16) hx hb hts inX0 hown hK hP (18*w+(6+2*i)) (c_b hw hi) rfl 1 (by decide) (hts (.fieldLink RX5 59 "TileRunners$Body" "y" "I") (List.mem_of_getElem? (i := 3) rfl)) (fun _ h9 => h9) rfl dX5_stepUp_25 ?_
    refine lv_iconst (v := 1) hx hb dX5_stepUp_28 (by decide) ?_
    refine lv_iadd hx hb dX5_stepUp_29 ?_
    refine pput hx hb hts inX0 tyX0 tyX0_ok nmX0 hown hK hP hA hS hw (j := 6+2*i) (by omega) (wcel_b hi) rfl 1 (by decide) (hts (.fieldLink RX5 59 "TileRunners$Body" "y" "I") (List.mem_of_getElem? (i := 3) rfl)) (fun _ h9 => h9) rfl (tyX0_ok 1 (by decide)) rfl rfl (Nat.le_of_ble_eq_true rfl) (336+24*i+1) (own_b hi (by decide) (by decide)) (setB_1 hi) dX5_stepUp_30 (fun u9 H locs eu9 hP hS => ?_)
    obtain ⟨u30, e_u30⟩ : ∃ z, z = u9 := ⟨_, rfl⟩
    rw [← e_u30] at hP eu9
    have hF := bnd_s eu9 hF
    have hO := okW_up eu9 hO (by omega) (by omega)
    refine lv_iconst (v := 1) hx hb dX5_stepUp_33 (by decide) ?_
    exact W.zret (v := 1) hx hb hr (bl_nar bl1) (fun t ht hW => ⟨⟨1, u30, rfl, ⟨hF.trans hFF, hO, bl1⟩, ho_of ht hP⟩, hS.F ht⟩) hS.2.2 dX5_stepUp_34
  · have hF := iff_ c18 hF
    refine lv_iconst (v := 0) hx hb dX5_stepUp_21 (by decide) ?_
    exact W.zret (v := 0) hx hb hr (bl_nar bl0) (fun t ht hW => ⟨⟨0, u, rfl, ⟨hF.trans hFF, hO, bl0⟩, ho_of ht hP⟩, hS.F ht⟩) hS.2.2 dX5_stepUp_22
theorem hd_X5_stepUpV : yX5_stepUp.cls = RX5 ∧ yX5_stepUp.cls ≠ "java/lang/invoke/MethodHandle" ∧ yX5_stepUp.cls ≠ "java/lang/invoke/VarHandle" ∧ (parseMethodDescriptor yX5_stepUp.desc).map (fun d => d.parameters.length) = some 1 := by decide +kernel
set_option maxHeartbeats 4000000 in
set_option maxRecDepth 100000 in
theorem c5_stepDown (l : Launch) {D : va_G} {G : CY} {ad : Nat → Nat} {B0 : Nat} (hA : adOK B0 ad) (σ : Nat → Nat → Int32) (u : Nat → Int32) (w : Nat) (hw : w < 15) (i : Nat) (hi : i < 4) (a : Int32) (hO : okW u) : Met l yX5_stepDown wsX5_stepDown { frames := 3, cells := 0, slots := 0, locals := 77 } (va_Pc [.ref (ad (18*w+0)), .ref (ad (18*w+(6+2*i))), .int a] (Hp D G ad (va_up σ w u))) (va_Qi (fun (r : Int32) (z : Nat → Int32) => (r, z) = f5_stepDown u i a ∧ okW z ∧ bl r) (fun (z : Nat → Int32) => Ho D G ad (va_up σ w z)) (AA B0)) 0 0 (AA B0) := by
  refine Met.ofW (cc := cX5_stepDown) (maxL := 3) (ret := (some .boolean)) (by decide) rfl ?_
  intro p e s m args below meth c s₁ B hml hv
  obtain ⟨rfl, hP, hK, hN⟩ := hv
  have hx := B.exec
  have hb := B.bytes
  have hr := B.returns
  have hts := atoms_spec (ws := wsX5_stepDown) B.pre
  have hown : s.vm.findClass RX5 = some m.cls := findClass_of_methodNamed B.named
  have hlocks := B.notSynchronized
  have inX0 : ∀ w ∈ wsX00, w ∈ wsX5_stepDown := (fun w h => List.mem_cons_of_mem _ (List.mem_append_left _ (List.mem_append_left _ (List.mem_append_left _ (List.mem_append_left _ (List.mem_append_right _ h))))))
  have hP : va_P D vwCl (pool G ad (va_up σ w u)) s.heap := hP
  have hS : va_S (AA B0) s.heap s.heap [] := va_S.rf
  have hl := lv_entry ([.ref (ad (18*w+0)), .ref (ad (18*w+(6+2*i))), .int a]) (n := 3) (Nat.le_of_ble_eq_true rfl)
  rw [lg_entry_eq]
  generalize (lg_sl ([.ref (ad (18*w+0)), .ref (ad (18*w+(6+2*i))), .int a]) ++ List.replicate (3 - (lg_sl ([.ref (ad (18*w+0)), .ref (ad (18*w+(6+2*i))), .int a])).length) Slot.unset).toArray = ls at hl ⊢
  have hl : lv_has ls 3 [(0, .ref (ad (18*w+0))), (1, .ref (ad (18*w+(6+2*i)))), (2, .int a)] := hl
  obtain ⟨FF, hFF⟩ : ∃ z, z = f5_stepDown u i a := ⟨_, rfl⟩
  have hF := hFF.symm
  rw [f5_stepDown] at hF
  refine lv_aload_n hx hb dX5_stepDown_0 rfl (lv_at hl 0 rfl) ?_
  refine lv_aload_n hx hb dX5_stepDown_1 rfl (lv_at hl 1 rfl) ?_
  refine lv_aload_n hx hb dX5_stepDown_2 rfl (lv_at hl 1 rfl) ?_
  refine va_get (D := D) (ci := 2) (C := RX0) (T := TX0) (N := 16) hx hb hts inX0 hown hK hP (18*w+(6+2*i)) (c_b hw hi) rfl 0 (by decide) (hts (.fieldLink RX5 56 "TileRunners$Body" "x" "I") (List.mem_of_getElem? (i := 1) rfl)) (fun _ h9 => h9) rfl dX5_stepDown_3 ?_
  refine lv_aload_n hx hb dX5_stepDown_6 rfl (lv_at hl 1 rfl) ?_
  refine va_get (D := D) (ci := 2) (C := RX0) (T := TX0) (N := 16) hx hb hts inX0 hown hK hP (18*w+(6+2*i)) (c_b hw hi) rfl 1 (by decide) (hts (.fieldLink RX5 59 "TileRunners$Body" "y" "I") (List.mem_of_getElem? (i := 2) rfl)) (fun _ h9 => h9) rfl dX5_stepDown_7 ?_
  refine lv_iload_n hx hb dX5_stepDown_10 rfl (lv_at hl 2 rfl) ?_
  refine va_calli (va_runV (As := [.ref (ad (18*w+(6+2*i))), .int (u (336+24*i+0)), .int (u (336+24*i+1)), .int a]) (rest := []) ⟨hx, hb, hml, hown, hts⟩ (c5_supportAt l hA σ u w hw i hi (u (336+24*i+0)) (u (336+24*i+1)) a hO) (cwV 4 hts gX5_stepDown_X5_supportAt rfl rfl rfl hd_X5_supportAtV ⟨Nat.le_of_ble_eq_true rfl, Nat.le_of_ble_eq_true rfl⟩) ⟨hp_blind, va_recv hK hP (ci := 7) (q0 := 18*w+0) rfl (c_o hw), hp_pre hK hN hP⟩ rfl rfl hl.1 rfl (lv_room (Nat.le_of_ble_eq_true rfl)) dX5_stepDown_11 ⟨Nat.zero_le _, Nat.zero_le _⟩) hS (fun _ _ h => h) (fun _ h => h) (fun r11 _ t H locs ht hvm hw9 hB hz1 hk1 hS => ?_)
  have hP := ho_at ht hB
  have eq11 := hw9
  have hF := bnd_s eq11 hF
  refine lv_if_eq (tgt := 19) hx hb dX5_stepDown_14 (by decide) (fun c14 => ?_) (fun c14 => ?_)
  · have hF := ift c14 hF
    refine lv_aload_n hx hb dX5_stepDown_19 rfl (lv_at hl 1 rfl) ?_
    refine lv_dup hx hb dX5_stepDown_20 rfl ?_
    refine va_get (D := D) (ci := 2) (C := RX0) (T := TX0) (N := 16) hx hb hts inX0 hown hK hP (18*w+(6+2*i)) (c_b hw hi) rfl 1 (by decide) (hts (.fieldLink RX5 59 "TileRunners$Body" "y" "I") (List.mem_of_getElem? (i := 2) rfl)) (fun _ h9 => h9) rfl dX5_stepDown_21 ?_
    refine lv_iconst (v := 1) hx hb dX5_stepDown_24 (by decide) ?_
    refine lv_isub hx hb dX5_stepDown_25 ?_
    refine pput hx hb hts inX0 tyX0 tyX0_ok nmX0 hown hK hP hA hS hw (j := 6+2*i) (by omega) (wcel_b hi) rfl 1 (by decide) (hts (.fieldLink RX5 59 "TileRunners$Body" "y" "I") (List.mem_of_getElem? (i := 2) rfl)) (fun _ h9 => h9) rfl (tyX0_ok 1 (by decide)) rfl rfl (Nat.le_of_ble_eq_true rfl) (336+24*i+1) (own_b hi (by decide) (by decide)) (setB_1 hi) dX5_stepDown_26 (fun u9 H locs eu9 hP hS => ?_)
    obtain ⟨u26, e_u26⟩ : ∃ z, z = u9 := ⟨_, rfl⟩
    rw [← e_u26] at hP eu9
    have hF := bnd_s eu9 hF
    have hO := okW_up eu9 hO (by omega) (by omega)
    refine lv_iconst (v := 1) hx hb dX5_stepDown_29 (by decide) ?_
    exact W.zret (v := 1) hx hb hr (bl_nar bl1) (fun t ht hW => ⟨⟨1, u26, rfl, ⟨hF.trans hFF, hO, bl1⟩, ho_of ht hP⟩, hS.F ht⟩) hS.2.2 dX5_stepDown_30
  · have hF := iff_ c14 hF
    refine lv_iconst (v := 0) hx hb dX5_stepDown_17 (by decide) ?_
    exact W.zret (v := 0) hx hb hr (bl_nar bl0) (fun t ht hW => ⟨⟨0, u, rfl, ⟨hF.trans hFF, hO, bl0⟩, ho_of ht hP⟩, hS.F ht⟩) hS.2.2 dX5_stepDown_18
theorem hd_X5_stepDownV : yX5_stepDown.cls = RX5 ∧ yX5_stepDown.cls ≠ "java/lang/invoke/MethodHandle" ∧ yX5_stepDown.cls ≠ "java/lang/invoke/VarHandle" ∧ (parseMethodDescriptor yX5_stepDown.desc).map (fun d => d.parameters.length) = some 2 := by decide +kernel
set_option maxHeartbeats 4000000 in
set_option maxRecDepth 100000 in
theorem c5_noteCarriers (l : Launch) {D : va_G} {G : CY} {ad : Nat → Nat} {B0 : Nat} (hA : adOK B0 ad) (σ : Nat → Nat → Int32) (u : Nat → Int32) (w : Nat) (hw : w < 15) (hO : okW u) : Met l yX5_noteCarriers wsX5_noteCarriers { frames := 2, cells := 0, slots := 0, locals := 48 } (va_Pc [.ref (ad (18*w+0))] (Hp D G ad (va_up σ w u))) (va_Qv (fun (z : Nat → Int32) => z = f5_noteCarriers u ∧ okW z) (fun (z : Nat → Int32) => Ho D G ad (va_up σ w z)) (AA B0)) 0 0 (AA B0) := by
  refine Met.ofW (cc := cX5_noteCarriers) (maxL := 4) (ret := none) (by decide) rfl ?_
  intro p e s m args below meth c s₁ B hml hv
  obtain ⟨rfl, hP, hK, hN⟩ := hv
  have hx := B.exec
  have hb := B.bytes
  have hr := B.returns
  have hts := atoms_spec (ws := wsX5_noteCarriers) B.pre
  have hown : s.vm.findClass RX5 = some m.cls := findClass_of_methodNamed B.named
  have hlocks := B.notSynchronized
  have inX0 : ∀ w ∈ wsX00, w ∈ wsX5_noteCarriers := (fun w h => List.mem_cons_of_mem _ (List.mem_append_left _ (List.mem_append_left _ (List.mem_append_right _ h))))
  have inX5 : ∀ w ∈ wsX50, w ∈ wsX5_noteCarriers := (fun w h => List.mem_cons_of_mem _ (List.mem_append_left _ (List.mem_append_left _ (List.mem_append_left _ (List.mem_append_right _ h)))))
  have hP : va_P D vwCl (pool G ad (va_up σ w u)) s.heap := hP
  have hS : va_S (AA B0) s.heap s.heap [] := va_S.rf
  have hl := lv_entry ([.ref (ad (18*w+0))]) (n := 4) (Nat.le_of_ble_eq_true rfl)
  rw [lg_entry_eq]
  generalize (lg_sl ([.ref (ad (18*w+0))]) ++ List.replicate (4 - (lg_sl ([.ref (ad (18*w+0))])).length) Slot.unset).toArray = ls at hl ⊢
  have hl : lv_has ls 4 [(0, .ref (ad (18*w+0)))] := hl
  obtain ⟨FF, hFF⟩ : ∃ z, z = f5_noteCarriers u := ⟨_, rfl⟩
  have hF := hFF.symm
  rw [f5_noteCarriers] at hF
  refine lv_iconst (v := 0) hx hb dX5_noteCarriers_0 (by decide) ?_
  refine lv_istore_n (lv' := [(1, .int 0), (0, .ref (ad (18*w+0)))]) hx hb dX5_noteCarriers_1 rfl hl (by decide) rfl (fun ls hl => ?_)
  have L2 : ∀ (n2 : Nat) (w1_2 : Int32) (u_2 : (Nat → Int32)) (H : Heap) (locs : List Loc) (ls : Array Slot), (4 - w1_2.toInt).toNat < n2 → 0 ≤ w1_2 → okW u_2 → va_P D vwCl (pool G ad (va_up σ w u_2)) H → va_S (AA B0) s.heap H locs → lv_has ls 4 [(1, .int w1_2), (0, .ref (ad (18*w+0)))] → f5_noteCarriers_L2 n2 w1_2 u_2 = FF → W p l e (headSpec wsX5_noteCarriers { frames := 2, cells := 0, slots := 0, locals := 48 }).room s m ([.ref (ad (18*w+0))] : List Value).toArray below meth c H locs 0 0 (MQ below (va_Qv (fun (z : Nat → Int32) => z = f5_noteCarriers u ∧ okW z) (fun (z : Nat → Int32) => Ho D G ad (va_up σ w z)) (AA B0)) ([.ref (ad (18*w+0))] : List Value).toArray s 0 0 (AA B0)) (F0 m 2 ls []) := by
    intro n2
    induction n2 with
    | zero => intro w1_2 u_2 H locs ls hm; exact absurd hm (Nat.not_lt_zero _)
    | succ n2 ih2 =>
      intro w1_2 u_2 H locs ls hm2 h1 hO hP hS hl hF
      rw [f5_noteCarriers_L2] at hF
      refine lv_iload_n hx hb dX5_noteCarriers_2 rfl (lv_at hl 0 rfl) ?_
      refine lv_aload_n hx hb dX5_noteCarriers_3 rfl (lv_at hl 1 rfl) ?_
      refine va_get (D := D) (ci := 7) (C := RX5) (T := TX5) (N := 7) hx hb hts inX5 hown hK hP (18*w+0) (c_o hw) rfl 4 (by decide) (hts (.fieldLink RX5 40 "TileRunners$World" "bodyCount" "I") (List.mem_of_getElem? (i := 1) rfl)) (fun _ h9 => h9) rfl dX5_noteCarriers_4 ?_
      refine lv_icmp_ge (tgt := 71) hx hb dX5_noteCarriers_7 (by decide) (fun c7 => ?_) (fun c7 => ?_)
      · have hF := ift c7 hF
        exact W.vret hx hb hr (fun t ht hW => ⟨⟨u_2, rfl, ⟨hF.trans hFF, hO⟩, ho_of ht hP⟩, hS.F ht⟩) hS.2.2 dX5_noteCarriers_71
      · have hF := iff_ c7 hF
        have hi1 : vp_in w1_2 4 := in_n h1 (nle_lt c7) hO.2.1
        refine lv_aload_n hx hb dX5_noteCarriers_10 rfl (lv_at hl 1 rfl) ?_
        refine va_get (D := D) (ci := 7) (C := RX5) (T := TX5) (N := 7) hx hb hts inX5 hown hK hP (18*w+0) (c_o hw) rfl 1 (by decide) (hts (.fieldLink RX5 20 "TileRunners$World" "bodies" "[LTileRunners$Body;") (List.mem_of_getElem? (i := 2) rfl)) (fun _ h9 => h9) rfl dX5_noteCarriers_11 ?_
        refine lv_iload_n hx hb dX5_noteCarriers_14 rfl (lv_at hl 0 rfl) ?_
        have hi_15 : w1_2.toNatClampNeg < 4 := in_lt (i := w1_2) hi1
        refine pqald (t0 := 2) (i := w1_2) hx hb hK hP (c_bs hw) rfl hi1 dX5_noteCarriers_15 ?_
        refine lv_astore_n (lv' := [(2, .ref (ad (18*w+(6+2*w1_2.toNatClampNeg)))), (1, .int w1_2), (0, .ref (ad (18*w+0)))]) hx hb dX5_noteCarriers_16 rfl hl (by decide) rfl (fun ls hl => ?_)
        refine lv_aload_n hx hb dX5_noteCarriers_17 rfl (lv_at hl 0 rfl) ?_
        refine va_get (D := D) (ci := 2) (C := RX0) (T := TX0) (N := 16) hx hb hts inX0 hown hK hP (18*w+(6+2*w1_2.toNatClampNeg)) (c_b hw hi_15) rfl 7 (by decide) (hts (.fieldLink RX5 91 "TileRunners$Body" "vertical" "I") (List.mem_of_getElem? (i := 3) rfl)) (fun _ h9 => h9) rfl dX5_noteCarriers_18 ?_
        have J36 : ∀ (t0_36 : Int32) (H : Heap) (locs : List Loc) (ls : Array Slot), bl t0_36 → va_P D vwCl (pool G ad (va_up σ w u_2)) H → va_S (AA B0) s.heap H locs → lv_has ls 4 [(2, .ref (ad (18*w+(6+2*w1_2.toNatClampNeg)))), (1, .int w1_2), (0, .ref (ad (18*w+0)))] → f5_noteCarriers_b36 (f5_noteCarriers_L2 n2) w1_2 u_2 t0_36 = FF → W p l e (headSpec wsX5_noteCarriers { frames := 2, cells := 0, slots := 0, locals := 48 }).room s m ([.ref (ad (18*w+0))] : List Value).toArray below meth c H locs 0 0 (MQ below (va_Qv (fun (z : Nat → Int32) => z = f5_noteCarriers u ∧ okW z) (fun (z : Nat → Int32) => Ho D G ad (va_up σ w z)) (AA B0)) ([.ref (ad (18*w+0))] : List Value).toArray s 0 0 (AA B0)) (F0 m 36 ls [.int t0_36]) := by
          intro t0_36 H locs ls hb_t0_36 hP hS hl hF
          rw [f5_noteCarriers_b36] at hF
          refine lv_istore_n (lv' := [(3, .int t0_36), (2, .ref (ad (18*w+(6+2*w1_2.toNatClampNeg)))), (1, .int w1_2), (0, .ref (ad (18*w+0)))]) hx hb dX5_noteCarriers_36 rfl hl (by decide) rfl (fun ls hl => ?_)
          refine lv_aload_n hx hb dX5_noteCarriers_37 rfl (lv_at hl 3 rfl) ?_
          refine va_get (D := D) (ci := 7) (C := RX5) (T := TX5) (N := 7) hx hb hts inX5 hown hK hP (18*w+0) (c_o hw) rfl 3 (by decide) (hts (.fieldLink RX5 30 "TileRunners$World" "carriers" "[I") (List.mem_of_getElem? (i := 5) rfl)) (fun _ h9 => h9) rfl dX5_noteCarriers_38 ?_
          refine lv_iload_n hx hb dX5_noteCarriers_41 rfl (lv_at hl 2 rfl) ?_
          refine lv_iload_n hx hb dX5_noteCarriers_42 rfl (lv_at hl 0 rfl) ?_
          have J64 : ∀ (t0_64 : Int32) (H : Heap) (locs : List Loc) (ls : Array Slot), va_P D vwCl (pool G ad (va_up σ w u_2)) H → va_S (AA B0) s.heap H locs → lv_has ls 4 [(1, .int w1_2), (0, .ref (ad (18*w+0)))] → f5_noteCarriers_b64 (f5_noteCarriers_L2 n2) w1_2 u_2 t0_64 = FF → W p l e (headSpec wsX5_noteCarriers { frames := 2, cells := 0, slots := 0, locals := 48 }).room s m ([.ref (ad (18*w+0))] : List Value).toArray below meth c H locs 0 0 (MQ below (va_Qv (fun (z : Nat → Int32) => z = f5_noteCarriers u ∧ okW z) (fun (z : Nat → Int32) => Ho D G ad (va_up σ w z)) (AA B0)) ([.ref (ad (18*w+0))] : List Value).toArray s 0 0 (AA B0)) (F0 m 64 ls [.int t0_64, .int w1_2, .ref (ad (18*w+5))]) := by
            intro t0_64 H locs ls hP hS hl hF
            rw [f5_noteCarriers_b64] at hF
            have hin9 : vp_in w1_2 4 := hi1
            refine past (n := 4) (o := 470) (t := 470+w1_2.toNatClampNeg) hx hb hK hP hA hS hw (j := 5) (by omega) (fun _ => rfl) (fun k9 hk9 => own_a hk9) hin9 rfl dX5_noteCarriers_64 (fun u9 H locs eu9 hP hS => ?_)
            have hlt9 := in_lt hin9
            obtain ⟨u64, e_u64⟩ : ∃ z, z = u9 := ⟨_, rfl⟩
            rw [← e_u64] at hP eu9
            have hF := bnd_s eu9 hF
            have hO := okW_up eu9 hO (by omega) (by omega)
            obtain ⟨v1_65, e_v1_65⟩ : ∃ z : Int32, z = w1_2 + 1 := ⟨_, rfl⟩
            have hF := bnd_s e_v1_65 hF
            refine lv_iinc (v := v1_65) (lv' := [(1, .int v1_65), (0, .ref (ad (18*w+0)))]) hx hb dX5_noteCarriers_65 hl (k := 0) rfl (by rw [e_v1_65]; rfl) (by decide) rfl (fun ls hl => ?_)
            refine lv_goto (tgt := 2) hx hb dX5_noteCarriers_68 (by decide) ?_
            exact ih2 v1_65 u64 _ _ ls (ms_s (dec_i4 hi1 e_v1_65) hm2) (ge0_i4 hi1 e_v1_65) hO hP hS (lv_sub hl [0, 1] rfl) hF
          refine lv_if_eq (tgt := 63) hx hb dX5_noteCarriers_43 (by decide) (fun c43 => ?_) (fun c43 => ?_)
          · have hF := ift c43 hF
            refine lv_iconst (v := (-1)) hx hb dX5_noteCarriers_63 (by decide) ?_
            exact J64 (-1) _ _ ls hP hS (lv_sub hl [2, 3] rfl) hF
          · have hF := iff_ c43 hF
            refine lv_aload_n hx hb dX5_noteCarriers_46 rfl (lv_at hl 3 rfl) ?_
            refine lv_aload_n hx hb dX5_noteCarriers_47 rfl (lv_at hl 1 rfl) ?_
            refine lv_aload_n hx hb dX5_noteCarriers_48 rfl (lv_at hl 1 rfl) ?_
            refine va_get (D := D) (ci := 2) (C := RX0) (T := TX0) (N := 16) hx hb hts inX0 hown hK hP (18*w+(6+2*w1_2.toNatClampNeg)) (c_b hw hi_15) rfl 0 (by decide) (hts (.fieldLink RX5 56 "TileRunners$Body" "x" "I") (List.mem_of_getElem? (i := 6) rfl)) (fun _ h9 => h9) rfl dX5_noteCarriers_49 ?_
            refine lv_aload_n hx hb dX5_noteCarriers_52 rfl (lv_at hl 1 rfl) ?_
            refine va_get (D := D) (ci := 2) (C := RX0) (T := TX0) (N := 16) hx hb hts inX0 hown hK hP (18*w+(6+2*w1_2.toNatClampNeg)) (c_b hw hi_15) rfl 1 (by decide) (hts (.fieldLink RX5 59 "TileRunners$Body" "y" "I") (List.mem_of_getElem? (i := 7) rfl)) (fun _ h9 => h9) rfl dX5_noteCarriers_53 ?_
            refine lv_iconst (v := (-1)) hx hb dX5_noteCarriers_56 (by decide) ?_
            refine va_calli (va_runV (As := [.ref (ad (18*w+(6+2*w1_2.toNatClampNeg))), .int (u_2 (336+24*w1_2.toNatClampNeg+0)), .int (u_2 (336+24*w1_2.toNatClampNeg+1)), .int (-1)]) (rest := [.int w1_2, .ref (ad (18*w+5))]) ⟨hx, hb, hml, hown, hts⟩ (c5_platformUnder l hA σ u_2 w hw w1_2.toNatClampNeg hi_15 (u_2 (336+24*w1_2.toNatClampNeg+0)) (u_2 (336+24*w1_2.toNatClampNeg+1)) (-1) hO) (cwV 4 hts gX5_noteCarriers_X5_platformUnder rfl rfl rfl hd_X5_platformUnderV ⟨Nat.le_of_ble_eq_true rfl, Nat.le_of_ble_eq_true rfl⟩) ⟨hp_blind, va_recv hK hP (ci := 7) (q0 := 18*w+0) rfl (c_o hw), hp_pre hK hN hP⟩ rfl rfl hl.1 rfl (lv_room (Nat.le_of_ble_eq_true rfl)) dX5_noteCarriers_57 ⟨Nat.zero_le _, Nat.zero_le _⟩) hS (fun _ _ h => h) (fun _ h => h) (fun r57 _ t H locs ht hvm hw9 hB hz1 hk1 hS => ?_)
            have hP := ho_at ht hB
            have eq57 := hw9
            have hF := bnd_s eq57 hF
            refine lv_goto (tgt := 64) hx hb dX5_noteCarriers_60 (by decide) ?_
            exact J64 r57 _ _ ls hP hS (lv_sub hl [2, 3] rfl) hF
        have J35 : ∀  (H : Heap) (locs : List Loc) (ls : Array Slot), va_P D vwCl (pool G ad (va_up σ w u_2)) H → va_S (AA B0) s.heap H locs → lv_has ls 4 [(2, .ref (ad (18*w+(6+2*w1_2.toNatClampNeg)))), (1, .int w1_2), (0, .ref (ad (18*w+0)))] → f5_noteCarriers_b35 (f5_noteCarriers_L2 n2) w1_2 u_2  = FF → W p l e (headSpec wsX5_noteCarriers { frames := 2, cells := 0, slots := 0, locals := 48 }).room s m ([.ref (ad (18*w+0))] : List Value).toArray below meth c H locs 0 0 (MQ below (va_Qv (fun (z : Nat → Int32) => z = f5_noteCarriers u ∧ okW z) (fun (z : Nat → Int32) => Ho D G ad (va_up σ w z)) (AA B0)) ([.ref (ad (18*w+0))] : List Value).toArray s 0 0 (AA B0)) (F0 m 35 ls []) := by
          intro  H locs ls hP hS hl hF
          rw [f5_noteCarriers_b35] at hF
          refine lv_iconst (v := 0) hx hb dX5_noteCarriers_35 (by decide) ?_
          exact J36 0 _ _ ls bl0 hP hS (lv_sub hl [0, 1, 2] rfl) hF
        refine lv_if_gt (tgt := 35) hx hb dX5_noteCarriers_21 (by decide) (fun c21 => ?_) (fun c21 => ?_)
        · have hF := ift c21 hF
          exact J35  _ _ ls hP hS (lv_sub hl [0, 1, 2] rfl) hF
        · have hF := iff_ c21 hF
          refine lv_aload_n hx hb dX5_noteCarriers_24 rfl (lv_at hl 0 rfl) ?_
          refine va_get (D := D) (ci := 2) (C := RX0) (T := TX0) (N := 16) hx hb hts inX0 hown hK hP (18*w+(6+2*w1_2.toNatClampNeg)) (c_b hw hi_15) rfl 10 (by decide) (hts (.fieldLink RX5 78 "TileRunners$Body" "dropping" "I") (List.mem_of_getElem? (i := 4) rfl)) (fun _ h9 => h9) rfl dX5_noteCarriers_25 ?_
          refine lv_if_ne (tgt := 35) hx hb dX5_noteCarriers_28 (by decide) (fun c28 => ?_) (fun c28 => ?_)
          · have hF := iff_ c28 hF
            exact J35  _ _ ls hP hS (lv_sub hl [0, 1, 2] rfl) hF
          · have hF := ift c28 hF
            refine lv_iconst (v := 1) hx hb dX5_noteCarriers_31 (by decide) ?_
            refine lv_goto (tgt := 36) hx hb dX5_noteCarriers_32 (by decide) ?_
            exact J36 1 _ _ ls bl1 hP hS (lv_sub hl [0, 1, 2] rfl) hF
  exact L2 BIG 0 u _ _ ls (big_i4 _) le0 hO hP hS (lv_sub hl [0, 1] rfl) hF
theorem hd_X5_noteCarriersV : yX5_noteCarriers.cls = RX5 ∧ yX5_noteCarriers.cls ≠ "java/lang/invoke/MethodHandle" ∧ yX5_noteCarriers.cls ≠ "java/lang/invoke/VarHandle" ∧ (parseMethodDescriptor yX5_noteCarriers.desc).map (fun d => d.parameters.length) = some 0 := by decide +kernel
set_option maxHeartbeats 4000000 in
set_option maxRecDepth 100000 in
theorem c5_carry (l : Launch) {D : va_G} {G : CY} {ad : Nat → Nat} {B0 : Nat} (hA : adOK B0 ad) (σ : Nat → Nat → Int32) (u : Nat → Int32) (w : Nat) (hw : w < 15) (i : Nat) (hi : i < 4) (a : Int32) (hO : okW u) (hpn : vp_in a 4) : Met l yX5_carry wsX5_carry { frames := 4, cells := 0, slots := 0, locals := 102 } (va_Pc [.ref (ad (18*w+0)), .ref (ad (18*w+(6+2*i))), .int a] (Hp D G ad (va_up σ w u))) (va_Qv (fun (z : Nat → Int32) => z = f5_carry u i a ∧ okW z) (fun (z : Nat → Int32) => Ho D G ad (va_up σ w z)) (AA B0)) 0 0 (AA B0) := by
  refine Met.ofW (cc := cX5_carry) (maxL := 8) (ret := none) (by decide) rfl ?_
  intro p e s m args below meth c s₁ B hml hv
  obtain ⟨rfl, hP, hK, hN⟩ := hv
  have hx := B.exec
  have hb := B.bytes
  have hr := B.returns
  have hts := atoms_spec (ws := wsX5_carry) B.pre
  have hown : s.vm.findClass RX5 = some m.cls := findClass_of_methodNamed B.named
  have hlocks := B.notSynchronized
  have inX2 : ∀ w ∈ wsX20, w ∈ wsX5_carry := (fun w h => List.mem_cons_of_mem _ (List.mem_append_left _ (List.mem_append_left _ (List.mem_append_left _ (List.mem_append_right _ h)))))
  have inX5 : ∀ w ∈ wsX50, w ∈ wsX5_carry := (fun w h => List.mem_cons_of_mem _ (List.mem_append_left _ (List.mem_append_left _ (List.mem_append_left _ (List.mem_append_left _ (List.mem_append_right _ h))))))
  have hP : va_P D vwCl (pool G ad (va_up σ w u)) s.heap := hP
  have hS : va_S (AA B0) s.heap s.heap [] := va_S.rf
  have hl := lv_entry ([.ref (ad (18*w+0)), .ref (ad (18*w+(6+2*i))), .int a]) (n := 8) (Nat.le_of_ble_eq_true rfl)
  rw [lg_entry_eq]
  generalize (lg_sl ([.ref (ad (18*w+0)), .ref (ad (18*w+(6+2*i))), .int a]) ++ List.replicate (8 - (lg_sl ([.ref (ad (18*w+0)), .ref (ad (18*w+(6+2*i))), .int a])).length) Slot.unset).toArray = ls at hl ⊢
  have hl : lv_has ls 8 [(0, .ref (ad (18*w+0))), (1, .ref (ad (18*w+(6+2*i)))), (2, .int a)] := hl
  obtain ⟨FF, hFF⟩ : ∃ z, z = f5_carry u i a := ⟨_, rfl⟩
  have hF := hFF.symm
  rw [f5_carry] at hF
  refine lv_aload_n hx hb dX5_carry_0 rfl (lv_at hl 0 rfl) ?_
  refine va_get (D := D) (ci := 7) (C := RX5) (T := TX5) (N := 7) hx hb hts inX5 hown hK hP (18*w+0) (c_o hw) rfl 2 (by decide) (hts (.fieldLink RX5 26 "TileRunners$World" "platforms" "[LTileRunners$Platform;") (List.mem_of_getElem? (i := 1) rfl)) (fun _ h9 => h9) rfl dX5_carry_1 ?_
  refine lv_iload_n hx hb dX5_carry_4 rfl (lv_at hl 2 rfl) ?_
  have hi_5 : a.toNatClampNeg < 4 := in_lt (i := a) hpn
  refine pqald (t0 := 3) (i := a) hx hb hK hP (c_ps hw) rfl hpn dX5_carry_5 ?_
  refine lv_astore_n (lv' := [(3, .ref (ad (18*w+(14+a.toNatClampNeg)))), (0, .ref (ad (18*w+0))), (1, .ref (ad (18*w+(6+2*i)))), (2, .int a)]) hx hb dX5_carry_6 rfl hl (by decide) rfl (fun ls hl => ?_)
  refine lv_aload_n hx hb dX5_carry_7 rfl (lv_at hl 0 rfl) ?_
  refine va_get (D := D) (ci := 4) (C := RX2) (T := TX2) (N := 7) hx hb hts inX2 hown hK hP (18*w+(14+a.toNatClampNeg)) (c_p hw hi_5) rfl 3 (by decide) (hts (.fieldLink RX5 114 "TileRunners$Platform" "dx" "I") (List.mem_of_getElem? (i := 2) rfl)) (fun _ h9 => h9) rfl dX5_carry_8 ?_
  have J19 : ∀ (t0_19 : Int32) (H : Heap) (locs : List Loc) (ls : Array Slot), va_P D vwCl (pool G ad (va_up σ w u)) H → va_S (AA B0) s.heap H locs → lv_has ls 8 [(3, .ref (ad (18*w+(14+a.toNatClampNeg)))), (0, .ref (ad (18*w+0))), (1, .ref (ad (18*w+(6+2*i)))), (2, .int a)] → f5_carry_b19 u i a t0_19 = FF → W p l e (headSpec wsX5_carry { frames := 4, cells := 0, slots := 0, locals := 102 }).room s m ([.ref (ad (18*w+0)), .ref (ad (18*w+(6+2*i))), .int a] : List Value).toArray below meth c H locs 0 0 (MQ below (va_Qv (fun (z : Nat → Int32) => z = f5_carry u i a ∧ okW z) (fun (z : Nat → Int32) => Ho D G ad (va_up σ w z)) (AA B0)) ([.ref (ad (18*w+0)), .ref (ad (18*w+(6+2*i))), .int a] : List Value).toArray s 0 0 (AA B0)) (F0 m 19 ls [.int t0_19]) := by
    intro t0_19 H locs ls hP hS hl hF
    rw [f5_carry_b19] at hF
    refine lv_istore (lv' := [(4, .int t0_19), (3, .ref (ad (18*w+(14+a.toNatClampNeg)))), (0, .ref (ad (18*w+0))), (1, .ref (ad (18*w+(6+2*i)))), (2, .int a)]) hx hb dX5_carry_19 hl (by decide) rfl (fun ls hl => ?_)
    refine lv_aload_n hx hb dX5_carry_21 rfl (lv_at hl 1 rfl) ?_
    refine va_get (D := D) (ci := 4) (C := RX2) (T := TX2) (N := 7) hx hb hts inX2 hown hK hP (18*w+(14+a.toNatClampNeg)) (c_p hw hi_5) rfl 3 (by decide) (hts (.fieldLink RX5 114 "TileRunners$Platform" "dx" "I") (List.mem_of_getElem? (i := 2) rfl)) (fun _ h9 => h9) rfl dX5_carry_22 ?_
    refine va_mabs hx hb (hml.trans hl.1.symm) hown (hts _ (List.mem_of_getElem? (i := 3) rfl)) (hts _ (List.mem_of_getElem? (i := 4) rfl)) (hts _ (List.mem_of_getElem? (i := 5) rfl)) (hts _ (List.mem_of_getElem? (i := 6) rfl)) (Nat.le_of_ble_eq_true rfl) (Nat.le_of_ble_eq_true rfl) (Nat.zero_le _) (Nat.zero_le _) dX5_carry_25 ?_
    refine lv_topi (fun v5_28 e_v5_28 => ?_)
    have hF := bnd_s e_v5_28 hF
    refine lv_istore (lv' := [(5, .int v5_28), (4, .int t0_19), (3, .ref (ad (18*w+(14+a.toNatClampNeg)))), (0, .ref (ad (18*w+0))), (1, .ref (ad (18*w+(6+2*i)))), (2, .int a)]) hx hb dX5_carry_28 hl (by decide) rfl (fun ls hl => ?_)
    have L30 : ∀ (n30 : Nat) (w5_30 : Int32) (u_30 : (Nat → Int32)) (H : Heap) (locs : List Loc) (ls : Array Slot), w5_30.toInt.toNat < n30 → okW u_30 → va_P D vwCl (pool G ad (va_up σ w u_30)) H → va_S (AA B0) s.heap H locs → lv_has ls 8 [(5, .int w5_30), (4, .int t0_19), (3, .ref (ad (18*w+(14+a.toNatClampNeg)))), (0, .ref (ad (18*w+0))), (1, .ref (ad (18*w+(6+2*i)))), (2, .int a)] → f5_carry_L30 i a t0_19 n30 w5_30 u_30 = FF → W p l e (headSpec wsX5_carry { frames := 4, cells := 0, slots := 0, locals := 102 }).room s m ([.ref (ad (18*w+0)), .ref (ad (18*w+(6+2*i))), .int a] : List Value).toArray below meth c H locs 0 0 (MQ below (va_Qv (fun (z : Nat → Int32) => z = f5_carry u i a ∧ okW z) (fun (z : Nat → Int32) => Ho D G ad (va_up σ w z)) (AA B0)) ([.ref (ad (18*w+0)), .ref (ad (18*w+(6+2*i))), .int a] : List Value).toArray s 0 0 (AA B0)) (F0 m 30 ls []) := by
      intro n30
      induction n30 with
      | zero => intro w5_30 u_30 H locs ls hm; exact absurd hm (Nat.not_lt_zero _)
      | succ n30 ih30 =>
        intro w5_30 u_30 H locs ls hm30 hO hP hS hl hF
        rw [f5_carry_L30] at hF
        refine lv_iload hx hb dX5_carry_30 (lv_at hl 0 rfl) ?_
        have J51 : ∀ (u_51 : (Nat → Int32)) (H : Heap) (locs : List Loc) (ls : Array Slot), okW u_51 → va_P D vwCl (pool G ad (va_up σ w u_51)) H → va_S (AA B0) s.heap H locs → lv_has ls 8 [(3, .ref (ad (18*w+(14+a.toNatClampNeg)))), (0, .ref (ad (18*w+0))), (1, .ref (ad (18*w+(6+2*i)))), (2, .int a)] → f5_carry_b51 i a u_51 = FF → W p l e (headSpec wsX5_carry { frames := 4, cells := 0, slots := 0, locals := 102 }).room s m ([.ref (ad (18*w+0)), .ref (ad (18*w+(6+2*i))), .int a] : List Value).toArray below meth c H locs 0 0 (MQ below (va_Qv (fun (z : Nat → Int32) => z = f5_carry u i a ∧ okW z) (fun (z : Nat → Int32) => Ho D G ad (va_up σ w z)) (AA B0)) ([.ref (ad (18*w+0)), .ref (ad (18*w+(6+2*i))), .int a] : List Value).toArray s 0 0 (AA B0)) (F0 m 51 ls []) := by
          intro u_51 H locs ls hO hP hS hl hF
          rw [f5_carry_b51] at hF
          refine lv_aload_n hx hb dX5_carry_51 rfl (lv_at hl 0 rfl) ?_
          refine va_get (D := D) (ci := 4) (C := RX2) (T := TX2) (N := 7) hx hb hts inX2 hown hK hP (18*w+(14+a.toNatClampNeg)) (c_p hw hi_5) rfl 4 (by decide) (hts (.fieldLink RX5 126 "TileRunners$Platform" "dy" "I") (List.mem_of_getElem? (i := 7) rfl)) (fun _ h9 => h9) rfl dX5_carry_52 ?_
          refine lv_topi (fun v6_55 e_v6_55 => ?_)
          have hF := bnd_s e_v6_55 hF
          refine lv_istore (lv' := [(6, .int v6_55), (3, .ref (ad (18*w+(14+a.toNatClampNeg)))), (0, .ref (ad (18*w+0))), (1, .ref (ad (18*w+(6+2*i)))), (2, .int a)]) hx hb dX5_carry_55 hl (by decide) rfl (fun ls hl => ?_)
          have L57 : ∀ (n57 : Nat) (w6_57 : Int32) (u_57 : (Nat → Int32)) (H : Heap) (locs : List Loc) (ls : Array Slot), w6_57.toInt.toNat < n57 → okW u_57 → va_P D vwCl (pool G ad (va_up σ w u_57)) H → va_S (AA B0) s.heap H locs → lv_has ls 8 [(6, .int w6_57), (3, .ref (ad (18*w+(14+a.toNatClampNeg)))), (0, .ref (ad (18*w+0))), (1, .ref (ad (18*w+(6+2*i)))), (2, .int a)] → f5_carry_L57 i a n57 w6_57 u_57 = FF → W p l e (headSpec wsX5_carry { frames := 4, cells := 0, slots := 0, locals := 102 }).room s m ([.ref (ad (18*w+0)), .ref (ad (18*w+(6+2*i))), .int a] : List Value).toArray below meth c H locs 0 0 (MQ below (va_Qv (fun (z : Nat → Int32) => z = f5_carry u i a ∧ okW z) (fun (z : Nat → Int32) => Ho D G ad (va_up σ w z)) (AA B0)) ([.ref (ad (18*w+0)), .ref (ad (18*w+(6+2*i))), .int a] : List Value).toArray s 0 0 (AA B0)) (F0 m 57 ls []) := by
            intro n57
            induction n57 with
            | zero => intro w6_57 u_57 H locs ls hm; exact absurd hm (Nat.not_lt_zero _)
            | succ n57 ih57 =>
              intro w6_57 u_57 H locs ls hm57 hO hP hS hl hF
              rw [f5_carry_L57] at hF
              refine lv_iload hx hb dX5_carry_57 (lv_at hl 0 rfl) ?_
              have J76 : ∀ (u_76 : (Nat → Int32)) (H : Heap) (locs : List Loc) (ls : Array Slot), okW u_76 → va_P D vwCl (pool G ad (va_up σ w u_76)) H → va_S (AA B0) s.heap H locs → lv_has ls 8 [(3, .ref (ad (18*w+(14+a.toNatClampNeg)))), (0, .ref (ad (18*w+0))), (1, .ref (ad (18*w+(6+2*i)))), (2, .int a)] → f5_carry_b76 i a u_76 = FF → W p l e (headSpec wsX5_carry { frames := 4, cells := 0, slots := 0, locals := 102 }).room s m ([.ref (ad (18*w+0)), .ref (ad (18*w+(6+2*i))), .int a] : List Value).toArray below meth c H locs 0 0 (MQ below (va_Qv (fun (z : Nat → Int32) => z = f5_carry u i a ∧ okW z) (fun (z : Nat → Int32) => Ho D G ad (va_up σ w z)) (AA B0)) ([.ref (ad (18*w+0)), .ref (ad (18*w+(6+2*i))), .int a] : List Value).toArray s 0 0 (AA B0)) (F0 m 76 ls []) := by
                intro u_76 H locs ls hO hP hS hl hF
                rw [f5_carry_b76] at hF
                refine lv_aload_n hx hb dX5_carry_76 rfl (lv_at hl 0 rfl) ?_
                refine va_get (D := D) (ci := 4) (C := RX2) (T := TX2) (N := 7) hx hb hts inX2 hown hK hP (18*w+(14+a.toNatClampNeg)) (c_p hw hi_5) rfl 4 (by decide) (hts (.fieldLink RX5 126 "TileRunners$Platform" "dy" "I") (List.mem_of_getElem? (i := 7) rfl)) (fun _ h9 => h9) rfl dX5_carry_77 ?_
                refine lv_ineg hx hb dX5_carry_80 ?_
                refine lv_topi (fun v7_81 e_v7_81 => ?_)
                have hF := bnd_s e_v7_81 hF
                refine lv_istore (lv' := [(7, .int v7_81), (3, .ref (ad (18*w+(14+a.toNatClampNeg)))), (0, .ref (ad (18*w+0))), (1, .ref (ad (18*w+(6+2*i)))), (2, .int a)]) hx hb dX5_carry_81 hl (by decide) rfl (fun ls hl => ?_)
                have L83 : ∀ (n83 : Nat) (w7_83 : Int32) (u_83 : (Nat → Int32)) (H : Heap) (locs : List Loc) (ls : Array Slot), w7_83.toInt.toNat < n83 → okW u_83 → va_P D vwCl (pool G ad (va_up σ w u_83)) H → va_S (AA B0) s.heap H locs → lv_has ls 8 [(7, .int w7_83), (0, .ref (ad (18*w+0))), (1, .ref (ad (18*w+(6+2*i)))), (2, .int a)] → f5_carry_L83 i a n83 w7_83 u_83 = FF → W p l e (headSpec wsX5_carry { frames := 4, cells := 0, slots := 0, locals := 102 }).room s m ([.ref (ad (18*w+0)), .ref (ad (18*w+(6+2*i))), .int a] : List Value).toArray below meth c H locs 0 0 (MQ below (va_Qv (fun (z : Nat → Int32) => z = f5_carry u i a ∧ okW z) (fun (z : Nat → Int32) => Ho D G ad (va_up σ w z)) (AA B0)) ([.ref (ad (18*w+0)), .ref (ad (18*w+(6+2*i))), .int a] : List Value).toArray s 0 0 (AA B0)) (F0 m 83 ls []) := by
                  intro n83
                  induction n83 with
                  | zero => intro w7_83 u_83 H locs ls hm; exact absurd hm (Nat.not_lt_zero _)
                  | succ n83 ih83 =>
                    intro w7_83 u_83 H locs ls hm83 hO hP hS hl hF
                    rw [f5_carry_L83] at hF
                    refine lv_iload hx hb dX5_carry_83 (lv_at hl 0 rfl) ?_
                    refine lv_if_le (tgt := 103) hx hb dX5_carry_85 (by decide) (fun c85 => ?_) (fun c85 => ?_)
                    · have hF := ift c85 hF
                      exact W.vret hx hb hr (fun t ht hW => ⟨⟨u_83, rfl, ⟨hF.trans hFF, hO⟩, ho_of ht hP⟩, hS.F ht⟩) hS.2.2 dX5_carry_103
                    · have hF := iff_ c85 hF
                      refine lv_aload_n hx hb dX5_carry_88 rfl (lv_at hl 1 rfl) ?_
                      refine lv_aload_n hx hb dX5_carry_89 rfl (lv_at hl 2 rfl) ?_
                      refine lv_iload_n hx hb dX5_carry_90 rfl (lv_at hl 3 rfl) ?_
                      refine va_calli (va_runV (As := [.ref (ad (18*w+(6+2*i))), .int a]) (rest := []) ⟨hx, hb, hml, hown, hts⟩ (c5_stepDown l hA σ u_83 w hw i hi a hO) (cwV 2 hts gX5_carry_X5_stepDown rfl rfl rfl hd_X5_stepDownV ⟨Nat.le_of_ble_eq_true rfl, Nat.le_of_ble_eq_true rfl⟩) ⟨hp_blind, va_recv hK hP (ci := 7) (q0 := 18*w+0) rfl (c_o hw), hp_pre hK hN hP⟩ rfl rfl hl.1 rfl (lv_room (Nat.le_of_ble_eq_true rfl)) dX5_carry_91 ⟨Nat.zero_le _, Nat.zero_le _⟩) hS (fun _ _ h => h) (fun _ h => h) (fun r91 u9 t H locs ht hvm hw9 hB hz1 hk1 hS => ?_)
                      have hP := ho_at ht hB
                      obtain ⟨eq91, ok9, hb_r91⟩ := hw9
                      obtain ⟨u91, e_u91⟩ : ∃ z, z = u9 := ⟨_, rfl⟩
                      rw [← e_u91] at hP eq91 ok9
                      have hO := ok9
                      have hF := bnd2_s eq91 hF
                      refine lv_if_eq (tgt := 103) hx hb dX5_carry_94 (by decide) (fun c94 => ?_) (fun c94 => ?_)
                      · have hF := ift c94 hF
                        exact W.vret hx hb hr (fun t ht hW => ⟨⟨u91, rfl, ⟨hF.trans hFF, hO⟩, ho_of ht hP⟩, hS.F ht⟩) hS.2.2 dX5_carry_103
                      · have hF := iff_ c94 hF
                        obtain ⟨v7_97, e_v7_97⟩ : ∃ z : Int32, z = w7_83 + (-1) := ⟨_, rfl⟩
                        have hF := bnd_s e_v7_97 hF
                        refine lv_iinc (v := v7_97) (lv' := [(7, .int v7_97), (0, .ref (ad (18*w+0))), (1, .ref (ad (18*w+(6+2*i)))), (2, .int a)]) hx hb dX5_carry_97 hl (k := 0) rfl (by rw [e_v7_97]; rfl) (by decide) rfl (fun ls hl => ?_)
                        refine lv_goto (tgt := 83) hx hb dX5_carry_100 (by decide) ?_
                        exact ih83 v7_97 u91 _ _ ls (ms_s (dec_dn (nle_lt c85) e_v7_97) hm83) hO hP hS (lv_sub hl [0, 1, 2, 3] rfl) hF
                exact L83 BIG v7_81 u_76 _ _ ls (big_dn _) hO hP hS (lv_sub hl [0, 2, 3, 4] rfl) hF
              refine lv_if_le (tgt := 76) hx hb dX5_carry_59 (by decide) (fun c59 => ?_) (fun c59 => ?_)
              · have hF := ift c59 hF
                exact J76 u_57 _ _ ls hO hP hS (lv_sub hl [1, 2, 3, 4] rfl) hF
              · have hF := iff_ c59 hF
                refine lv_aload_n hx hb dX5_carry_62 rfl (lv_at hl 2 rfl) ?_
                refine lv_aload_n hx hb dX5_carry_63 rfl (lv_at hl 3 rfl) ?_
                refine va_calli (va_runV (As := [.ref (ad (18*w+(6+2*i)))]) (rest := []) ⟨hx, hb, hml, hown, hts⟩ (c5_stepUp l hA σ u_57 w hw i hi hO) (cwV 1 hts gX5_carry_X5_stepUp rfl rfl rfl hd_X5_stepUpV ⟨Nat.le_of_ble_eq_true rfl, Nat.le_of_ble_eq_true rfl⟩) ⟨hp_blind, va_recv hK hP (ci := 7) (q0 := 18*w+0) rfl (c_o hw), hp_pre hK hN hP⟩ rfl rfl hl.1 rfl (lv_room (Nat.le_of_ble_eq_true rfl)) dX5_carry_64 ⟨Nat.zero_le _, Nat.zero_le _⟩) hS (fun _ _ h => h) (fun _ h => h) (fun r64 u9 t H locs ht hvm hw9 hB hz1 hk1 hS => ?_)
                have hP := ho_at ht hB
                obtain ⟨eq64, ok9, hb_r64⟩ := hw9
                obtain ⟨u64, e_u64⟩ : ∃ z, z = u9 := ⟨_, rfl⟩
                rw [← e_u64] at hP eq64 ok9
                have hO := ok9
                have hF := bnd2_s eq64 hF
                refine lv_if_eq (tgt := 76) hx hb dX5_carry_67 (by decide) (fun c67 => ?_) (fun c67 => ?_)
                · have hF := ift c67 hF
                  exact J76 u64 _ _ ls hO hP hS (lv_sub hl [1, 2, 3, 4] rfl) hF
                · have hF := iff_ c67 hF
                  obtain ⟨v6_70, e_v6_70⟩ : ∃ z : Int32, z = w6_57 + (-1) := ⟨_, rfl⟩
                  have hF := bnd_s e_v6_70 hF
                  refine lv_iinc (v := v6_70) (lv' := [(6, .int v6_70), (3, .ref (ad (18*w+(14+a.toNatClampNeg)))), (0, .ref (ad (18*w+0))), (1, .ref (ad (18*w+(6+2*i)))), (2, .int a)]) hx hb dX5_carry_70 hl (k := 0) rfl (by rw [e_v6_70]; rfl) (by decide) rfl (fun ls hl => ?_)
                  refine lv_goto (tgt := 57) hx hb dX5_carry_73 (by decide) ?_
                  exact ih57 v6_70 u64 _ _ ls (ms_s (dec_dn (nle_lt c59) e_v6_70) hm57) hO hP hS (lv_sub hl [0, 1, 2, 3, 4] rfl) hF
          exact L57 BIG v6_55 u_51 _ _ ls (big_dn _) hO hP hS (lv_sub hl [0, 1, 2, 3, 4] rfl) hF
        refine lv_if_le (tgt := 51) hx hb dX5_carry_32 (by decide) (fun c32 => ?_) (fun c32 => ?_)
        · have hF := ift c32 hF
          exact J51 u_30 _ _ ls hO hP hS (lv_sub hl [2, 3, 4, 5] rfl) hF
        · have hF := iff_ c32 hF
          refine lv_aload_n hx hb dX5_carry_35 rfl (lv_at hl 3 rfl) ?_
          refine lv_aload_n hx hb dX5_carry_36 rfl (lv_at hl 4 rfl) ?_
          refine lv_iload hx hb dX5_carry_37 (lv_at hl 1 rfl) ?_
          refine va_calli (va_runV (As := [.ref (ad (18*w+(6+2*i))), .int t0_19]) (rest := []) ⟨hx, hb, hml, hown, hts⟩ (c5_stepSideways l hA σ u_30 w hw i hi t0_19 hO) (cwV 2 hts gX5_carry_X5_stepSideways rfl rfl rfl hd_X5_stepSidewaysV ⟨Nat.le_of_ble_eq_true rfl, Nat.le_of_ble_eq_true rfl⟩) ⟨hp_blind, va_recv hK hP (ci := 7) (q0 := 18*w+0) rfl (c_o hw), hp_pre hK hN hP⟩ rfl rfl hl.1 rfl (lv_room (Nat.le_of_ble_eq_true rfl)) dX5_carry_39 ⟨Nat.zero_le _, Nat.zero_le _⟩) hS (fun _ _ h => h) (fun _ h => h) (fun r39 u9 t H locs ht hvm hw9 hB hz1 hk1 hS => ?_)
          have hP := ho_at ht hB
          obtain ⟨eq39, ok9, hb_r39⟩ := hw9
          obtain ⟨u39, e_u39⟩ : ∃ z, z = u9 := ⟨_, rfl⟩
          rw [← e_u39] at hP eq39 ok9
          have hO := ok9
          have hF := bnd2_s eq39 hF
          refine lv_if_eq (tgt := 51) hx hb dX5_carry_42 (by decide) (fun c42 => ?_) (fun c42 => ?_)
          · have hF := ift c42 hF
            exact J51 u39 _ _ ls hO hP hS (lv_sub hl [2, 3, 4, 5] rfl) hF
          · have hF := iff_ c42 hF
            obtain ⟨v5_45, e_v5_45⟩ : ∃ z : Int32, z = w5_30 + (-1) := ⟨_, rfl⟩
            have hF := bnd_s e_v5_45 hF
            refine lv_iinc (v := v5_45) (lv' := [(5, .int v5_45), (4, .int t0_19), (3, .ref (ad (18*w+(14+a.toNatClampNeg)))), (0, .ref (ad (18*w+0))), (1, .ref (ad (18*w+(6+2*i)))), (2, .int a)]) hx hb dX5_carry_45 hl (k := 0) rfl (by rw [e_v5_45]; rfl) (by decide) rfl (fun ls hl => ?_)
            refine lv_goto (tgt := 30) hx hb dX5_carry_48 (by decide) ?_
            exact ih30 v5_45 u39 _ _ ls (ms_s (dec_dn (nle_lt c32) e_v5_45) hm30) hO hP hS (lv_sub hl [0, 1, 2, 3, 4, 5] rfl) hF
    exact L30 BIG v5_28 u _ _ ls (big_dn _) hO hP hS (lv_sub hl [0, 1, 2, 3, 4, 5] rfl) hF
  refine lv_if_ge (tgt := 18) hx hb dX5_carry_11 (by decide) (fun c11 => ?_) (fun c11 => ?_)
  · have hF := ift c11 hF
    refine lv_iconst (v := 1) hx hb dX5_carry_18 (by decide) ?_
    exact J19 1 _ _ ls hP hS (lv_sub hl [0, 1, 2, 3] rfl) hF
  · have hF := iff_ c11 hF
    refine lv_iconst (v := (-1)) hx hb dX5_carry_14 (by decide) ?_
    refine lv_goto (tgt := 19) hx hb dX5_carry_15 (by decide) ?_
    exact J19 (-1) _ _ ls hP hS (lv_sub hl [0, 1, 2, 3] rfl) hF
theorem hd_X5_carryV : yX5_carry.cls = RX5 ∧ yX5_carry.cls ≠ "java/lang/invoke/MethodHandle" ∧ yX5_carry.cls ≠ "java/lang/invoke/VarHandle" ∧ (parseMethodDescriptor yX5_carry.desc).map (fun d => d.parameters.length) = some 2 := by decide +kernel
set_option maxHeartbeats 4000000 in
set_option maxRecDepth 100000 in
theorem c5_movePlatforms (l : Launch) {D : va_G} {G : CY} {ad : Nat → Nat} {B0 : Nat} (hA : adOK B0 ad) (σ : Nat → Nat → Int32) (u : Nat → Int32) (w : Nat) (hw : w < 15) (hO : okW u) : Met l yX5_movePlatforms wsX5_movePlatforms { frames := 5, cells := 0, slots := 0, locals := 129 } (va_Pc [.ref (ad (18*w+0))] (Hp D G ad (va_up σ w u))) (va_Qv (fun (z : Nat → Int32) => z = f5_movePlatforms u ∧ okW z) (fun (z : Nat → Int32) => Ho D G ad (va_up σ w z)) (AA B0)) 0 0 (AA B0) := by
  refine Met.ofW (cc := cX5_movePlatforms) (maxL := 3) (ret := none) (by decide) rfl ?_
  intro p e s m args below meth c s₁ B hml hv
  obtain ⟨rfl, hP, hK, hN⟩ := hv
  have hx := B.exec
  have hb := B.bytes
  have hr := B.returns
  have hts := atoms_spec (ws := wsX5_movePlatforms) B.pre
  have hown : s.vm.findClass RX5 = some m.cls := findClass_of_methodNamed B.named
  have hlocks := B.notSynchronized
  have inX5 : ∀ w ∈ wsX50, w ∈ wsX5_movePlatforms := (fun w h => List.mem_cons_of_mem _ (List.mem_append_left _ (List.mem_append_left _ (List.mem_append_left _ (List.mem_append_left _ (List.mem_append_right _ h))))))
  have hP : va_P D vwCl (pool G ad (va_up σ w u)) s.heap := hP
  have hS : va_S (AA B0) s.heap s.heap [] := va_S.rf
  have hl := lv_entry ([.ref (ad (18*w+0))]) (n := 3) (Nat.le_of_ble_eq_true rfl)
  rw [lg_entry_eq]
  generalize (lg_sl ([.ref (ad (18*w+0))]) ++ List.replicate (3 - (lg_sl ([.ref (ad (18*w+0))])).length) Slot.unset).toArray = ls at hl ⊢
  have hl : lv_has ls 3 [(0, .ref (ad (18*w+0)))] := hl
  obtain ⟨FF, hFF⟩ : ∃ z, z = f5_movePlatforms u := ⟨_, rfl⟩
  have hF := hFF.symm
  rw [f5_movePlatforms] at hF
  refine lv_iconst (v := 0) hx hb dX5_movePlatforms_0 (by decide) ?_
  refine lv_istore_n (lv' := [(1, .int 0), (0, .ref (ad (18*w+0)))]) hx hb dX5_movePlatforms_1 rfl hl (by decide) rfl (fun ls hl => ?_)
  have L2 : ∀ (n2 : Nat) (w1_2 : Int32) (u_2 : (Nat → Int32)) (H : Heap) (locs : List Loc) (ls : Array Slot), (4 - w1_2.toInt).toNat < n2 → 0 ≤ w1_2 → okW u_2 → va_P D vwCl (pool G ad (va_up σ w u_2)) H → va_S (AA B0) s.heap H locs → lv_has ls 3 [(1, .int w1_2), (0, .ref (ad (18*w+0)))] → f5_movePlatforms_L2 n2 w1_2 u_2 = FF → W p l e (headSpec wsX5_movePlatforms { frames := 5, cells := 0, slots := 0, locals := 129 }).room s m ([.ref (ad (18*w+0))] : List Value).toArray below meth c H locs 0 0 (MQ below (va_Qv (fun (z : Nat → Int32) => z = f5_movePlatforms u ∧ okW z) (fun (z : Nat → Int32) => Ho D G ad (va_up σ w z)) (AA B0)) ([.ref (ad (18*w+0))] : List Value).toArray s 0 0 (AA B0)) (F0 m 2 ls []) := by
    intro n2
    induction n2 with
    | zero => intro w1_2 u_2 H locs ls hm; exact absurd hm (Nat.not_lt_zero _)
    | succ n2 ih2 =>
      intro w1_2 u_2 H locs ls hm2 h1 hO hP hS hl hF
      rw [f5_movePlatforms_L2] at hF
      refine lv_iload_n hx hb dX5_movePlatforms_2 rfl (lv_at hl 0 rfl) ?_
      refine lv_aload_n hx hb dX5_movePlatforms_3 rfl (lv_at hl 1 rfl) ?_
      refine va_get (D := D) (ci := 7) (C := RX5) (T := TX5) (N := 7) hx hb hts inX5 hown hK hP (18*w+0) (c_o hw) rfl 5 (by decide) (hts (.fieldLink RX5 44 "TileRunners$World" "platformCount" "I") (List.mem_of_getElem? (i := 1) rfl)) (fun _ h9 => h9) rfl dX5_movePlatforms_4 ?_
      refine lv_icmp_ge (tgt := 62) hx hb dX5_movePlatforms_7 (by decide) (fun c7 => ?_) (fun c7 => ?_)
      · have hF := ift c7 hF
        exact W.vret hx hb hr (fun t ht hW => ⟨⟨u_2, rfl, ⟨hF.trans hFF, hO⟩, ho_of ht hP⟩, hS.F ht⟩) hS.2.2 dX5_movePlatforms_62
      · have hF := iff_ c7 hF
        have hi1 : vp_in w1_2 4 := in_n h1 (nle_lt c7) hO.2.2.2
        refine lv_iconst (v := 0) hx hb dX5_movePlatforms_10 (by decide) ?_
        refine lv_istore_n (lv' := [(2, .int 0), (1, .int w1_2), (0, .ref (ad (18*w+0)))]) hx hb dX5_movePlatforms_11 rfl hl (by decide) rfl (fun ls hl => ?_)
        have L12 : ∀ (n12 : Nat) (w2_12 : Int32) (u_12 : (Nat → Int32)) (H : Heap) (locs : List Loc) (ls : Array Slot), (4 - w2_12.toInt).toNat < n12 → 0 ≤ w2_12 → okW u_12 → va_P D vwCl (pool G ad (va_up σ w u_12)) H → va_S (AA B0) s.heap H locs → lv_has ls 3 [(2, .int w2_12), (1, .int w1_2), (0, .ref (ad (18*w+0)))] → f5_movePlatforms_L12 (f5_movePlatforms_L2 n2) w1_2 n12 w2_12 u_12 = FF → W p l e (headSpec wsX5_movePlatforms { frames := 5, cells := 0, slots := 0, locals := 129 }).room s m ([.ref (ad (18*w+0))] : List Value).toArray below meth c H locs 0 0 (MQ below (va_Qv (fun (z : Nat → Int32) => z = f5_movePlatforms u ∧ okW z) (fun (z : Nat → Int32) => Ho D G ad (va_up σ w z)) (AA B0)) ([.ref (ad (18*w+0))] : List Value).toArray s 0 0 (AA B0)) (F0 m 12 ls []) := by
          intro n12
          induction n12 with
          | zero => intro w2_12 u_12 H locs ls hm; exact absurd hm (Nat.not_lt_zero _)
          | succ n12 ih12 =>
            intro w2_12 u_12 H locs ls hm12 h2 hO hP hS hl hF
            rw [f5_movePlatforms_L12] at hF
            refine lv_iload_n hx hb dX5_movePlatforms_12 rfl (lv_at hl 0 rfl) ?_
            refine lv_aload_n hx hb dX5_movePlatforms_13 rfl (lv_at hl 2 rfl) ?_
            refine va_get (D := D) (ci := 7) (C := RX5) (T := TX5) (N := 7) hx hb hts inX5 hown hK hP (18*w+0) (c_o hw) rfl 4 (by decide) (hts (.fieldLink RX5 40 "TileRunners$World" "bodyCount" "I") (List.mem_of_getElem? (i := 2) rfl)) (fun _ h9 => h9) rfl dX5_movePlatforms_14 ?_
            refine lv_icmp_ge (tgt := 47) hx hb dX5_movePlatforms_17 (by decide) (fun c17 => ?_) (fun c17 => ?_)
            · have hF := ift c17 hF
              refine lv_aload_n hx hb dX5_movePlatforms_47 rfl (lv_at hl 2 rfl) ?_
              refine va_get (D := D) (ci := 7) (C := RX5) (T := TX5) (N := 7) hx hb hts inX5 hown hK hP (18*w+0) (c_o hw) rfl 2 (by decide) (hts (.fieldLink RX5 26 "TileRunners$World" "platforms" "[LTileRunners$Platform;") (List.mem_of_getElem? (i := 5) rfl)) (fun _ h9 => h9) rfl dX5_movePlatforms_48 ?_
              refine lv_iload_n hx hb dX5_movePlatforms_51 rfl (lv_at hl 1 rfl) ?_
              have hi_52 : w1_2.toNatClampNeg < 4 := in_lt (i := w1_2) hi1
              refine pqald (t0 := 3) (i := w1_2) hx hb hK hP (c_ps hw) rfl hi1 dX5_movePlatforms_52 ?_
              refine va_callv (va_runV (As := []) (rest := []) ⟨hx, hb, hml, hown, hts⟩ (c2_move l hA σ u_12 w hw w1_2.toNatClampNeg hi_52 hO) (cwV 0 hts gX5_movePlatforms_X2_move rfl rfl rfl hd_X2_moveV ⟨Nat.le_of_ble_eq_true rfl, Nat.le_of_ble_eq_true rfl⟩) ⟨hp_blind, va_recv hK hP (ci := 4) (q0 := 18*w+(14+w1_2.toNatClampNeg)) rfl (c_p hw hi_52), hp_pre hK hN hP⟩ rfl rfl hl.1 rfl (lv_room (Nat.le_of_ble_eq_true rfl)) dX5_movePlatforms_53 ⟨Nat.zero_le _, Nat.zero_le _⟩) hS (fun _ _ h => h) (fun _ h => h) (fun u9 t H locs ht hvm hw9 hB hz1 hk1 hS => ?_)
              have hP := ho_at ht hB
              obtain ⟨eq53, ok9⟩ := hw9
              obtain ⟨u53, e_u53⟩ : ∃ z, z = u9 := ⟨_, rfl⟩
              rw [← e_u53] at hP eq53 ok9
              have hO := ok9
              have hF := bnd_s eq53 hF
              obtain ⟨v1_56, e_v1_56⟩ : ∃ z : Int32, z = w1_2 + 1 := ⟨_, rfl⟩
              have hF := bnd_s e_v1_56 hF
              refine lv_iinc (v := v1_56) (lv' := [(1, .int v1_56), (2, .int w2_12), (0, .ref (ad (18*w+0)))]) hx hb dX5_movePlatforms_56 hl (k := 1) rfl (by rw [e_v1_56]; rfl) (by decide) rfl (fun ls hl => ?_)
              refine lv_goto (tgt := 2) hx hb dX5_movePlatforms_59 (by decide) ?_
              exact ih2 v1_56 u53 _ _ ls (ms_s (dec_i4 hi1 e_v1_56) hm2) (ge0_i4 hi1 e_v1_56) hO hP hS (lv_sub hl [0, 2] rfl) hF
            · have hF := iff_ c17 hF
              have hi2 : vp_in w2_12 4 := in_n h2 (nle_lt c17) hO.2.1
              refine lv_aload_n hx hb dX5_movePlatforms_20 rfl (lv_at hl 2 rfl) ?_
              refine va_get (D := D) (ci := 7) (C := RX5) (T := TX5) (N := 7) hx hb hts inX5 hown hK hP (18*w+0) (c_o hw) rfl 3 (by decide) (hts (.fieldLink RX5 30 "TileRunners$World" "carriers" "[I") (List.mem_of_getElem? (i := 3) rfl)) (fun _ h9 => h9) rfl dX5_movePlatforms_21 ?_
              refine lv_iload_n hx hb dX5_movePlatforms_24 rfl (lv_at hl 0 rfl) ?_
              refine pald (n := 4) (o := 470) (t := 470+w2_12.toNatClampNeg) (i := w2_12) hx hb hK hP (c_a hw) hi2 rfl dX5_movePlatforms_25 ?_
              refine lv_iload_n hx hb dX5_movePlatforms_26 rfl (lv_at hl 1 rfl) ?_
              have J41 : ∀ (u_41 : (Nat → Int32)) (H : Heap) (locs : List Loc) (ls : Array Slot), okW u_41 → va_P D vwCl (pool G ad (va_up σ w u_41)) H → va_S (AA B0) s.heap H locs → lv_has ls 3 [(2, .int w2_12), (1, .int w1_2), (0, .ref (ad (18*w+0)))] → f5_movePlatforms_b41 (f5_movePlatforms_L12 (f5_movePlatforms_L2 n2) w1_2 n12) w2_12 u_41 = FF → W p l e (headSpec wsX5_movePlatforms { frames := 5, cells := 0, slots := 0, locals := 129 }).room s m ([.ref (ad (18*w+0))] : List Value).toArray below meth c H locs 0 0 (MQ below (va_Qv (fun (z : Nat → Int32) => z = f5_movePlatforms u ∧ okW z) (fun (z : Nat → Int32) => Ho D G ad (va_up σ w z)) (AA B0)) ([.ref (ad (18*w+0))] : List Value).toArray s 0 0 (AA B0)) (F0 m 41 ls []) := by
                intro u_41 H locs ls hO hP hS hl hF
                rw [f5_movePlatforms_b41] at hF
                obtain ⟨v2_41, e_v2_41⟩ : ∃ z : Int32, z = w2_12 + 1 := ⟨_, rfl⟩
                have hF := bnd_s e_v2_41 hF
                refine lv_iinc (v := v2_41) (lv' := [(2, .int v2_41), (1, .int w1_2), (0, .ref (ad (18*w+0)))]) hx hb dX5_movePlatforms_41 hl (k := 0) rfl (by rw [e_v2_41]; rfl) (by decide) rfl (fun ls hl => ?_)
                refine lv_goto (tgt := 12) hx hb dX5_movePlatforms_44 (by decide) ?_
                exact ih12 v2_41 u_41 _ _ ls (ms_s (dec_i4 hi2 e_v2_41) hm12) (ge0_i4 hi2 e_v2_41) hO hP hS (lv_sub hl [0, 1, 2] rfl) hF
              refine lv_icmp_ne (tgt := 41) hx hb dX5_movePlatforms_27 (by decide) (fun c27 => ?_) (fun c27 => ?_)
              · have hF := iff_ c27 hF
                exact J41 u_12 _ _ ls hO hP hS (lv_sub hl [0, 1, 2] rfl) hF
              · have hF := ift c27 hF
                refine lv_aload_n hx hb dX5_movePlatforms_30 rfl (lv_at hl 2 rfl) ?_
                refine lv_aload_n hx hb dX5_movePlatforms_31 rfl (lv_at hl 2 rfl) ?_
                refine va_get (D := D) (ci := 7) (C := RX5) (T := TX5) (N := 7) hx hb hts inX5 hown hK hP (18*w+0) (c_o hw) rfl 1 (by decide) (hts (.fieldLink RX5 20 "TileRunners$World" "bodies" "[LTileRunners$Body;") (List.mem_of_getElem? (i := 4) rfl)) (fun _ h9 => h9) rfl dX5_movePlatforms_32 ?_
                refine lv_iload_n hx hb dX5_movePlatforms_35 rfl (lv_at hl 0 rfl) ?_
                have hi_36 : w2_12.toNatClampNeg < 4 := in_lt (i := w2_12) hi2
                refine pqald (t0 := 2) (i := w2_12) hx hb hK hP (c_bs hw) rfl hi2 dX5_movePlatforms_36 ?_
                refine lv_iload_n hx hb dX5_movePlatforms_37 rfl (lv_at hl 1 rfl) ?_
                refine va_callv (va_runV (As := [.ref (ad (18*w+(6+2*w2_12.toNatClampNeg))), .int w1_2]) (rest := []) ⟨hx, hb, hml, hown, hts⟩ (c5_carry l hA σ u_12 w hw w2_12.toNatClampNeg hi_36 w1_2 hO hi1) (cwV 2 hts gX5_movePlatforms_X5_carry rfl rfl rfl hd_X5_carryV ⟨Nat.le_of_ble_eq_true rfl, Nat.le_of_ble_eq_true rfl⟩) ⟨hp_blind, va_recv hK hP (ci := 7) (q0 := 18*w+0) rfl (c_o hw), hp_pre hK hN hP⟩ rfl rfl hl.1 rfl (lv_room (Nat.le_of_ble_eq_true rfl)) dX5_movePlatforms_38 ⟨Nat.zero_le _, Nat.zero_le _⟩) hS (fun _ _ h => h) (fun _ h => h) (fun u9 t H locs ht hvm hw9 hB hz1 hk1 hS => ?_)
                have hP := ho_at ht hB
                obtain ⟨eq38, ok9⟩ := hw9
                obtain ⟨u38, e_u38⟩ : ∃ z, z = u9 := ⟨_, rfl⟩
                rw [← e_u38] at hP eq38 ok9
                have hO := ok9
                have hF := bnd_s eq38 hF
                exact J41 u38 _ _ ls hO hP hS (lv_sub hl [0, 1, 2] rfl) hF
        exact L12 BIG 0 u_2 _ _ ls (big_i4 _) le0 hO hP hS (lv_sub hl [0, 1, 2] rfl) hF
  exact L2 BIG 0 u _ _ ls (big_i4 _) le0 hO hP hS (lv_sub hl [0, 1] rfl) hF
theorem hd_X5_movePlatformsV : yX5_movePlatforms.cls = RX5 ∧ yX5_movePlatforms.cls ≠ "java/lang/invoke/MethodHandle" ∧ yX5_movePlatforms.cls ≠ "java/lang/invoke/VarHandle" ∧ (parseMethodDescriptor yX5_movePlatforms.desc).map (fun d => d.parameters.length) = some 0 := by decide +kernel
set_option maxHeartbeats 4000000 in
set_option maxRecDepth 100000 in
theorem c5_senseStanding (l : Launch) {D : va_G} {G : CY} {ad : Nat → Nat} {B0 : Nat} (hA : adOK B0 ad) (σ : Nat → Nat → Int32) (u : Nat → Int32) (w : Nat) (hw : w < 15) (i : Nat) (hi : i < 4) (a : Int32) (hO : okW u) : Met l yX5_senseStanding wsX5_senseStanding { frames := 4, cells := 0, slots := 0, locals := 98 } (va_Pc [.ref (ad (18*w+0)), .ref (ad (18*w+(6+2*i))), .int a] (Hp D G ad (va_up σ w u))) (va_Qi (fun (r : Int32) (z : Nat → Int32) => (r, z) = f5_senseStanding u i a ∧ okW z ∧ bl r) (fun (z : Nat → Int32) => Ho D G ad (va_up σ w z)) (AA B0)) 0 0 (AA B0) := by
  refine Met.ofW (cc := cX5_senseStanding) (maxL := 3) (ret := (some .boolean)) (by decide) rfl ?_
  intro p e s m args below meth c s₁ B hml hv
  obtain ⟨rfl, hP, hK, hN⟩ := hv
  have hx := B.exec
  have hb := B.bytes
  have hr := B.returns
  have hts := atoms_spec (ws := wsX5_senseStanding) B.pre
  have hown : s.vm.findClass RX5 = some m.cls := findClass_of_methodNamed B.named
  have hlocks := B.notSynchronized
  have inX0 : ∀ w ∈ wsX00, w ∈ wsX5_senseStanding := (fun w h => List.mem_cons_of_mem _ (List.mem_append_left _ (List.mem_append_left _ (List.mem_append_left _ (List.mem_append_left _ (List.mem_append_right _ h))))))
  have hP : va_P D vwCl (pool G ad (va_up σ w u)) s.heap := hP
  have hS : va_S (AA B0) s.heap s.heap [] := va_S.rf
  have hl := lv_entry ([.ref (ad (18*w+0)), .ref (ad (18*w+(6+2*i))), .int a]) (n := 3) (Nat.le_of_ble_eq_true rfl)
  rw [lg_entry_eq]
  generalize (lg_sl ([.ref (ad (18*w+0)), .ref (ad (18*w+(6+2*i))), .int a]) ++ List.replicate (3 - (lg_sl ([.ref (ad (18*w+0)), .ref (ad (18*w+(6+2*i))), .int a])).length) Slot.unset).toArray = ls at hl ⊢
  have hl : lv_has ls 3 [(0, .ref (ad (18*w+0))), (1, .ref (ad (18*w+(6+2*i)))), (2, .int a)] := hl
  obtain ⟨FF, hFF⟩ : ∃ z, z = f5_senseStanding u i a := ⟨_, rfl⟩
  have hF := hFF.symm
  rw [f5_senseStanding] at hF
  refine lv_aload_n hx hb dX5_senseStanding_0 rfl (lv_at hl 0 rfl) ?_
  refine lv_aload_n hx hb dX5_senseStanding_1 rfl (lv_at hl 1 rfl) ?_
  refine va_calli (va_runV (As := [.ref (ad (18*w+(6+2*i)))]) (rest := []) ⟨hx, hb, hml, hown, hts⟩ (c5_isStanding l hA σ u w hw i hi hO) (cwV 1 hts gX5_senseStanding_X5_isStanding rfl rfl rfl hd_X5_isStandingV ⟨Nat.le_of_ble_eq_true rfl, Nat.le_of_ble_eq_true rfl⟩) ⟨hp_blind, va_recv hK hP (ci := 7) (q0 := 18*w+0) rfl (c_o hw), hp_pre hK hN hP⟩ rfl rfl hl.1 rfl (lv_room (Nat.le_of_ble_eq_true rfl)) dX5_senseStanding_2 ⟨Nat.zero_le _, Nat.zero_le _⟩) hS (fun _ _ h => h) (fun _ h => h) (fun r2 _ t H locs ht hvm hw9 hB hz1 hk1 hS => ?_)
  have hP := ho_at ht hB
  obtain ⟨eq2, hb_r2⟩ := hw9
  have hF := bnd_s eq2 hF
  refine lv_if_eq (tgt := 25) hx hb dX5_senseStanding_5 (by decide) (fun c5 => ?_) (fun c5 => ?_)
  · have hF := ift c5 hF
    refine lv_aload_n hx hb dX5_senseStanding_25 rfl (lv_at hl 1 rfl) ?_
    refine va_get (D := D) (ci := 2) (C := RX0) (T := TX0) (N := 16) hx hb hts inX0 hown hK hP (18*w+(6+2*i)) (c_b hw hi) rfl 8 (by decide) (hts (.fieldLink RX5 182 "TileRunners$Body" "late" "I") (List.mem_of_getElem? (i := 1) rfl)) (fun _ h9 => h9) rfl dX5_senseStanding_26 ?_
    refine lv_if_le (tgt := 42) hx hb dX5_senseStanding_29 (by decide) (fun c29 => ?_) (fun c29 => ?_)
    · have hF := ift c29 hF
      refine lv_iconst (v := 0) hx hb dX5_senseStanding_42 (by decide) ?_
      exact W.zret (v := 0) hx hb hr (bl_nar bl0) (fun t ht hW => ⟨⟨0, u, rfl, ⟨hF.trans hFF, hO, bl0⟩, ho_of ht hP⟩, hS.F ht⟩) hS.2.2 dX5_senseStanding_43
    · have hF := iff_ c29 hF
      refine lv_aload_n hx hb dX5_senseStanding_32 rfl (lv_at hl 1 rfl) ?_
      refine lv_dup hx hb dX5_senseStanding_33 rfl ?_
      refine va_get (D := D) (ci := 2) (C := RX0) (T := TX0) (N := 16) hx hb hts inX0 hown hK hP (18*w+(6+2*i)) (c_b hw hi) rfl 8 (by decide) (hts (.fieldLink RX5 182 "TileRunners$Body" "late" "I") (List.mem_of_getElem? (i := 1) rfl)) (fun _ h9 => h9) rfl dX5_senseStanding_34 ?_
      refine lv_iconst (v := 1) hx hb dX5_senseStanding_37 (by decide) ?_
      refine lv_isub hx hb dX5_senseStanding_38 ?_
      refine pput hx hb hts inX0 tyX0 tyX0_ok nmX0 hown hK hP hA hS hw (j := 6+2*i) (by omega) (wcel_b hi) rfl 8 (by decide) (hts (.fieldLink RX5 182 "TileRunners$Body" "late" "I") (List.mem_of_getElem? (i := 1) rfl)) (fun _ h9 => h9) rfl (tyX0_ok 8 (by decide)) rfl rfl (Nat.le_of_ble_eq_true rfl) (336+24*i+4) (own_b hi (by decide) (by decide)) (setB_8 hi) dX5_senseStanding_39 (fun u9 H locs eu9 hP hS => ?_)
      obtain ⟨u39, e_u39⟩ : ∃ z, z = u9 := ⟨_, rfl⟩
      rw [← e_u39] at hP eu9
      have hF := bnd_s eu9 hF
      have hO := okW_up eu9 hO (by omega) (by omega)
      refine lv_iconst (v := 0) hx hb dX5_senseStanding_42 (by decide) ?_
      exact W.zret (v := 0) hx hb hr (bl_nar bl0) (fun t ht hW => ⟨⟨0, u39, rfl, ⟨hF.trans hFF, hO, bl0⟩, ho_of ht hP⟩, hS.F ht⟩) hS.2.2 dX5_senseStanding_43
  · have hF := iff_ c5 hF
    refine lv_aload_n hx hb dX5_senseStanding_8 rfl (lv_at hl 1 rfl) ?_
    refine lv_iload_n hx hb dX5_senseStanding_9 rfl (lv_at hl 2 rfl) ?_
    refine pput hx hb hts inX0 tyX0 tyX0_ok nmX0 hown hK hP hA hS hw (j := 6+2*i) (by omega) (wcel_b hi) rfl 8 (by decide) (hts (.fieldLink RX5 182 "TileRunners$Body" "late" "I") (List.mem_of_getElem? (i := 1) rfl)) (fun _ h9 => h9) rfl (tyX0_ok 8 (by decide)) rfl rfl (Nat.le_of_ble_eq_true rfl) (336+24*i+4) (own_b hi (by decide) (by decide)) (setB_8 hi) dX5_senseStanding_10 (fun u9 H locs eu9 hP hS => ?_)
    obtain ⟨u10, e_u10⟩ : ∃ z, z = u9 := ⟨_, rfl⟩
    rw [← e_u10] at hP eu9
    have hF := bnd_s eu9 hF
    have hO := okW_up eu9 hO (by omega) (by omega)
    refine lv_aload_n hx hb dX5_senseStanding_13 rfl (lv_at hl 1 rfl) ?_
    refine va_get (D := D) (ci := 2) (C := RX0) (T := TX0) (N := 16) hx hb hts inX0 hown hK hP (18*w+(6+2*i)) (c_b hw hi) rfl 15 (by decide) (hts (.fieldLink RX5 185 "TileRunners$Body" "statistics" "[I") (List.mem_of_getElem? (i := 2) rfl)) (fun _ h9 => h9) rfl dX5_senseStanding_14 ?_
    refine lv_iconst (v := 5) hx hb dX5_senseStanding_17 (by decide) ?_
    refine lv_dup2_11 hx hb dX5_senseStanding_18 rfl rfl ?_
    refine pald (n := 7) (o := 336+24*i+14) (t := 336+24*i+19) (i := 5) hx hb hK hP (c_s hw hi) (vp_in_iff.mpr (by decide)) rfl dX5_senseStanding_19 ?_
    refine lv_iconst (v := 1) hx hb dX5_senseStanding_20 (by decide) ?_
    refine lv_iadd hx hb dX5_senseStanding_21 ?_
    have hin9 : vp_in 5 7 := (vp_in_iff.mpr (by decide))
    refine past (n := 7) (o := 336+24*i+14) (t := 336+24*i+19) hx hb hK hP hA hS hw (j := 7+2*i) (by omega) (fun _ => wcel_s hi) (fun k9 hk9 => own_s hi hk9) hin9 rfl dX5_senseStanding_22 (fun u9 H locs eu9 hP hS => ?_)
    have hlt9 := in_lt hin9
    obtain ⟨u22, e_u22⟩ : ∃ z, z = u9 := ⟨_, rfl⟩
    rw [← e_u22] at hP eu9
    have hF := bnd_s eu9 hF
    have hO := okW_up eu9 hO (by omega) (by omega)
    refine lv_iconst (v := 1) hx hb dX5_senseStanding_23 (by decide) ?_
    exact W.zret (v := 1) hx hb hr (bl_nar bl1) (fun t ht hW => ⟨⟨1, u22, rfl, ⟨hF.trans hFF, hO, bl1⟩, ho_of ht hP⟩, hS.F ht⟩) hS.2.2 dX5_senseStanding_24
theorem hd_X5_senseStandingV : yX5_senseStanding.cls = RX5 ∧ yX5_senseStanding.cls ≠ "java/lang/invoke/MethodHandle" ∧ yX5_senseStanding.cls ≠ "java/lang/invoke/VarHandle" ∧ (parseMethodDescriptor yX5_senseStanding.desc).map (fun d => d.parameters.length) = some 2 := by decide +kernel
set_option maxHeartbeats 4000000 in
set_option maxRecDepth 100000 in
theorem c5_senseJumpKey (l : Launch) {D : va_G} {G : CY} {ad : Nat → Nat} {B0 : Nat} (hA : adOK B0 ad) (σ : Nat → Nat → Int32) (u : Nat → Int32) (w : Nat) (hw : w < 15) (i : Nat) (hi : i < 4) (a : Int32) (hO : okW u) : Met l yX5_senseJumpKey wsX5_senseJumpKey { frames := 1, cells := 0, slots := 0, locals := 21 } (va_Pc [.ref (ad (18*w+0)), .ref (ad (18*w+(6+2*i))), .int a] (Hp D G ad (va_up σ w u))) (va_Qv (fun (z : Nat → Int32) => z = f5_senseJumpKey u i a ∧ okW z) (fun (z : Nat → Int32) => Ho D G ad (va_up σ w z)) (AA B0)) 0 0 (AA B0) := by
  refine Met.ofW (cc := cX5_senseJumpKey) (maxL := 3) (ret := none) (by decide) rfl ?_
  intro p e s m args below meth c s₁ B hml hv
  obtain ⟨rfl, hP, hK, hN⟩ := hv
  have hx := B.exec
  have hb := B.bytes
  have hr := B.returns
  have hts := atoms_spec (ws := wsX5_senseJumpKey) B.pre
  have hown : s.vm.findClass RX5 = some m.cls := findClass_of_methodNamed B.named
  have hlocks := B.notSynchronized
  have inX0 : ∀ w ∈ wsX00, w ∈ wsX5_senseJumpKey := (fun w h => List.mem_cons_of_mem _ (List.mem_append_right _ h))
  have hP : va_P D vwCl (pool G ad (va_up σ w u)) s.heap := hP
  have hS : va_S (AA B0) s.heap s.heap [] := va_S.rf
  have hl := lv_entry ([.ref (ad (18*w+0)), .ref (ad (18*w+(6+2*i))), .int a]) (n := 3) (Nat.le_of_ble_eq_true rfl)
  rw [lg_entry_eq]
  generalize (lg_sl ([.ref (ad (18*w+0)), .ref (ad (18*w+(6+2*i))), .int a]) ++ List.replicate (3 - (lg_sl ([.ref (ad (18*w+0)), .ref (ad (18*w+(6+2*i))), .int a])).length) Slot.unset).toArray = ls at hl ⊢
  have hl : lv_has ls 3 [(0, .ref (ad (18*w+0))), (1, .ref (ad (18*w+(6+2*i)))), (2, .int a)] := hl
  obtain ⟨FF, hFF⟩ : ∃ z, z = f5_senseJumpKey u i a := ⟨_, rfl⟩
  have hF := hFF.symm
  rw [f5_senseJumpKey] at hF
  refine lv_aload_n hx hb dX5_senseJumpKey_0 rfl (lv_at hl 1 rfl) ?_
  refine lv_iconst (v := 4) hx hb dX5_senseJumpKey_1 (by decide) ?_
  refine va_calli (va_runV (As := [.int 4]) (rest := []) ⟨hx, hb, hml, hown, hts⟩ (c0_holds l hA σ u w hw i hi 4 ) (cwV 1 hts gX5_senseJumpKey_X0_holds rfl rfl rfl hd_X0_holdsV ⟨Nat.le_of_ble_eq_true rfl, Nat.le_of_ble_eq_true rfl⟩) ⟨hp_blind, va_recv hK hP (ci := 2) (q0 := 18*w+(6+2*i)) rfl (c_b hw hi), hp_pre hK hN hP⟩ rfl rfl hl.1 rfl (lv_room (Nat.le_of_ble_eq_true rfl)) dX5_senseJumpKey_2 ⟨Nat.zero_le _, Nat.zero_le _⟩) hS (fun _ _ h => h) (fun _ h => h) (fun r2 _ t H locs ht hvm hw9 hB hz1 hk1 hS => ?_)
  have hP := ho_at ht hB
  obtain ⟨eq2, hb_r2⟩ := hw9
  have hF := bnd_s eq2 hF
  have J25 : ∀  (H : Heap) (locs : List Loc) (ls : Array Slot), va_P D vwCl (pool G ad (va_up σ w u)) H → va_S (AA B0) s.heap H locs → lv_has ls 3 [(1, .ref (ad (18*w+(6+2*i))))] → f5_senseJumpKey_b25 u i  = FF → W p l e (headSpec wsX5_senseJumpKey { frames := 1, cells := 0, slots := 0, locals := 21 }).room s m ([.ref (ad (18*w+0)), .ref (ad (18*w+(6+2*i))), .int a] : List Value).toArray below meth c H locs 0 0 (MQ below (va_Qv (fun (z : Nat → Int32) => z = f5_senseJumpKey u i a ∧ okW z) (fun (z : Nat → Int32) => Ho D G ad (va_up σ w z)) (AA B0)) ([.ref (ad (18*w+0)), .ref (ad (18*w+(6+2*i))), .int a] : List Value).toArray s 0 0 (AA B0)) (F0 m 25 ls []) := by
    intro  H locs ls hP hS hl hF
    rw [f5_senseJumpKey_b25] at hF
    refine lv_aload_n hx hb dX5_senseJumpKey_25 rfl (lv_at hl 0 rfl) ?_
    refine va_get (D := D) (ci := 2) (C := RX0) (T := TX0) (N := 16) hx hb hts inX0 hown hK hP (18*w+(6+2*i)) (c_b hw hi) rfl 9 (by decide) (hts (.fieldLink RX5 195 "TileRunners$Body" "buffer" "I") (List.mem_of_getElem? (i := 2) rfl)) (fun _ h9 => h9) rfl dX5_senseJumpKey_26 ?_
    refine lv_if_le (tgt := 42) hx hb dX5_senseJumpKey_29 (by decide) (fun c29 => ?_) (fun c29 => ?_)
    · have hF := ift c29 hF
      exact W.vret hx hb hr (fun t ht hW => ⟨⟨u, rfl, ⟨hF.trans hFF, hO⟩, ho_of ht hP⟩, hS.F ht⟩) hS.2.2 dX5_senseJumpKey_42
    · have hF := iff_ c29 hF
      refine lv_aload_n hx hb dX5_senseJumpKey_32 rfl (lv_at hl 0 rfl) ?_
      refine lv_dup hx hb dX5_senseJumpKey_33 rfl ?_
      refine va_get (D := D) (ci := 2) (C := RX0) (T := TX0) (N := 16) hx hb hts inX0 hown hK hP (18*w+(6+2*i)) (c_b hw hi) rfl 9 (by decide) (hts (.fieldLink RX5 195 "TileRunners$Body" "buffer" "I") (List.mem_of_getElem? (i := 2) rfl)) (fun _ h9 => h9) rfl dX5_senseJumpKey_34 ?_
      refine lv_iconst (v := 1) hx hb dX5_senseJumpKey_37 (by decide) ?_
      refine lv_isub hx hb dX5_senseJumpKey_38 ?_
      refine pput hx hb hts inX0 tyX0 tyX0_ok nmX0 hown hK hP hA hS hw (j := 6+2*i) (by omega) (wcel_b hi) rfl 9 (by decide) (hts (.fieldLink RX5 195 "TileRunners$Body" "buffer" "I") (List.mem_of_getElem? (i := 2) rfl)) (fun _ h9 => h9) rfl (tyX0_ok 9 (by decide)) rfl rfl (Nat.le_of_ble_eq_true rfl) (336+24*i+5) (own_b hi (by decide) (by decide)) (setB_9 hi) dX5_senseJumpKey_39 (fun u9 H locs eu9 hP hS => ?_)
      obtain ⟨u39, e_u39⟩ : ∃ z, z = u9 := ⟨_, rfl⟩
      rw [← e_u39] at hP eu9
      have hF := bnd_s eu9 hF
      have hO := okW_up eu9 hO (by omega) (by omega)
      exact W.vret hx hb hr (fun t ht hW => ⟨⟨u39, rfl, ⟨hF.trans hFF, hO⟩, ho_of ht hP⟩, hS.F ht⟩) hS.2.2 dX5_senseJumpKey_42
  refine lv_if_eq (tgt := 25) hx hb dX5_senseJumpKey_5 (by decide) (fun c5 => ?_) (fun c5 => ?_)
  · have hF := ift c5 hF
    exact J25  _ _ ls hP hS (lv_sub hl [1] rfl) hF
  · have hF := iff_ c5 hF
    refine lv_aload_n hx hb dX5_senseJumpKey_8 rfl (lv_at hl 1 rfl) ?_
    refine va_get (D := D) (ci := 2) (C := RX0) (T := TX0) (N := 16) hx hb hts inX0 hown hK hP (18*w+(6+2*i)) (c_b hw hi) rfl 12 (by decide) (hts (.fieldLink RX5 192 "TileRunners$Body" "earlierInput" "I") (List.mem_of_getElem? (i := 1) rfl)) (fun _ h9 => h9) rfl dX5_senseJumpKey_9 ?_
    refine lv_iconst (v := 4) hx hb dX5_senseJumpKey_12 (by decide) ?_
    refine lv_iand hx hb dX5_senseJumpKey_13 ?_
    refine lv_if_ne (tgt := 25) hx hb dX5_senseJumpKey_14 (by decide) (fun c14 => ?_) (fun c14 => ?_)
    · have hF := iff_ c14 hF
      exact J25  _ _ ls hP hS (lv_sub hl [1] rfl) hF
    · have hF := ift c14 hF
      refine lv_aload_n hx hb dX5_senseJumpKey_17 rfl (lv_at hl 1 rfl) ?_
      refine lv_iload_n hx hb dX5_senseJumpKey_18 rfl (lv_at hl 2 rfl) ?_
      refine pput hx hb hts inX0 tyX0 tyX0_ok nmX0 hown hK hP hA hS hw (j := 6+2*i) (by omega) (wcel_b hi) rfl 9 (by decide) (hts (.fieldLink RX5 195 "TileRunners$Body" "buffer" "I") (List.mem_of_getElem? (i := 2) rfl)) (fun _ h9 => h9) rfl (tyX0_ok 9 (by decide)) rfl rfl (Nat.le_of_ble_eq_true rfl) (336+24*i+5) (own_b hi (by decide) (by decide)) (setB_9 hi) dX5_senseJumpKey_19 (fun u9 H locs eu9 hP hS => ?_)
      obtain ⟨u19, e_u19⟩ : ∃ z, z = u9 := ⟨_, rfl⟩
      rw [← e_u19] at hP eu9
      have hF := bnd_s eu9 hF
      have hO := okW_up eu9 hO (by omega) (by omega)
      refine lv_goto (tgt := 42) hx hb dX5_senseJumpKey_22 (by decide) ?_
      exact W.vret hx hb hr (fun t ht hW => ⟨⟨u19, rfl, ⟨hF.trans hFF, hO⟩, ho_of ht hP⟩, hS.F ht⟩) hS.2.2 dX5_senseJumpKey_42
theorem hd_X5_senseJumpKeyV : yX5_senseJumpKey.cls = RX5 ∧ yX5_senseJumpKey.cls ≠ "java/lang/invoke/MethodHandle" ∧ yX5_senseJumpKey.cls ≠ "java/lang/invoke/VarHandle" ∧ (parseMethodDescriptor yX5_senseJumpKey.desc).map (fun d => d.parameters.length) = some 2 := by decide +kernel
set_option maxHeartbeats 4000000 in
set_option maxRecDepth 100000 in
theorem c5_beginsToDrop (l : Launch) {D : va_G} {G : CY} {ad : Nat → Nat} {B0 : Nat} (hA : adOK B0 ad) (σ : Nat → Nat → Int32) (u : Nat → Int32) (w : Nat) (hw : w < 15) (i : Nat) (hi : i < 4) (a : Int32) (hO : okW u) : Met l yX5_beginsToDrop wsX5_beginsToDrop { frames := 3, cells := 0, slots := 0, locals := 77 } (va_Pc [.ref (ad (18*w+0)), .ref (ad (18*w+(6+2*i))), .int a] (Hp D G ad (va_up σ w u))) (va_Qi (fun (r : Int32) (z : Nat → Int32) => (r, z) = f5_beginsToDrop u i a ∧ okW z ∧ bl r) (fun (z : Nat → Int32) => Ho D G ad (va_up σ w z)) (AA B0)) 0 0 (AA B0) := by
  refine Met.ofW (cc := cX5_beginsToDrop) (maxL := 3) (ret := (some .boolean)) (by decide) rfl ?_
  intro p e s m args below meth c s₁ B hml hv
  obtain ⟨rfl, hP, hK, hN⟩ := hv
  have hx := B.exec
  have hb := B.bytes
  have hr := B.returns
  have hts := atoms_spec (ws := wsX5_beginsToDrop) B.pre
  have hown : s.vm.findClass RX5 = some m.cls := findClass_of_methodNamed B.named
  have hlocks := B.notSynchronized
  have inX0 : ∀ w ∈ wsX00, w ∈ wsX5_beginsToDrop := (fun w h => List.mem_cons_of_mem _ (List.mem_append_left _ (List.mem_append_left _ (List.mem_append_left _ (List.mem_append_left _ (List.mem_append_right _ h))))))
  have hP : va_P D vwCl (pool G ad (va_up σ w u)) s.heap := hP
  have hS : va_S (AA B0) s.heap s.heap [] := va_S.rf
  have hl := lv_entry ([.ref (ad (18*w+0)), .ref (ad (18*w+(6+2*i))), .int a]) (n := 3) (Nat.le_of_ble_eq_true rfl)
  rw [lg_entry_eq]
  generalize (lg_sl ([.ref (ad (18*w+0)), .ref (ad (18*w+(6+2*i))), .int a]) ++ List.replicate (3 - (lg_sl ([.ref (ad (18*w+0)), .ref (ad (18*w+(6+2*i))), .int a])).length) Slot.unset).toArray = ls at hl ⊢
  have hl : lv_has ls 3 [(0, .ref (ad (18*w+0))), (1, .ref (ad (18*w+(6+2*i)))), (2, .int a)] := hl
  obtain ⟨FF, hFF⟩ : ∃ z, z = f5_beginsToDrop u i a := ⟨_, rfl⟩
  have hF := hFF.symm
  rw [f5_beginsToDrop] at hF
  refine lv_aload_n hx hb dX5_beginsToDrop_0 rfl (lv_at hl 1 rfl) ?_
  refine va_get (D := D) (ci := 2) (C := RX0) (T := TX0) (N := 16) hx hb hts inX0 hown hK hP (18*w+(6+2*i)) (c_b hw hi) rfl 10 (by decide) (hts (.fieldLink RX5 78 "TileRunners$Body" "dropping" "I") (List.mem_of_getElem? (i := 1) rfl)) (fun _ h9 => h9) rfl dX5_beginsToDrop_1 ?_
  have J17 : ∀ (u_17 : (Nat → Int32)) (H : Heap) (locs : List Loc) (ls : Array Slot), okW u_17 → va_P D vwCl (pool G ad (va_up σ w u_17)) H → va_S (AA B0) s.heap H locs → lv_has ls 3 [(0, .ref (ad (18*w+0))), (1, .ref (ad (18*w+(6+2*i)))), (2, .int a)] → f5_beginsToDrop_b17 i a u_17 = FF → W p l e (headSpec wsX5_beginsToDrop { frames := 3, cells := 0, slots := 0, locals := 77 }).room s m ([.ref (ad (18*w+0)), .ref (ad (18*w+(6+2*i))), .int a] : List Value).toArray below meth c H locs 0 0 (MQ below (va_Qi (fun (r : Int32) (z : Nat → Int32) => (r, z) = f5_beginsToDrop u i a ∧ okW z ∧ bl r) (fun (z : Nat → Int32) => Ho D G ad (va_up σ w z)) (AA B0)) ([.ref (ad (18*w+0)), .ref (ad (18*w+(6+2*i))), .int a] : List Value).toArray s 0 0 (AA B0)) (F0 m 17 ls []) := by
    intro u_17 H locs ls hO hP hS hl hF
    rw [f5_beginsToDrop_b17] at hF
    refine lv_iload_n hx hb dX5_beginsToDrop_17 rfl (lv_at hl 2 rfl) ?_
    refine lv_if_eq (tgt := 37) hx hb dX5_beginsToDrop_18 (by decide) (fun c18 => ?_) (fun c18 => ?_)
    · have hF := ift c18 hF
      refine lv_iconst (v := 0) hx hb dX5_beginsToDrop_37 (by decide) ?_
      exact W.zret (v := 0) hx hb hr (bl_nar bl0) (fun t ht hW => ⟨⟨0, u_17, rfl, ⟨hF.trans hFF, hO, bl0⟩, ho_of ht hP⟩, hS.F ht⟩) hS.2.2 dX5_beginsToDrop_38
    · have hF := iff_ c18 hF
      refine lv_aload_n hx hb dX5_beginsToDrop_21 rfl (lv_at hl 1 rfl) ?_
      refine lv_bipush (v := 8) hx hb dX5_beginsToDrop_22 (by decide) ?_
      refine va_calli (va_runV (As := [.int 8]) (rest := []) ⟨hx, hb, hml, hown, hts⟩ (c0_holds l hA σ u_17 w hw i hi 8 ) (cwV 1 hts gX5_beginsToDrop_X0_holds rfl rfl rfl hd_X0_holdsV ⟨Nat.le_of_ble_eq_true rfl, Nat.le_of_ble_eq_true rfl⟩) ⟨hp_blind, va_recv hK hP (ci := 2) (q0 := 18*w+(6+2*i)) rfl (c_b hw hi), hp_pre hK hN hP⟩ rfl rfl hl.1 rfl (lv_room (Nat.le_of_ble_eq_true rfl)) dX5_beginsToDrop_24 ⟨Nat.zero_le _, Nat.zero_le _⟩) hS (fun _ _ h => h) (fun _ h => h) (fun r24 _ t H locs ht hvm hw9 hB hz1 hk1 hS => ?_)
      have hP := ho_at ht hB
      obtain ⟨eq24, hb_r24⟩ := hw9
      have hF := bnd_s eq24 hF
      refine lv_if_eq (tgt := 37) hx hb dX5_beginsToDrop_27 (by decide) (fun c27 => ?_) (fun c27 => ?_)
      · have hF := ift c27 hF
        refine lv_iconst (v := 0) hx hb dX5_beginsToDrop_37 (by decide) ?_
        exact W.zret (v := 0) hx hb hr (bl_nar bl0) (fun t ht hW => ⟨⟨0, u_17, rfl, ⟨hF.trans hFF, hO, bl0⟩, ho_of ht hP⟩, hS.F ht⟩) hS.2.2 dX5_beginsToDrop_38
      · have hF := iff_ c27 hF
        refine lv_aload_n hx hb dX5_beginsToDrop_30 rfl (lv_at hl 1 rfl) ?_
        refine va_get (D := D) (ci := 2) (C := RX0) (T := TX0) (N := 16) hx hb hts inX0 hown hK hP (18*w+(6+2*i)) (c_b hw hi) rfl 9 (by decide) (hts (.fieldLink RX5 195 "TileRunners$Body" "buffer" "I") (List.mem_of_getElem? (i := 2) rfl)) (fun _ h9 => h9) rfl dX5_beginsToDrop_31 ?_
        refine lv_if_ne (tgt := 39) hx hb dX5_beginsToDrop_34 (by decide) (fun c34 => ?_) (fun c34 => ?_)
        · have hF := iff_ c34 hF
          refine lv_aload_n hx hb dX5_beginsToDrop_39 rfl (lv_at hl 0 rfl) ?_
          refine lv_aload_n hx hb dX5_beginsToDrop_40 rfl (lv_at hl 1 rfl) ?_
          refine lv_aload_n hx hb dX5_beginsToDrop_41 rfl (lv_at hl 1 rfl) ?_
          refine va_get (D := D) (ci := 2) (C := RX0) (T := TX0) (N := 16) hx hb hts inX0 hown hK hP (18*w+(6+2*i)) (c_b hw hi) rfl 0 (by decide) (hts (.fieldLink RX5 56 "TileRunners$Body" "x" "I") (List.mem_of_getElem? (i := 3) rfl)) (fun _ h9 => h9) rfl dX5_beginsToDrop_42 ?_
          refine lv_aload_n hx hb dX5_beginsToDrop_45 rfl (lv_at hl 1 rfl) ?_
          refine va_get (D := D) (ci := 2) (C := RX0) (T := TX0) (N := 16) hx hb hts inX0 hown hK hP (18*w+(6+2*i)) (c_b hw hi) rfl 1 (by decide) (hts (.fieldLink RX5 59 "TileRunners$Body" "y" "I") (List.mem_of_getElem? (i := 4) rfl)) (fun _ h9 => h9) rfl dX5_beginsToDrop_46 ?_
          refine lv_iconst (v := (-1)) hx hb dX5_beginsToDrop_49 (by decide) ?_
          refine va_calli (va_runV (As := [.ref (ad (18*w+(6+2*i))), .int (u_17 (336+24*i+0)), .int (u_17 (336+24*i+1)), .int (-1)]) (rest := []) ⟨hx, hb, hml, hown, hts⟩ (c5_supportAt l hA σ u_17 w hw i hi (u_17 (336+24*i+0)) (u_17 (336+24*i+1)) (-1) hO) (cwV 4 hts gX5_beginsToDrop_X5_supportAt rfl rfl rfl hd_X5_supportAtV ⟨Nat.le_of_ble_eq_true rfl, Nat.le_of_ble_eq_true rfl⟩) ⟨hp_blind, va_recv hK hP (ci := 7) (q0 := 18*w+0) rfl (c_o hw), hp_pre hK hN hP⟩ rfl rfl hl.1 rfl (lv_room (Nat.le_of_ble_eq_true rfl)) dX5_beginsToDrop_50 ⟨Nat.zero_le _, Nat.zero_le _⟩) hS (fun _ _ h => h) (fun _ h => h) (fun r50 _ t H locs ht hvm hw9 hB hz1 hk1 hS => ?_)
          have hP := ho_at ht hB
          have eq50 := hw9
          have hF := bnd_s eq50 hF
          refine lv_iconst (v := 5) hx hb dX5_beginsToDrop_53 (by decide) ?_
          refine lv_iand hx hb dX5_beginsToDrop_54 ?_
          refine lv_if_eq (tgt := 60) hx hb dX5_beginsToDrop_55 (by decide) (fun c55 => ?_) (fun c55 => ?_)
          · have hF := ift c55 hF
            refine lv_aload_n hx hb dX5_beginsToDrop_60 rfl (lv_at hl 1 rfl) ?_
            refine lv_bipush (v := 8) hx hb dX5_beginsToDrop_61 (by decide) ?_
            refine pput hx hb hts inX0 tyX0 tyX0_ok nmX0 hown hK hP hA hS hw (j := 6+2*i) (by omega) (wcel_b hi) rfl 10 (by decide) (hts (.fieldLink RX5 78 "TileRunners$Body" "dropping" "I") (List.mem_of_getElem? (i := 1) rfl)) (fun _ h9 => h9) rfl (tyX0_ok 10 (by decide)) rfl rfl (Nat.le_of_ble_eq_true rfl) (336+24*i+6) (own_b hi (by decide) (by decide)) (setB_10 hi) dX5_beginsToDrop_63 (fun u9 H locs eu9 hP hS => ?_)
            obtain ⟨u63, e_u63⟩ : ∃ z, z = u9 := ⟨_, rfl⟩
            rw [← e_u63] at hP eu9
            have hF := bnd_s eu9 hF
            have hO := okW_up eu9 hO (by omega) (by omega)
            refine lv_aload_n hx hb dX5_beginsToDrop_66 rfl (lv_at hl 1 rfl) ?_
            refine lv_iconst (v := 0) hx hb dX5_beginsToDrop_67 (by decide) ?_
            refine pput hx hb hts inX0 tyX0 tyX0_ok nmX0 hown hK hP hA hS hw (j := 6+2*i) (by omega) (wcel_b hi) rfl 9 (by decide) (hts (.fieldLink RX5 195 "TileRunners$Body" "buffer" "I") (List.mem_of_getElem? (i := 2) rfl)) (fun _ h9 => h9) rfl (tyX0_ok 9 (by decide)) rfl rfl (Nat.le_of_ble_eq_true rfl) (336+24*i+5) (own_b hi (by decide) (by decide)) (setB_9 hi) dX5_beginsToDrop_68 (fun u9 H locs eu9 hP hS => ?_)
            obtain ⟨u68, e_u68⟩ : ∃ z, z = u9 := ⟨_, rfl⟩
            rw [← e_u68] at hP eu9
            have hF := bnd_s eu9 hF
            have hO := okW_up eu9 hO (by omega) (by omega)
            refine lv_aload_n hx hb dX5_beginsToDrop_71 rfl (lv_at hl 1 rfl) ?_
            refine lv_iconst (v := 0) hx hb dX5_beginsToDrop_72 (by decide) ?_
            refine pput hx hb hts inX0 tyX0 tyX0_ok nmX0 hown hK hP hA hS hw (j := 6+2*i) (by omega) (wcel_b hi) rfl 8 (by decide) (hts (.fieldLink RX5 182 "TileRunners$Body" "late" "I") (List.mem_of_getElem? (i := 5) rfl)) (fun _ h9 => h9) rfl (tyX0_ok 8 (by decide)) rfl rfl (Nat.le_of_ble_eq_true rfl) (336+24*i+4) (own_b hi (by decide) (by decide)) (setB_8 hi) dX5_beginsToDrop_73 (fun u9 H locs eu9 hP hS => ?_)
            obtain ⟨u73, e_u73⟩ : ∃ z, z = u9 := ⟨_, rfl⟩
            rw [← e_u73] at hP eu9
            have hF := bnd_s eu9 hF
            have hO := okW_up eu9 hO (by omega) (by omega)
            refine lv_iconst (v := 1) hx hb dX5_beginsToDrop_76 (by decide) ?_
            exact W.zret (v := 1) hx hb hr (bl_nar bl1) (fun t ht hW => ⟨⟨1, u73, rfl, ⟨hF.trans hFF, hO, bl1⟩, ho_of ht hP⟩, hS.F ht⟩) hS.2.2 dX5_beginsToDrop_77
          · have hF := iff_ c55 hF
            refine lv_iconst (v := 0) hx hb dX5_beginsToDrop_58 (by decide) ?_
            exact W.zret (v := 0) hx hb hr (bl_nar bl0) (fun t ht hW => ⟨⟨0, u_17, rfl, ⟨hF.trans hFF, hO, bl0⟩, ho_of ht hP⟩, hS.F ht⟩) hS.2.2 dX5_beginsToDrop_59
        · have hF := ift c34 hF
          refine lv_iconst (v := 0) hx hb dX5_beginsToDrop_37 (by decide) ?_
          exact W.zret (v := 0) hx hb hr (bl_nar bl0) (fun t ht hW => ⟨⟨0, u_17, rfl, ⟨hF.trans hFF, hO, bl0⟩, ho_of ht hP⟩, hS.F ht⟩) hS.2.2 dX5_beginsToDrop_38
  refine lv_if_le (tgt := 17) hx hb dX5_beginsToDrop_4 (by decide) (fun c4 => ?_) (fun c4 => ?_)
  · have hF := ift c4 hF
    exact J17 u _ _ ls hO hP hS (lv_sub hl [0, 1, 2] rfl) hF
  · have hF := iff_ c4 hF
    refine lv_aload_n hx hb dX5_beginsToDrop_7 rfl (lv_at hl 1 rfl) ?_
    refine lv_dup hx hb dX5_beginsToDrop_8 rfl ?_
    refine va_get (D := D) (ci := 2) (C := RX0) (T := TX0) (N := 16) hx hb hts inX0 hown hK hP (18*w+(6+2*i)) (c_b hw hi) rfl 10 (by decide) (hts (.fieldLink RX5 78 "TileRunners$Body" "dropping" "I") (List.mem_of_getElem? (i := 1) rfl)) (fun _ h9 => h9) rfl dX5_beginsToDrop_9 ?_
    refine lv_iconst (v := 1) hx hb dX5_beginsToDrop_12 (by decide) ?_
    refine lv_isub hx hb dX5_beginsToDrop_13 ?_
    refine pput hx hb hts inX0 tyX0 tyX0_ok nmX0 hown hK hP hA hS hw (j := 6+2*i) (by omega) (wcel_b hi) rfl 10 (by decide) (hts (.fieldLink RX5 78 "TileRunners$Body" "dropping" "I") (List.mem_of_getElem? (i := 1) rfl)) (fun _ h9 => h9) rfl (tyX0_ok 10 (by decide)) rfl rfl (Nat.le_of_ble_eq_true rfl) (336+24*i+6) (own_b hi (by decide) (by decide)) (setB_10 hi) dX5_beginsToDrop_14 (fun u9 H locs eu9 hP hS => ?_)
    obtain ⟨u14, e_u14⟩ : ∃ z, z = u9 := ⟨_, rfl⟩
    rw [← e_u14] at hP eu9
    have hF := bnd_s eu9 hF
    have hO := okW_up eu9 hO (by omega) (by omega)
    exact J17 u14 _ _ ls hO hP hS (lv_sub hl [0, 1, 2] rfl) hF
theorem hd_X5_beginsToDropV : yX5_beginsToDrop.cls = RX5 ∧ yX5_beginsToDrop.cls ≠ "java/lang/invoke/MethodHandle" ∧ yX5_beginsToDrop.cls ≠ "java/lang/invoke/VarHandle" ∧ (parseMethodDescriptor yX5_beginsToDrop.desc).map (fun d => d.parameters.length) = some 2 := by decide +kernel
set_option maxHeartbeats 4000000 in
set_option maxRecDepth 100000 in
theorem c5_steer (l : Launch) {D : va_G} {G : CY} {ad : Nat → Nat} {B0 : Nat} (hA : adOK B0 ad) (σ : Nat → Nat → Int32) (u : Nat → Int32) (w : Nat) (hw : w < 15) (i : Nat) (hi : i < 4) (a : Int32) (b : Int32) (c1 : Int32) (hO : okW u) : Met l yX5_steer wsX5_steer { frames := 2, cells := 0, slots := 0, locals := 81 } (va_Pc [.ref (ad (18*w+0)), .ref (ad (18*w+(6+2*i))), .int a, .int b, .int c1] (Hp D G ad (va_up σ w u))) (va_Qv (fun (z : Nat → Int32) => z = f5_steer u i a b c1 ∧ okW z) (fun (z : Nat → Int32) => Ho D G ad (va_up σ w z)) (AA B0)) 0 0 (AA B0) := by
  refine Met.ofW (cc := cX5_steer) (maxL := 7) (ret := none) (by decide) rfl ?_
  intro p e s m args below meth c s₁ B hml hv
  obtain ⟨rfl, hP, hK, hN⟩ := hv
  have hx := B.exec
  have hb := B.bytes
  have hr := B.returns
  have hts := atoms_spec (ws := wsX5_steer) B.pre
  have hown : s.vm.findClass RX5 = some m.cls := findClass_of_methodNamed B.named
  have hlocks := B.notSynchronized
  have inX0 : ∀ w ∈ wsX00, w ∈ wsX5_steer := (fun w h => List.mem_cons_of_mem _ (List.mem_append_left _ (List.mem_append_left _ (List.mem_append_right _ h))))
  have inX5 : ∀ w ∈ wsX50, w ∈ wsX5_steer := (fun w h => List.mem_cons_of_mem _ (List.mem_append_left _ (List.mem_append_left _ (List.mem_append_left _ (List.mem_append_right _ h)))))
  have hP : va_P D vwCl (pool G ad (va_up σ w u)) s.heap := hP
  have hS : va_S (AA B0) s.heap s.heap [] := va_S.rf
  have hl := lv_entry ([.ref (ad (18*w+0)), .ref (ad (18*w+(6+2*i))), .int a, .int b, .int c1]) (n := 7) (Nat.le_of_ble_eq_true rfl)
  rw [lg_entry_eq]
  generalize (lg_sl ([.ref (ad (18*w+0)), .ref (ad (18*w+(6+2*i))), .int a, .int b, .int c1]) ++ List.replicate (7 - (lg_sl ([.ref (ad (18*w+0)), .ref (ad (18*w+(6+2*i))), .int a, .int b, .int c1])).length) Slot.unset).toArray = ls at hl ⊢
  have hl : lv_has ls 7 [(0, .ref (ad (18*w+0))), (1, .ref (ad (18*w+(6+2*i)))), (2, .int a), (3, .int b), (4, .int c1)] := hl
  obtain ⟨FF, hFF⟩ : ∃ z, z = f5_steer u i a b c1 := ⟨_, rfl⟩
  have hF := hFF.symm
  rw [f5_steer] at hF
  refine lv_iload_n hx hb dX5_steer_0 rfl (lv_at hl 2 rfl) ?_
  have J30 : ∀ (t0_30 : Int32) (H : Heap) (locs : List Loc) (ls : Array Slot), bl t0_30 → va_P D vwCl (pool G ad (va_up σ w u)) H → va_S (AA B0) s.heap H locs → lv_has ls 7 [(0, .ref (ad (18*w+0))), (1, .ref (ad (18*w+(6+2*i)))), (3, .int b), (4, .int c1)] → f5_steer_b30 u i b c1 t0_30 = FF → W p l e (headSpec wsX5_steer { frames := 2, cells := 0, slots := 0, locals := 81 }).room s m ([.ref (ad (18*w+0)), .ref (ad (18*w+(6+2*i))), .int a, .int b, .int c1] : List Value).toArray below meth c H locs 0 0 (MQ below (va_Qv (fun (z : Nat → Int32) => z = f5_steer u i a b c1 ∧ okW z) (fun (z : Nat → Int32) => Ho D G ad (va_up σ w z)) (AA B0)) ([.ref (ad (18*w+0)), .ref (ad (18*w+(6+2*i))), .int a, .int b, .int c1] : List Value).toArray s 0 0 (AA B0)) (F0 m 30 ls [.int t0_30]) := by
    intro t0_30 H locs ls hb_t0_30 hP hS hl hF
    rw [f5_steer_b30] at hF
    refine lv_istore (lv' := [(5, .int t0_30), (0, .ref (ad (18*w+0))), (1, .ref (ad (18*w+(6+2*i)))), (3, .int b), (4, .int c1)]) hx hb dX5_steer_30 hl (by decide) rfl (fun ls hl => ?_)
    refine lv_iload_n hx hb dX5_steer_32 rfl (lv_at hl 3 rfl) ?_
    refine lv_if_ne (tgt := 54) hx hb dX5_steer_33 (by decide) (fun c33 => ?_) (fun c33 => ?_)
    · have hF := iff_ c33 hF
      refine lv_aload_n hx hb dX5_steer_54 rfl (lv_at hl 2 rfl) ?_
      refine va_get (D := D) (ci := 2) (C := RX0) (T := TX0) (N := 16) hx hb hts inX0 hown hK hP (18*w+(6+2*i)) (c_b hw hi) rfl 6 (by decide) (hts (.fieldLink RX5 198 "TileRunners$Body" "horizontal" "I") (List.mem_of_getElem? (i := 4) rfl)) (fun _ h9 => h9) rfl dX5_steer_55 ?_
      refine lv_iload_n hx hb dX5_steer_58 rfl (lv_at hl 3 rfl) ?_
      refine lv_imul hx hb dX5_steer_59 ?_
      refine lv_topi (fun v6_60 e_v6_60 => ?_)
      have hF := bnd_s e_v6_60 hF
      refine lv_istore (lv' := [(6, .int v6_60), (5, .int t0_30), (0, .ref (ad (18*w+0))), (1, .ref (ad (18*w+(6+2*i)))), (3, .int b), (4, .int c1)]) hx hb dX5_steer_60 hl (by decide) rfl (fun ls hl => ?_)
      refine lv_iload hx hb dX5_steer_62 (lv_at hl 0 rfl) ?_
      refine lv_iload hx hb dX5_steer_64 (lv_at hl 5 rfl) ?_
      refine lv_icmp_ge (tgt := 93) hx hb dX5_steer_66 (by decide) (fun c66 => ?_) (fun c66 => ?_)
      · have hF := ift c66 hF
        exact W.vret hx hb hr (fun t ht hW => ⟨⟨u, rfl, ⟨hF.trans hFF, hO⟩, ho_of ht hP⟩, hS.F ht⟩) hS.2.2 dX5_steer_93
      · have hF := iff_ c66 hF
        refine lv_aload_n hx hb dX5_steer_69 rfl (lv_at hl 3 rfl) ?_
        refine lv_iload_n hx hb dX5_steer_70 rfl (lv_at hl 4 rfl) ?_
        refine lv_iload hx hb dX5_steer_71 (lv_at hl 5 rfl) ?_
        refine lv_iload hx hb dX5_steer_73 (lv_at hl 0 rfl) ?_
        refine lv_iload hx hb dX5_steer_75 (lv_at hl 1 rfl) ?_
        have J85 : ∀ (t0_85 : Int32) (H : Heap) (locs : List Loc) (ls : Array Slot), va_P D vwCl (pool G ad (va_up σ w u)) H → va_S (AA B0) s.heap H locs → lv_has ls 7 [] → f5_steer_b85 u i b c1 v6_60 t0_85 = FF → W p l e (headSpec wsX5_steer { frames := 2, cells := 0, slots := 0, locals := 81 }).room s m ([.ref (ad (18*w+0)), .ref (ad (18*w+(6+2*i))), .int a, .int b, .int c1] : List Value).toArray below meth c H locs 0 0 (MQ below (va_Qv (fun (z : Nat → Int32) => z = f5_steer u i a b c1 ∧ okW z) (fun (z : Nat → Int32) => Ho D G ad (va_up σ w z)) (AA B0)) ([.ref (ad (18*w+0)), .ref (ad (18*w+(6+2*i))), .int a, .int b, .int c1] : List Value).toArray s 0 0 (AA B0)) (F0 m 85 ls [.int t0_85, .int v6_60, .int c1, .int b, .ref (ad (18*w+(6+2*i)))]) := by
          intro t0_85 H locs ls hP hS hl hF
          rw [f5_steer_b85] at hF
          refine lv_iadd hx hb dX5_steer_85 ?_
          refine va_mmin hx hb (hml.trans hl.1.symm) hown (hts _ (List.mem_of_getElem? (i := 5) rfl)) (hts _ (List.mem_of_getElem? (i := 6) rfl)) (hts _ (List.mem_of_getElem? (i := 7) rfl)) (hts _ (List.mem_of_getElem? (i := 8) rfl)) (Nat.le_of_ble_eq_true rfl) (Nat.le_of_ble_eq_true rfl) (Nat.zero_le _) (Nat.zero_le _) dX5_steer_86 ?_
          refine lv_imul hx hb dX5_steer_89 ?_
          refine pput hx hb hts inX0 tyX0 tyX0_ok nmX0 hown hK hP hA hS hw (j := 6+2*i) (by omega) (wcel_b hi) rfl 6 (by decide) (hts (.fieldLink RX5 198 "TileRunners$Body" "horizontal" "I") (List.mem_of_getElem? (i := 4) rfl)) (fun _ h9 => h9) rfl (tyX0_ok 6 (by decide)) rfl rfl (Nat.le_of_ble_eq_true rfl) (336+24*i+2) (own_b hi (by decide) (by decide)) (setB_6 hi) dX5_steer_90 (fun u9 H locs eu9 hP hS => ?_)
          obtain ⟨u90, e_u90⟩ : ∃ z, z = u9 := ⟨_, rfl⟩
          rw [← e_u90] at hP eu9
          have hF := bnd_s eu9 hF
          have hO := okW_up eu9 hO (by omega) (by omega)
          exact W.vret hx hb hr (fun t ht hW => ⟨⟨u90, rfl, ⟨hF.trans hFF, hO⟩, ho_of ht hP⟩, hS.F ht⟩) hS.2.2 dX5_steer_93
        refine lv_if_eq (tgt := 84) hx hb dX5_steer_77 (by decide) (fun c77 => ?_) (fun c77 => ?_)
        · have hF := ift c77 hF
          refine lv_iconst (v := 1) hx hb dX5_steer_84 (by decide) ?_
          exact J85 1 _ _ ls hP hS (lv_sub hl [] rfl) hF
        · have hF := iff_ c77 hF
          refine lv_iconst (v := 2) hx hb dX5_steer_80 (by decide) ?_
          refine lv_goto (tgt := 85) hx hb dX5_steer_81 (by decide) ?_
          exact J85 2 _ _ ls hP hS (lv_sub hl [] rfl) hF
    · have hF := ift c33 hF
      refine lv_iload hx hb dX5_steer_36 (lv_at hl 0 rfl) ?_
      refine lv_if_eq (tgt := 53) hx hb dX5_steer_38 (by decide) (fun c38 => ?_) (fun c38 => ?_)
      · have hF := ift c38 hF
        exact W.vret hx hb hr (fun t ht hW => ⟨⟨u, rfl, ⟨hF.trans hFF, hO⟩, ho_of ht hP⟩, hS.F ht⟩) hS.2.2 dX5_steer_53
      · have hF := iff_ c38 hF
        refine lv_aload_n hx hb dX5_steer_41 rfl (lv_at hl 2 rfl) ?_
        refine lv_aload_n hx hb dX5_steer_42 rfl (lv_at hl 1 rfl) ?_
        refine lv_aload_n hx hb dX5_steer_43 rfl (lv_at hl 2 rfl) ?_
        refine va_get (D := D) (ci := 2) (C := RX0) (T := TX0) (N := 16) hx hb hts inX0 hown hK hP (18*w+(6+2*i)) (c_b hw hi) rfl 6 (by decide) (hts (.fieldLink RX5 198 "TileRunners$Body" "horizontal" "I") (List.mem_of_getElem? (i := 4) rfl)) (fun _ h9 => h9) rfl dX5_steer_44 ?_
        refine va_calli (va_runV (As := [.int (u (336+24*i+2))]) (rest := [.ref (ad (18*w+(6+2*i)))]) ⟨hx, hb, hml, hown, hts⟩ (c5_nearerToZero l hA σ u w hw (u (336+24*i+2)) ) (cwV 1 hts gX5_steer_X5_nearerToZero rfl rfl rfl hd_X5_nearerToZeroV ⟨Nat.le_of_ble_eq_true rfl, Nat.le_of_ble_eq_true rfl⟩) ⟨hp_blind, va_recv hK hP (ci := 7) (q0 := 18*w+0) rfl (c_o hw), hp_pre hK hN hP⟩ rfl rfl hl.1 rfl (lv_room (Nat.le_of_ble_eq_true rfl)) dX5_steer_47 ⟨Nat.zero_le _, Nat.zero_le _⟩) hS (fun _ _ h => h) (fun _ h => h) (fun r47 _ t H locs ht hvm hw9 hB hz1 hk1 hS => ?_)
        have hP := ho_at ht hB
        have eq47 := hw9
        have hF := bnd_s eq47 hF
        refine pput hx hb hts inX0 tyX0 tyX0_ok nmX0 hown hK hP hA hS hw (j := 6+2*i) (by omega) (wcel_b hi) rfl 6 (by decide) (hts (.fieldLink RX5 198 "TileRunners$Body" "horizontal" "I") (List.mem_of_getElem? (i := 4) rfl)) (fun _ h9 => h9) rfl (tyX0_ok 6 (by decide)) rfl rfl (Nat.le_of_ble_eq_true rfl) (336+24*i+2) (own_b hi (by decide) (by decide)) (setB_6 hi) dX5_steer_50 (fun u9 H locs eu9 hP hS => ?_)
        obtain ⟨u50, e_u50⟩ : ∃ z, z = u9 := ⟨_, rfl⟩
        rw [← e_u50] at hP eu9
        have hF := bnd_s eu9 hF
        have hO := okW_up eu9 hO (by omega) (by omega)
        exact W.vret hx hb hr (fun t ht hW => ⟨⟨u50, rfl, ⟨hF.trans hFF, hO⟩, ho_of ht hP⟩, hS.F ht⟩) hS.2.2 dX5_steer_53
  have J29 : ∀  (H : Heap) (locs : List Loc) (ls : Array Slot), va_P D vwCl (pool G ad (va_up σ w u)) H → va_S (AA B0) s.heap H locs → lv_has ls 7 [(0, .ref (ad (18*w+0))), (1, .ref (ad (18*w+(6+2*i)))), (3, .int b), (4, .int c1)] → f5_steer_b29 u i b c1  = FF → W p l e (headSpec wsX5_steer { frames := 2, cells := 0, slots := 0, locals := 81 }).room s m ([.ref (ad (18*w+0)), .ref (ad (18*w+(6+2*i))), .int a, .int b, .int c1] : List Value).toArray below meth c H locs 0 0 (MQ below (va_Qv (fun (z : Nat → Int32) => z = f5_steer u i a b c1 ∧ okW z) (fun (z : Nat → Int32) => Ho D G ad (va_up σ w z)) (AA B0)) ([.ref (ad (18*w+0)), .ref (ad (18*w+(6+2*i))), .int a, .int b, .int c1] : List Value).toArray s 0 0 (AA B0)) (F0 m 29 ls []) := by
    intro  H locs ls hP hS hl hF
    rw [f5_steer_b29] at hF
    refine lv_iconst (v := 0) hx hb dX5_steer_29 (by decide) ?_
    exact J30 0 _ _ ls bl0 hP hS (lv_sub hl [0, 1, 2, 3] rfl) hF
  refine lv_if_eq (tgt := 29) hx hb dX5_steer_1 (by decide) (fun c1 => ?_) (fun c1 => ?_)
  · have hF := ift c1 hF
    exact J29  _ _ ls hP hS (lv_sub hl [0, 1, 3, 4] rfl) hF
  · have hF := iff_ c1 hF
    refine lv_aload_n hx hb dX5_steer_4 rfl (lv_at hl 0 rfl) ?_
    refine va_get (D := D) (ci := 7) (C := RX5) (T := TX5) (N := 7) hx hb hts inX5 hown hK hP (18*w+0) (c_o hw) rfl 0 (by decide) (hts (.fieldLink RX5 12 "TileRunners$World" "tiles" "LTileRunners$Tiles;") (List.mem_of_getElem? (i := 1) rfl)) (fun _ h9 => h9) rfl dX5_steer_5 ?_
    refine lv_aload_n hx hb dX5_steer_8 rfl (lv_at hl 1 rfl) ?_
    refine lv_aload_n hx hb dX5_steer_9 rfl (lv_at hl 1 rfl) ?_
    refine va_get (D := D) (ci := 2) (C := RX0) (T := TX0) (N := 16) hx hb hts inX0 hown hK hP (18*w+(6+2*i)) (c_b hw hi) rfl 0 (by decide) (hts (.fieldLink RX5 56 "TileRunners$Body" "x" "I") (List.mem_of_getElem? (i := 2) rfl)) (fun _ h9 => h9) rfl dX5_steer_10 ?_
    refine lv_aload_n hx hb dX5_steer_13 rfl (lv_at hl 1 rfl) ?_
    refine va_get (D := D) (ci := 2) (C := RX0) (T := TX0) (N := 16) hx hb hts inX0 hown hK hP (18*w+(6+2*i)) (c_b hw hi) rfl 1 (by decide) (hts (.fieldLink RX5 59 "TileRunners$Body" "y" "I") (List.mem_of_getElem? (i := 3) rfl)) (fun _ h9 => h9) rfl dX5_steer_14 ?_
    refine va_calli (va_runV (As := [.ref (ad (18*w+(6+2*i))), .int (u (336+24*i+0)), .int (u (336+24*i+1))]) (rest := []) ⟨hx, hb, hml, hown, hts⟩ (c4_firmKindsBelow l hA σ u w hw i hi (u (336+24*i+0)) (u (336+24*i+1)) ) (cwV 3 hts gX5_steer_X4_firmKindsBelow rfl rfl rfl hd_X4_firmKindsBelowV ⟨Nat.le_of_ble_eq_true rfl, Nat.le_of_ble_eq_true rfl⟩) ⟨hp_blind, va_recv hK hP (ci := 6) (q0 := 18*w+1) rfl (c_t hw), hp_pre hK hN hP⟩ rfl rfl hl.1 rfl (lv_room (Nat.le_of_ble_eq_true rfl)) dX5_steer_17 ⟨Nat.zero_le _, Nat.zero_le _⟩) hS (fun _ _ h => h) (fun _ h => h) (fun r17 _ t H locs ht hvm hw9 hB hz1 hk1 hS => ?_)
    have hP := ho_at ht hB
    have eq17 := hw9
    have hF := bnd_s eq17 hF
    refine lv_bipush (v := 32) hx hb dX5_steer_20 (by decide) ?_
    refine lv_icmp_eq (tgt := 29) hx hb dX5_steer_22 (by decide) (fun c22 => ?_) (fun c22 => ?_)
    · have hF := ift c22 hF
      exact J29  _ _ ls hP hS (lv_sub hl [0, 1, 3, 4] rfl) hF
    · have hF := iff_ c22 hF
      refine lv_iconst (v := 1) hx hb dX5_steer_25 (by decide) ?_
      refine lv_goto (tgt := 30) hx hb dX5_steer_26 (by decide) ?_
      exact J30 1 _ _ ls bl1 hP hS (lv_sub hl [0, 1, 3, 4] rfl) hF
theorem hd_X5_steerV : yX5_steer.cls = RX5 ∧ yX5_steer.cls ≠ "java/lang/invoke/MethodHandle" ∧ yX5_steer.cls ≠ "java/lang/invoke/VarHandle" ∧ (parseMethodDescriptor yX5_steer.desc).map (fun d => d.parameters.length) = some 4 := by decide +kernel
set_option maxHeartbeats 4000000 in
set_option maxRecDepth 100000 in
theorem c5_jumps (l : Launch) {D : va_G} {G : CY} {ad : Nat → Nat} {B0 : Nat} (hA : adOK B0 ad) (σ : Nat → Nat → Int32) (u : Nat → Int32) (w : Nat) (hw : w < 15) (i : Nat) (hi : i < 4) (a : Int32) (hO : okW u) : Met l yX5_jumps wsX5_jumps { frames := 2, cells := 0, slots := 0, locals := 51 } (va_Pc [.ref (ad (18*w+0)), .ref (ad (18*w+(6+2*i))), .int a, .ref (ad (271))] (Hp D G ad (va_up σ w u))) (va_Qi (fun (r : Int32) (z : Nat → Int32) => (r, z) = f5_jumps u (σ 15) i a ∧ okW z ∧ bl r) (fun (z : Nat → Int32) => Ho D G ad (va_up σ w z)) (AA B0)) 0 0 (AA B0) := by
  refine Met.ofW (cc := cX5_jumps) (maxL := 4) (ret := (some .boolean)) (by decide) rfl ?_
  intro p e s m args below meth c s₁ B hml hv
  obtain ⟨rfl, hP, hK, hN⟩ := hv
  have hx := B.exec
  have hb := B.bytes
  have hr := B.returns
  have hts := atoms_spec (ws := wsX5_jumps) B.pre
  have hown : s.vm.findClass RX5 = some m.cls := findClass_of_methodNamed B.named
  have hlocks := B.notSynchronized
  have inX0 : ∀ w ∈ wsX00, w ∈ wsX5_jumps := (fun w h => List.mem_cons_of_mem _ (List.mem_append_left _ (List.mem_append_left _ (List.mem_append_left _ (List.mem_append_right _ h)))))
  have inX5 : ∀ w ∈ wsX50, w ∈ wsX5_jumps := (fun w h => List.mem_cons_of_mem _ (List.mem_append_left _ (List.mem_append_left _ (List.mem_append_right _ h))))
  have hP : va_P D vwCl (pool G ad (va_up σ w u)) s.heap := hP
  have hS : va_S (AA B0) s.heap s.heap [] := va_S.rf
  have hl := lv_entry ([.ref (ad (18*w+0)), .ref (ad (18*w+(6+2*i))), .int a, .ref (ad (271))]) (n := 4) (Nat.le_of_ble_eq_true rfl)
  rw [lg_entry_eq]
  generalize (lg_sl ([.ref (ad (18*w+0)), .ref (ad (18*w+(6+2*i))), .int a, .ref (ad (271))]) ++ List.replicate (4 - (lg_sl ([.ref (ad (18*w+0)), .ref (ad (18*w+(6+2*i))), .int a, .ref (ad (271))])).length) Slot.unset).toArray = ls at hl ⊢
  have hl : lv_has ls 4 [(0, .ref (ad (18*w+0))), (1, .ref (ad (18*w+(6+2*i)))), (2, .int a), (3, .ref (ad (271)))] := hl
  obtain ⟨FF, hFF⟩ : ∃ z, z = f5_jumps u (σ 15) i a := ⟨_, rfl⟩
  have hF := hFF.symm
  obtain ⟨sz, hsz⟩ : ∃ z, z = σ 15 := ⟨_, rfl⟩
  rw [← hsz] at hF
  have hset : ∀ (u : Nat → Int32), (pool G ad (va_up σ w u))[271]? = some (ad 271, icel G 4 10 sz) := fun u => by rw [hsz]; exact c_set hw
  rw [f5_jumps] at hF
  refine lv_aload_n hx hb dX5_jumps_0 rfl (lv_at hl 1 rfl) ?_
  refine va_get (D := D) (ci := 2) (C := RX0) (T := TX0) (N := 16) hx hb hts inX0 hown hK hP (18*w+(6+2*i)) (c_b hw hi) rfl 9 (by decide) (hts (.fieldLink RX5 195 "TileRunners$Body" "buffer" "I") (List.mem_of_getElem? (i := 1) rfl)) (fun _ h9 => h9) rfl dX5_jumps_1 ?_
  refine lv_if_ne (tgt := 9) hx hb dX5_jumps_4 (by decide) (fun c4 => ?_) (fun c4 => ?_)
  · have hF := iff_ c4 hF
    refine lv_aload_n hx hb dX5_jumps_9 rfl (lv_at hl 1 rfl) ?_
    refine va_get (D := D) (ci := 2) (C := RX0) (T := TX0) (N := 16) hx hb hts inX0 hown hK hP (18*w+(6+2*i)) (c_b hw hi) rfl 8 (by decide) (hts (.fieldLink RX5 182 "TileRunners$Body" "late" "I") (List.mem_of_getElem? (i := 2) rfl)) (fun _ h9 => h9) rfl dX5_jumps_10 ?_
    refine lv_if_le (tgt := 30) hx hb dX5_jumps_13 (by decide) (fun c13 => ?_) (fun c13 => ?_)
    · have hF := ift c13 hF
      refine lv_iload_n hx hb dX5_jumps_30 rfl (lv_at hl 2 rfl) ?_
      refine lv_if_eq (tgt := 36) hx hb dX5_jumps_31 (by decide) (fun c31 => ?_) (fun c31 => ?_)
      · have hF := ift c31 hF
        refine lv_aload_n hx hb dX5_jumps_36 rfl (lv_at hl 0 rfl) ?_
        refine va_get (D := D) (ci := 7) (C := RX5) (T := TX5) (N := 7) hx hb hts inX5 hown hK hP (18*w+0) (c_o hw) rfl 0 (by decide) (hts (.fieldLink RX5 12 "TileRunners$World" "tiles" "LTileRunners$Tiles;") (List.mem_of_getElem? (i := 3) rfl)) (fun _ h9 => h9) rfl dX5_jumps_37 ?_
        refine lv_aload_n hx hb dX5_jumps_40 rfl (lv_at hl 1 rfl) ?_
        refine lv_aload_n hx hb dX5_jumps_41 rfl (lv_at hl 1 rfl) ?_
        refine va_get (D := D) (ci := 2) (C := RX0) (T := TX0) (N := 16) hx hb hts inX0 hown hK hP (18*w+(6+2*i)) (c_b hw hi) rfl 0 (by decide) (hts (.fieldLink RX5 56 "TileRunners$Body" "x" "I") (List.mem_of_getElem? (i := 4) rfl)) (fun _ h9 => h9) rfl dX5_jumps_42 ?_
        refine lv_iconst (v := 1) hx hb dX5_jumps_45 (by decide) ?_
        refine lv_iadd hx hb dX5_jumps_46 ?_
        refine lv_aload_n hx hb dX5_jumps_47 rfl (lv_at hl 1 rfl) ?_
        refine va_get (D := D) (ci := 2) (C := RX0) (T := TX0) (N := 16) hx hb hts inX0 hown hK hP (18*w+(6+2*i)) (c_b hw hi) rfl 1 (by decide) (hts (.fieldLink RX5 59 "TileRunners$Body" "y" "I") (List.mem_of_getElem? (i := 5) rfl)) (fun _ h9 => h9) rfl dX5_jumps_48 ?_
        refine va_calli (va_runV (As := [.ref (ad (18*w+(6+2*i))), .int ((u (336+24*i+0)) + 1), .int (u (336+24*i+1))]) (rest := []) ⟨hx, hb, hml, hown, hts⟩ (c4_block l hA σ u w hw i hi ((u (336+24*i+0)) + 1) (u (336+24*i+1)) ) (cwV 3 hts gX5_jumps_X4_block rfl rfl rfl hd_X4_blockV ⟨Nat.le_of_ble_eq_true rfl, Nat.le_of_ble_eq_true rfl⟩) ⟨hp_blind, va_recv hK hP (ci := 6) (q0 := 18*w+1) rfl (c_t hw), hp_pre hK hN hP⟩ rfl rfl hl.1 rfl (lv_room (Nat.le_of_ble_eq_true rfl)) dX5_jumps_51 ⟨Nat.zero_le _, Nat.zero_le _⟩) hS (fun _ _ h => h) (fun _ h => h) (fun r51 _ t H locs ht hvm hw9 hB hz1 hk1 hS => ?_)
        have hP := ho_at ht hB
        obtain ⟨eq51, hb_r51⟩ := hw9
        have hF := bnd_s eq51 hF
        have J101 : ∀ (u_101 : (Nat → Int32)) (H : Heap) (locs : List Loc) (ls : Array Slot), okW u_101 → va_P D vwCl (pool G ad (va_up σ w u_101)) H → va_S (AA B0) s.heap H locs → lv_has ls 4 [(1, .ref (ad (18*w+(6+2*i)))), (3, .ref (ad (271)))] → f5_jumps_b101 sz i u_101 = FF → W p l e (headSpec wsX5_jumps { frames := 2, cells := 0, slots := 0, locals := 51 }).room s m ([.ref (ad (18*w+0)), .ref (ad (18*w+(6+2*i))), .int a, .ref (ad (271))] : List Value).toArray below meth c H locs 0 0 (MQ below (va_Qi (fun (r : Int32) (z : Nat → Int32) => (r, z) = f5_jumps u (σ 15) i a ∧ okW z ∧ bl r) (fun (z : Nat → Int32) => Ho D G ad (va_up σ w z)) (AA B0)) ([.ref (ad (18*w+0)), .ref (ad (18*w+(6+2*i))), .int a, .ref (ad (271))] : List Value).toArray s 0 0 (AA B0)) (F0 m 101 ls []) := by
          intro u_101 H locs ls hO hP hS hl hF
          rw [f5_jumps_b101] at hF
          refine lv_aload_n hx hb dX5_jumps_101 rfl (lv_at hl 0 rfl) ?_
          refine lv_aload_n hx hb dX5_jumps_102 rfl (lv_at hl 1 rfl) ?_
          refine lv_iconst (v := 1) hx hb dX5_jumps_103 (by decide) ?_
          refine pald (n := 4) (o := 10) (t := 11) (i := 1) hx hb hK hP (hset _) (vp_in_iff.mpr (by decide)) rfl dX5_jumps_104 ?_
          refine va_callv (va_runV (As := [.int (sz 11)]) (rest := []) ⟨hx, hb, hml, hown, hts⟩ (c0_leap l hA σ u_101 w hw i hi (sz 11) hO) (cwV 1 hts gX5_jumps_X0_leap rfl rfl rfl hd_X0_leapV ⟨Nat.le_of_ble_eq_true rfl, Nat.le_of_ble_eq_true rfl⟩) ⟨hp_blind, va_recv hK hP (ci := 2) (q0 := 18*w+(6+2*i)) rfl (c_b hw hi), hp_pre hK hN hP⟩ rfl rfl hl.1 rfl (lv_room (Nat.le_of_ble_eq_true rfl)) dX5_jumps_105 ⟨Nat.zero_le _, Nat.zero_le _⟩) hS (fun _ _ h => h) (fun _ h => h) (fun u9 t H locs ht hvm hw9 hB hz1 hk1 hS => ?_)
          have hP := ho_at ht hB
          obtain ⟨eq105, ok9⟩ := hw9
          obtain ⟨u105, e_u105⟩ : ∃ z, z = u9 := ⟨_, rfl⟩
          rw [← e_u105] at hP eq105 ok9
          have hO := ok9
          have hF := bnd_s eq105 hF
          refine lv_iconst (v := 1) hx hb dX5_jumps_108 (by decide) ?_
          exact W.zret (v := 1) hx hb hr (bl_nar bl1) (fun t ht hW => ⟨⟨1, u105, rfl, ⟨hF.trans hFF, hO, bl1⟩, ho_of ht hP⟩, hS.F ht⟩) hS.2.2 dX5_jumps_109
        refine lv_if_eq (tgt := 68) hx hb dX5_jumps_54 (by decide) (fun c54 => ?_) (fun c54 => ?_)
        · have hF := ift c54 hF
          refine lv_aload_n hx hb dX5_jumps_68 rfl (lv_at hl 0 rfl) ?_
          refine va_get (D := D) (ci := 7) (C := RX5) (T := TX5) (N := 7) hx hb hts inX5 hown hK hP (18*w+0) (c_o hw) rfl 0 (by decide) (hts (.fieldLink RX5 12 "TileRunners$World" "tiles" "LTileRunners$Tiles;") (List.mem_of_getElem? (i := 3) rfl)) (fun _ h9 => h9) rfl dX5_jumps_69 ?_
          refine lv_aload_n hx hb dX5_jumps_72 rfl (lv_at hl 1 rfl) ?_
          refine lv_aload_n hx hb dX5_jumps_73 rfl (lv_at hl 1 rfl) ?_
          refine va_get (D := D) (ci := 2) (C := RX0) (T := TX0) (N := 16) hx hb hts inX0 hown hK hP (18*w+(6+2*i)) (c_b hw hi) rfl 0 (by decide) (hts (.fieldLink RX5 56 "TileRunners$Body" "x" "I") (List.mem_of_getElem? (i := 4) rfl)) (fun _ h9 => h9) rfl dX5_jumps_74 ?_
          refine lv_iconst (v := 1) hx hb dX5_jumps_77 (by decide) ?_
          refine lv_isub hx hb dX5_jumps_78 ?_
          refine lv_aload_n hx hb dX5_jumps_79 rfl (lv_at hl 1 rfl) ?_
          refine va_get (D := D) (ci := 2) (C := RX0) (T := TX0) (N := 16) hx hb hts inX0 hown hK hP (18*w+(6+2*i)) (c_b hw hi) rfl 1 (by decide) (hts (.fieldLink RX5 59 "TileRunners$Body" "y" "I") (List.mem_of_getElem? (i := 5) rfl)) (fun _ h9 => h9) rfl dX5_jumps_80 ?_
          refine va_calli (va_runV (As := [.ref (ad (18*w+(6+2*i))), .int ((u (336+24*i+0)) - 1), .int (u (336+24*i+1))]) (rest := []) ⟨hx, hb, hml, hown, hts⟩ (c4_block l hA σ u w hw i hi ((u (336+24*i+0)) - 1) (u (336+24*i+1)) ) (cwV 3 hts gX5_jumps_X4_block rfl rfl rfl hd_X4_blockV ⟨Nat.le_of_ble_eq_true rfl, Nat.le_of_ble_eq_true rfl⟩) ⟨hp_blind, va_recv hK hP (ci := 6) (q0 := 18*w+1) rfl (c_t hw), hp_pre hK hN hP⟩ rfl rfl hl.1 rfl (lv_room (Nat.le_of_ble_eq_true rfl)) dX5_jumps_83 ⟨Nat.zero_le _, Nat.zero_le _⟩) hS (fun _ _ h => h) (fun _ h => h) (fun r83 _ t H locs ht hvm hw9 hB hz1 hk1 hS => ?_)
          have hP := ho_at ht hB
          obtain ⟨eq83, hb_r83⟩ := hw9
          have hF := bnd_s eq83 hF
          refine lv_if_eq (tgt := 99) hx hb dX5_jumps_86 (by decide) (fun c86 => ?_) (fun c86 => ?_)
          · have hF := ift c86 hF
            refine lv_iconst (v := 0) hx hb dX5_jumps_99 (by decide) ?_
            exact W.zret (v := 0) hx hb hr (bl_nar bl0) (fun t ht hW => ⟨⟨0, u, rfl, ⟨hF.trans hFF, hO, bl0⟩, ho_of ht hP⟩, hS.F ht⟩) hS.2.2 dX5_jumps_100
          · have hF := iff_ c86 hF
            refine lv_aload_n hx hb dX5_jumps_89 rfl (lv_at hl 1 rfl) ?_
            refine lv_aload_n hx hb dX5_jumps_90 rfl (lv_at hl 3 rfl) ?_
            refine lv_iconst (v := 0) hx hb dX5_jumps_91 (by decide) ?_
            refine pald (n := 4) (o := 10) (t := 10) (i := 0) hx hb hK hP (hset _) (vp_in_iff.mpr (by decide)) rfl dX5_jumps_92 ?_
            refine pput hx hb hts inX0 tyX0 tyX0_ok nmX0 hown hK hP hA hS hw (j := 6+2*i) (by omega) (wcel_b hi) rfl 6 (by decide) (hts (.fieldLink RX5 198 "TileRunners$Body" "horizontal" "I") (List.mem_of_getElem? (i := 6) rfl)) (fun _ h9 => h9) rfl (tyX0_ok 6 (by decide)) rfl rfl (Nat.le_of_ble_eq_true rfl) (336+24*i+2) (own_b hi (by decide) (by decide)) (setB_6 hi) dX5_jumps_93 (fun u9 H locs eu9 hP hS => ?_)
            obtain ⟨u93, e_u93⟩ : ∃ z, z = u9 := ⟨_, rfl⟩
            rw [← e_u93] at hP eu9
            have hF := bnd_s eu9 hF
            have hO := okW_up eu9 hO (by omega) (by omega)
            refine lv_goto (tgt := 101) hx hb dX5_jumps_96 (by decide) ?_
            exact J101 u93 _ _ ls hO hP hS (lv_sub hl [1, 3] rfl) hF
        · have hF := iff_ c54 hF
          refine lv_aload_n hx hb dX5_jumps_57 rfl (lv_at hl 1 rfl) ?_
          refine lv_aload_n hx hb dX5_jumps_58 rfl (lv_at hl 3 rfl) ?_
          refine lv_iconst (v := 0) hx hb dX5_jumps_59 (by decide) ?_
          refine pald (n := 4) (o := 10) (t := 10) (i := 0) hx hb hK hP (hset _) (vp_in_iff.mpr (by decide)) rfl dX5_jumps_60 ?_
          refine lv_ineg hx hb dX5_jumps_61 ?_
          refine pput hx hb hts inX0 tyX0 tyX0_ok nmX0 hown hK hP hA hS hw (j := 6+2*i) (by omega) (wcel_b hi) rfl 6 (by decide) (hts (.fieldLink RX5 198 "TileRunners$Body" "horizontal" "I") (List.mem_of_getElem? (i := 6) rfl)) (fun _ h9 => h9) rfl (tyX0_ok 6 (by decide)) rfl rfl (Nat.le_of_ble_eq_true rfl) (336+24*i+2) (own_b hi (by decide) (by decide)) (setB_6 hi) dX5_jumps_62 (fun u9 H locs eu9 hP hS => ?_)
          obtain ⟨u62, e_u62⟩ : ∃ z, z = u9 := ⟨_, rfl⟩
          rw [← e_u62] at hP eu9
          have hF := bnd_s eu9 hF
          have hO := okW_up eu9 hO (by omega) (by omega)
          refine lv_goto (tgt := 101) hx hb dX5_jumps_65 (by decide) ?_
          exact J101 u62 _ _ ls hO hP hS (lv_sub hl [1, 3] rfl) hF
      · have hF := iff_ c31 hF
        refine lv_iconst (v := 0) hx hb dX5_jumps_34 (by decide) ?_
        exact W.zret (v := 0) hx hb hr (bl_nar bl0) (fun t ht hW => ⟨⟨0, u, rfl, ⟨hF.trans hFF, hO, bl0⟩, ho_of ht hP⟩, hS.F ht⟩) hS.2.2 dX5_jumps_35
    · have hF := iff_ c13 hF
      refine lv_aload_n hx hb dX5_jumps_16 rfl (lv_at hl 1 rfl) ?_
      refine lv_iconst (v := 0) hx hb dX5_jumps_17 (by decide) ?_
      refine pput hx hb hts inX0 tyX0 tyX0_ok nmX0 hown hK hP hA hS hw (j := 6+2*i) (by omega) (wcel_b hi) rfl 8 (by decide) (hts (.fieldLink RX5 182 "TileRunners$Body" "late" "I") (List.mem_of_getElem? (i := 2) rfl)) (fun _ h9 => h9) rfl (tyX0_ok 8 (by decide)) rfl rfl (Nat.le_of_ble_eq_true rfl) (336+24*i+4) (own_b hi (by decide) (by decide)) (setB_8 hi) dX5_jumps_18 (fun u9 H locs eu9 hP hS => ?_)
      obtain ⟨u18, e_u18⟩ : ∃ z, z = u9 := ⟨_, rfl⟩
      rw [← e_u18] at hP eu9
      have hF := bnd_s eu9 hF
      have hO := okW_up eu9 hO (by omega) (by omega)
      refine lv_aload_n hx hb dX5_jumps_21 rfl (lv_at hl 1 rfl) ?_
      refine lv_aload_n hx hb dX5_jumps_22 rfl (lv_at hl 3 rfl) ?_
      refine lv_iconst (v := 1) hx hb dX5_jumps_23 (by decide) ?_
      refine pald (n := 4) (o := 10) (t := 11) (i := 1) hx hb hK hP (hset _) (vp_in_iff.mpr (by decide)) rfl dX5_jumps_24 ?_
      refine va_callv (va_runV (As := [.int (sz 11)]) (rest := []) ⟨hx, hb, hml, hown, hts⟩ (c0_leap l hA σ u18 w hw i hi (sz 11) hO) (cwV 1 hts gX5_jumps_X0_leap rfl rfl rfl hd_X0_leapV ⟨Nat.le_of_ble_eq_true rfl, Nat.le_of_ble_eq_true rfl⟩) ⟨hp_blind, va_recv hK hP (ci := 2) (q0 := 18*w+(6+2*i)) rfl (c_b hw hi), hp_pre hK hN hP⟩ rfl rfl hl.1 rfl (lv_room (Nat.le_of_ble_eq_true rfl)) dX5_jumps_25 ⟨Nat.zero_le _, Nat.zero_le _⟩) hS (fun _ _ h => h) (fun _ h => h) (fun u9 t H locs ht hvm hw9 hB hz1 hk1 hS => ?_)
      have hP := ho_at ht hB
      obtain ⟨eq25, ok9⟩ := hw9
      obtain ⟨u25, e_u25⟩ : ∃ z, z = u9 := ⟨_, rfl⟩
      rw [← e_u25] at hP eq25 ok9
      have hO := ok9
      have hF := bnd_s eq25 hF
      refine lv_iconst (v := 1) hx hb dX5_jumps_28 (by decide) ?_
      exact W.zret (v := 1) hx hb hr (bl_nar bl1) (fun t ht hW => ⟨⟨1, u25, rfl, ⟨hF.trans hFF, hO, bl1⟩, ho_of ht hP⟩, hS.F ht⟩) hS.2.2 dX5_jumps_29
  · have hF := ift c4 hF
    refine lv_iconst (v := 0) hx hb dX5_jumps_7 (by decide) ?_
    exact W.zret (v := 0) hx hb hr (bl_nar bl0) (fun t ht hW => ⟨⟨0, u, rfl, ⟨hF.trans hFF, hO, bl0⟩, ho_of ht hP⟩, hS.F ht⟩) hS.2.2 dX5_jumps_8
theorem hd_X5_jumpsV : yX5_jumps.cls = RX5 ∧ yX5_jumps.cls ≠ "java/lang/invoke/MethodHandle" ∧ yX5_jumps.cls ≠ "java/lang/invoke/VarHandle" ∧ (parseMethodDescriptor yX5_jumps.desc).map (fun d => d.parameters.length) = some 3 := by decide +kernel
set_option maxHeartbeats 4000000 in
set_option maxRecDepth 100000 in
theorem c5_cutJump (l : Launch) {D : va_G} {G : CY} {ad : Nat → Nat} {B0 : Nat} (hA : adOK B0 ad) (σ : Nat → Nat → Int32) (u : Nat → Int32) (w : Nat) (hw : w < 15) (i : Nat) (hi : i < 4) (hO : okW u) : Met l yX5_cutJump wsX5_cutJump { frames := 1, cells := 0, slots := 0, locals := 21 } (va_Pc [.ref (ad (18*w+0)), .ref (ad (18*w+(6+2*i)))] (Hp D G ad (va_up σ w u))) (va_Qv (fun (z : Nat → Int32) => z = f5_cutJump u i ∧ okW z) (fun (z : Nat → Int32) => Ho D G ad (va_up σ w z)) (AA B0)) 0 0 (AA B0) := by
  refine Met.ofW (cc := cX5_cutJump) (maxL := 2) (ret := none) (by decide) rfl ?_
  intro p e s m args below meth c s₁ B hml hv
  obtain ⟨rfl, hP, hK, hN⟩ := hv
  have hx := B.exec
  have hb := B.bytes
  have hr := B.returns
  have hts := atoms_spec (ws := wsX5_cutJump) B.pre
  have hown : s.vm.findClass RX5 = some m.cls := findClass_of_methodNamed B.named
  have hlocks := B.notSynchronized
  have inX0 : ∀ w ∈ wsX00, w ∈ wsX5_cutJump := (fun w h => List.mem_cons_of_mem _ (List.mem_append_right _ h))
  have hP : va_P D vwCl (pool G ad (va_up σ w u)) s.heap := hP
  have hS : va_S (AA B0) s.heap s.heap [] := va_S.rf
  have hl := lv_entry ([.ref (ad (18*w+0)), .ref (ad (18*w+(6+2*i)))]) (n := 2) (Nat.le_of_ble_eq_true rfl)
  rw [lg_entry_eq]
  generalize (lg_sl ([.ref (ad (18*w+0)), .ref (ad (18*w+(6+2*i)))]) ++ List.replicate (2 - (lg_sl ([.ref (ad (18*w+0)), .ref (ad (18*w+(6+2*i)))])).length) Slot.unset).toArray = ls at hl ⊢
  have hl : lv_has ls 2 [(0, .ref (ad (18*w+0))), (1, .ref (ad (18*w+(6+2*i))))] := hl
  obtain ⟨FF, hFF⟩ : ∃ z, z = f5_cutJump u i := ⟨_, rfl⟩
  have hF := hFF.symm
  rw [f5_cutJump] at hF
  refine lv_aload_n hx hb dX5_cutJump_0 rfl (lv_at hl 1 rfl) ?_
  refine va_get (D := D) (ci := 2) (C := RX0) (T := TX0) (N := 16) hx hb hts inX0 hown hK hP (18*w+(6+2*i)) (c_b hw hi) rfl 13 (by decide) (hts (.fieldLink RX5 214 "TileRunners$Body" "rises" "Z") (List.mem_of_getElem? (i := 1) rfl)) (fun _ h9 => h9) rfl dX5_cutJump_1 ?_
  refine lv_if_eq (tgt := 28) hx hb dX5_cutJump_4 (by decide) (fun c4 => ?_) (fun c4 => ?_)
  · have hF := ift c4 hF
    exact W.vret hx hb hr (fun t ht hW => ⟨⟨u, rfl, ⟨hF.trans hFF, hO⟩, ho_of ht hP⟩, hS.F ht⟩) hS.2.2 dX5_cutJump_28
  · have hF := iff_ c4 hF
    refine lv_aload_n hx hb dX5_cutJump_7 rfl (lv_at hl 1 rfl) ?_
    refine va_get (D := D) (ci := 2) (C := RX0) (T := TX0) (N := 16) hx hb hts inX0 hown hK hP (18*w+(6+2*i)) (c_b hw hi) rfl 7 (by decide) (hts (.fieldLink RX5 91 "TileRunners$Body" "vertical" "I") (List.mem_of_getElem? (i := 2) rfl)) (fun _ h9 => h9) rfl dX5_cutJump_8 ?_
    refine lv_iconst (v := 4) hx hb dX5_cutJump_11 (by decide) ?_
    refine lv_icmp_le (tgt := 28) hx hb dX5_cutJump_12 (by decide) (fun c12 => ?_) (fun c12 => ?_)
    · have hF := ift c12 hF
      exact W.vret hx hb hr (fun t ht hW => ⟨⟨u, rfl, ⟨hF.trans hFF, hO⟩, ho_of ht hP⟩, hS.F ht⟩) hS.2.2 dX5_cutJump_28
    · have hF := iff_ c12 hF
      refine lv_aload_n hx hb dX5_cutJump_15 rfl (lv_at hl 1 rfl) ?_
      refine lv_iconst (v := 4) hx hb dX5_cutJump_16 (by decide) ?_
      refine va_calli (va_runV (As := [.int 4]) (rest := []) ⟨hx, hb, hml, hown, hts⟩ (c0_holds l hA σ u w hw i hi 4 ) (cwV 1 hts gX5_cutJump_X0_holds rfl rfl rfl hd_X0_holdsV ⟨Nat.le_of_ble_eq_true rfl, Nat.le_of_ble_eq_true rfl⟩) ⟨hp_blind, va_recv hK hP (ci := 2) (q0 := 18*w+(6+2*i)) rfl (c_b hw hi), hp_pre hK hN hP⟩ rfl rfl hl.1 rfl (lv_room (Nat.le_of_ble_eq_true rfl)) dX5_cutJump_17 ⟨Nat.zero_le _, Nat.zero_le _⟩) hS (fun _ _ h => h) (fun _ h => h) (fun r17 _ t H locs ht hvm hw9 hB hz1 hk1 hS => ?_)
      have hP := ho_at ht hB
      obtain ⟨eq17, hb_r17⟩ := hw9
      have hF := bnd_s eq17 hF
      refine lv_if_ne (tgt := 28) hx hb dX5_cutJump_20 (by decide) (fun c20 => ?_) (fun c20 => ?_)
      · have hF := iff_ c20 hF
        exact W.vret hx hb hr (fun t ht hW => ⟨⟨u, rfl, ⟨hF.trans hFF, hO⟩, ho_of ht hP⟩, hS.F ht⟩) hS.2.2 dX5_cutJump_28
      · have hF := ift c20 hF
        refine lv_aload_n hx hb dX5_cutJump_23 rfl (lv_at hl 1 rfl) ?_
        refine lv_iconst (v := 4) hx hb dX5_cutJump_24 (by decide) ?_
        refine pput hx hb hts inX0 tyX0 tyX0_ok nmX0 hown hK hP hA hS hw (j := 6+2*i) (by omega) (wcel_b hi) rfl 7 (by decide) (hts (.fieldLink RX5 91 "TileRunners$Body" "vertical" "I") (List.mem_of_getElem? (i := 2) rfl)) (fun _ h9 => h9) rfl (tyX0_ok 7 (by decide)) rfl rfl (Nat.le_of_ble_eq_true rfl) (336+24*i+3) (own_b hi (by decide) (by decide)) (setB_7 hi) dX5_cutJump_25 (fun u9 H locs eu9 hP hS => ?_)
        obtain ⟨u25, e_u25⟩ : ∃ z, z = u9 := ⟨_, rfl⟩
        rw [← e_u25] at hP eu9
        have hF := bnd_s eu9 hF
        have hO := okW_up eu9 hO (by omega) (by omega)
        exact W.vret hx hb hr (fun t ht hW => ⟨⟨u25, rfl, ⟨hF.trans hFF, hO⟩, ho_of ht hP⟩, hS.F ht⟩) hS.2.2 dX5_cutJump_28
theorem hd_X5_cutJumpV : yX5_cutJump.cls = RX5 ∧ yX5_cutJump.cls ≠ "java/lang/invoke/MethodHandle" ∧ yX5_cutJump.cls ≠ "java/lang/invoke/VarHandle" ∧ (parseMethodDescriptor yX5_cutJump.desc).map (fun d => d.parameters.length) = some 1 := by decide +kernel
set_option maxHeartbeats 4000000 in
set_option maxRecDepth 100000 in
theorem c5_accelerateDown (l : Launch) {D : va_G} {G : CY} {ad : Nat → Nat} {B0 : Nat} (hA : adOK B0 ad) (σ : Nat → Nat → Int32) (u : Nat → Int32) (w : Nat) (hw : w < 15) (i : Nat) (hi : i < 4) (a : Int32) (hO : okW u) : Met l yX5_accelerateDown wsX5_accelerateDown { frames := 2, cells := 0, slots := 0, locals := 60 } (va_Pc [.ref (ad (18*w+0)), .ref (ad (18*w+(6+2*i))), .int a] (Hp D G ad (va_up σ w u))) (va_Qv (fun (z : Nat → Int32) => z = f5_accelerateDown u i a ∧ okW z) (fun (z : Nat → Int32) => Ho D G ad (va_up σ w z)) (AA B0)) 0 0 (AA B0) := by
  refine Met.ofW (cc := cX5_accelerateDown) (maxL := 3) (ret := none) (by decide) rfl ?_
  intro p e s m args below meth c s₁ B hml hv
  obtain ⟨rfl, hP, hK, hN⟩ := hv
  have hx := B.exec
  have hb := B.bytes
  have hr := B.returns
  have hts := atoms_spec (ws := wsX5_accelerateDown) B.pre
  have hown : s.vm.findClass RX5 = some m.cls := findClass_of_methodNamed B.named
  have hlocks := B.notSynchronized
  have inX0 : ∀ w ∈ wsX00, w ∈ wsX5_accelerateDown := (fun w h => List.mem_cons_of_mem _ (List.mem_append_left _ (List.mem_append_left _ (List.mem_append_left _ (List.mem_append_right _ h)))))
  have inX5 : ∀ w ∈ wsX50, w ∈ wsX5_accelerateDown := (fun w h => List.mem_cons_of_mem _ (List.mem_append_left _ (List.mem_append_left _ (List.mem_append_right _ h))))
  have hP : va_P D vwCl (pool G ad (va_up σ w u)) s.heap := hP
  have hS : va_S (AA B0) s.heap s.heap [] := va_S.rf
  have hl := lv_entry ([.ref (ad (18*w+0)), .ref (ad (18*w+(6+2*i))), .int a]) (n := 3) (Nat.le_of_ble_eq_true rfl)
  rw [lg_entry_eq]
  generalize (lg_sl ([.ref (ad (18*w+0)), .ref (ad (18*w+(6+2*i))), .int a]) ++ List.replicate (3 - (lg_sl ([.ref (ad (18*w+0)), .ref (ad (18*w+(6+2*i))), .int a])).length) Slot.unset).toArray = ls at hl ⊢
  have hl : lv_has ls 3 [(0, .ref (ad (18*w+0))), (1, .ref (ad (18*w+(6+2*i)))), (2, .int a)] := hl
  obtain ⟨FF, hFF⟩ : ∃ z, z = f5_accelerateDown u i a := ⟨_, rfl⟩
  have hF := hFF.symm
  rw [f5_accelerateDown] at hF
  refine lv_aload_n hx hb dX5_accelerateDown_0 rfl (lv_at hl 1 rfl) ?_
  refine lv_bipush (v := (-12)) hx hb dX5_accelerateDown_1 (by decide) ?_
  refine lv_aload_n hx hb dX5_accelerateDown_3 rfl (lv_at hl 1 rfl) ?_
  refine va_get (D := D) (ci := 2) (C := RX0) (T := TX0) (N := 16) hx hb hts inX0 hown hK hP (18*w+(6+2*i)) (c_b hw hi) rfl 7 (by decide) (hts (.fieldLink RX5 91 "TileRunners$Body" "vertical" "I") (List.mem_of_getElem? (i := 1) rfl)) (fun _ h9 => h9) rfl dX5_accelerateDown_4 ?_
  refine lv_iconst (v := 1) hx hb dX5_accelerateDown_7 (by decide) ?_
  refine lv_isub hx hb dX5_accelerateDown_8 ?_
  refine va_mmax hx hb (hml.trans hl.1.symm) hown (hts _ (List.mem_of_getElem? (i := 2) rfl)) (hts _ (List.mem_of_getElem? (i := 3) rfl)) (hts _ (List.mem_of_getElem? (i := 4) rfl)) (hts _ (List.mem_of_getElem? (i := 5) rfl)) (Nat.le_of_ble_eq_true rfl) (Nat.le_of_ble_eq_true rfl) (Nat.zero_le _) (Nat.zero_le _) dX5_accelerateDown_9 ?_
  refine pput hx hb hts inX0 tyX0 tyX0_ok nmX0 hown hK hP hA hS hw (j := 6+2*i) (by omega) (wcel_b hi) rfl 7 (by decide) (hts (.fieldLink RX5 91 "TileRunners$Body" "vertical" "I") (List.mem_of_getElem? (i := 1) rfl)) (fun _ h9 => h9) rfl (tyX0_ok 7 (by decide)) rfl rfl (Nat.le_of_ble_eq_true rfl) (336+24*i+3) (own_b hi (by decide) (by decide)) (setB_7 hi) dX5_accelerateDown_12 (fun u9 H locs eu9 hP hS => ?_)
  obtain ⟨u12, e_u12⟩ : ∃ z, z = u9 := ⟨_, rfl⟩
  rw [← e_u12] at hP eu9
  have hF := bnd_s eu9 hF
  have hO := okW_up eu9 hO (by omega) (by omega)
  refine lv_iload_n hx hb dX5_accelerateDown_15 rfl (lv_at hl 2 rfl) ?_
  refine lv_if_eq (tgt := 55) hx hb dX5_accelerateDown_16 (by decide) (fun c16 => ?_) (fun c16 => ?_)
  · have hF := ift c16 hF
    exact W.vret hx hb hr (fun t ht hW => ⟨⟨u12, rfl, ⟨hF.trans hFF, hO⟩, ho_of ht hP⟩, hS.F ht⟩) hS.2.2 dX5_accelerateDown_55
  · have hF := iff_ c16 hF
    refine lv_aload_n hx hb dX5_accelerateDown_19 rfl (lv_at hl 1 rfl) ?_
    refine va_get (D := D) (ci := 2) (C := RX0) (T := TX0) (N := 16) hx hb hts inX0 hown hK hP (18*w+(6+2*i)) (c_b hw hi) rfl 7 (by decide) (hts (.fieldLink RX5 91 "TileRunners$Body" "vertical" "I") (List.mem_of_getElem? (i := 1) rfl)) (fun _ h9 => h9) rfl dX5_accelerateDown_20 ?_
    refine lv_bipush (v := (-3)) hx hb dX5_accelerateDown_23 (by decide) ?_
    refine lv_icmp_ge (tgt := 55) hx hb dX5_accelerateDown_25 (by decide) (fun c25 => ?_) (fun c25 => ?_)
    · have hF := ift c25 hF
      exact W.vret hx hb hr (fun t ht hW => ⟨⟨u12, rfl, ⟨hF.trans hFF, hO⟩, ho_of ht hP⟩, hS.F ht⟩) hS.2.2 dX5_accelerateDown_55
    · have hF := iff_ c25 hF
      refine lv_aload_n hx hb dX5_accelerateDown_28 rfl (lv_at hl 0 rfl) ?_
      refine va_get (D := D) (ci := 7) (C := RX5) (T := TX5) (N := 7) hx hb hts inX5 hown hK hP (18*w+0) (c_o hw) rfl 0 (by decide) (hts (.fieldLink RX5 12 "TileRunners$World" "tiles" "LTileRunners$Tiles;") (List.mem_of_getElem? (i := 6) rfl)) (fun _ h9 => h9) rfl dX5_accelerateDown_29 ?_
      refine lv_aload_n hx hb dX5_accelerateDown_32 rfl (lv_at hl 1 rfl) ?_
      refine lv_aload_n hx hb dX5_accelerateDown_33 rfl (lv_at hl 1 rfl) ?_
      refine va_get (D := D) (ci := 2) (C := RX0) (T := TX0) (N := 16) hx hb hts inX0 hown hK hP (18*w+(6+2*i)) (c_b hw hi) rfl 0 (by decide) (hts (.fieldLink RX5 56 "TileRunners$Body" "x" "I") (List.mem_of_getElem? (i := 7) rfl)) (fun _ h9 => h9) rfl dX5_accelerateDown_34 ?_
      refine lv_iload_n hx hb dX5_accelerateDown_37 rfl (lv_at hl 2 rfl) ?_
      refine lv_iadd hx hb dX5_accelerateDown_38 ?_
      refine lv_aload_n hx hb dX5_accelerateDown_39 rfl (lv_at hl 1 rfl) ?_
      refine va_get (D := D) (ci := 2) (C := RX0) (T := TX0) (N := 16) hx hb hts inX0 hown hK hP (18*w+(6+2*i)) (c_b hw hi) rfl 1 (by decide) (hts (.fieldLink RX5 59 "TileRunners$Body" "y" "I") (List.mem_of_getElem? (i := 8) rfl)) (fun _ h9 => h9) rfl dX5_accelerateDown_40 ?_
      refine va_calli (va_runV (As := [.ref (ad (18*w+(6+2*i))), .int ((u12 (336+24*i+0)) + a), .int (u12 (336+24*i+1))]) (rest := []) ⟨hx, hb, hml, hown, hts⟩ (c4_block l hA σ u12 w hw i hi ((u12 (336+24*i+0)) + a) (u12 (336+24*i+1)) ) (cwV 3 hts gX5_accelerateDown_X4_block rfl rfl rfl hd_X4_blockV ⟨Nat.le_of_ble_eq_true rfl, Nat.le_of_ble_eq_true rfl⟩) ⟨hp_blind, va_recv hK hP (ci := 6) (q0 := 18*w+1) rfl (c_t hw), hp_pre hK hN hP⟩ rfl rfl hl.1 rfl (lv_room (Nat.le_of_ble_eq_true rfl)) dX5_accelerateDown_43 ⟨Nat.zero_le _, Nat.zero_le _⟩) hS (fun _ _ h => h) (fun _ h => h) (fun r43 _ t H locs ht hvm hw9 hB hz1 hk1 hS => ?_)
      have hP := ho_at ht hB
      obtain ⟨eq43, hb_r43⟩ := hw9
      have hF := bnd_s eq43 hF
      refine lv_if_eq (tgt := 55) hx hb dX5_accelerateDown_46 (by decide) (fun c46 => ?_) (fun c46 => ?_)
      · have hF := ift c46 hF
        exact W.vret hx hb hr (fun t ht hW => ⟨⟨u12, rfl, ⟨hF.trans hFF, hO⟩, ho_of ht hP⟩, hS.F ht⟩) hS.2.2 dX5_accelerateDown_55
      · have hF := iff_ c46 hF
        refine lv_aload_n hx hb dX5_accelerateDown_49 rfl (lv_at hl 1 rfl) ?_
        refine lv_bipush (v := (-3)) hx hb dX5_accelerateDown_50 (by decide) ?_
        refine pput hx hb hts inX0 tyX0 tyX0_ok nmX0 hown hK hP hA hS hw (j := 6+2*i) (by omega) (wcel_b hi) rfl 7 (by decide) (hts (.fieldLink RX5 91 "TileRunners$Body" "vertical" "I") (List.mem_of_getElem? (i := 1) rfl)) (fun _ h9 => h9) rfl (tyX0_ok 7 (by decide)) rfl rfl (Nat.le_of_ble_eq_true rfl) (336+24*i+3) (own_b hi (by decide) (by decide)) (setB_7 hi) dX5_accelerateDown_52 (fun u9 H locs eu9 hP hS => ?_)
        obtain ⟨u52, e_u52⟩ : ∃ z, z = u9 := ⟨_, rfl⟩
        rw [← e_u52] at hP eu9
        have hF := bnd_s eu9 hF
        have hO := okW_up eu9 hO (by omega) (by omega)
        exact W.vret hx hb hr (fun t ht hW => ⟨⟨u52, rfl, ⟨hF.trans hFF, hO⟩, ho_of ht hP⟩, hS.F ht⟩) hS.2.2 dX5_accelerateDown_55
theorem hd_X5_accelerateDownV : yX5_accelerateDown.cls = RX5 ∧ yX5_accelerateDown.cls ≠ "java/lang/invoke/MethodHandle" ∧ yX5_accelerateDown.cls ≠ "java/lang/invoke/VarHandle" ∧ (parseMethodDescriptor yX5_accelerateDown.desc).map (fun d => d.parameters.length) = some 2 := by decide +kernel
set_option maxHeartbeats 4000000 in
set_option maxRecDepth 100000 in
theorem c5_rideBelts (l : Launch) {D : va_G} {G : CY} {ad : Nat → Nat} {B0 : Nat} (hA : adOK B0 ad) (σ : Nat → Nat → Int32) (u : Nat → Int32) (w : Nat) (hw : w < 15) (i : Nat) (hi : i < 4) (hO : okW u) : Met l yX5_rideBelts wsX5_rideBelts { frames := 4, cells := 0, slots := 0, locals := 102 } (va_Pc [.ref (ad (18*w+0)), .ref (ad (18*w+(6+2*i)))] (Hp D G ad (va_up σ w u))) (va_Qv (fun (z : Nat → Int32) => z = f5_rideBelts u i ∧ okW z) (fun (z : Nat → Int32) => Ho D G ad (va_up σ w z)) (AA B0)) 0 0 (AA B0) := by
  refine Met.ofW (cc := cX5_rideBelts) (maxL := 3) (ret := none) (by decide) rfl ?_
  intro p e s m args below meth c s₁ B hml hv
  obtain ⟨rfl, hP, hK, hN⟩ := hv
  have hx := B.exec
  have hb := B.bytes
  have hr := B.returns
  have hts := atoms_spec (ws := wsX5_rideBelts) B.pre
  have hown : s.vm.findClass RX5 = some m.cls := findClass_of_methodNamed B.named
  have hlocks := B.notSynchronized
  have inX0 : ∀ w ∈ wsX00, w ∈ wsX5_rideBelts := (fun w h => List.mem_cons_of_mem _ (List.mem_append_left _ (List.mem_append_left _ (List.mem_append_left _ (List.mem_append_right _ h)))))
  have inX5 : ∀ w ∈ wsX50, w ∈ wsX5_rideBelts := (fun w h => List.mem_cons_of_mem _ (List.mem_append_left _ (List.mem_append_left _ (List.mem_append_left _ (List.mem_append_left _ (List.mem_append_right _ h))))))
  have hP : va_P D vwCl (pool G ad (va_up σ w u)) s.heap := hP
  have hS : va_S (AA B0) s.heap s.heap [] := va_S.rf
  have hl := lv_entry ([.ref (ad (18*w+0)), .ref (ad (18*w+(6+2*i)))]) (n := 3) (Nat.le_of_ble_eq_true rfl)
  rw [lg_entry_eq]
  generalize (lg_sl ([.ref (ad (18*w+0)), .ref (ad (18*w+(6+2*i)))]) ++ List.replicate (3 - (lg_sl ([.ref (ad (18*w+0)), .ref (ad (18*w+(6+2*i)))])).length) Slot.unset).toArray = ls at hl ⊢
  have hl : lv_has ls 3 [(0, .ref (ad (18*w+0))), (1, .ref (ad (18*w+(6+2*i))))] := hl
  obtain ⟨FF, hFF⟩ : ∃ z, z = f5_rideBelts u i := ⟨_, rfl⟩
  have hF := hFF.symm
  rw [f5_rideBelts] at hF
  refine lv_aload_n hx hb dX5_rideBelts_0 rfl (lv_at hl 0 rfl) ?_
  refine va_get (D := D) (ci := 7) (C := RX5) (T := TX5) (N := 7) hx hb hts inX5 hown hK hP (18*w+0) (c_o hw) rfl 0 (by decide) (hts (.fieldLink RX5 12 "TileRunners$World" "tiles" "LTileRunners$Tiles;") (List.mem_of_getElem? (i := 1) rfl)) (fun _ h9 => h9) rfl dX5_rideBelts_1 ?_
  refine lv_aload_n hx hb dX5_rideBelts_4 rfl (lv_at hl 1 rfl) ?_
  refine lv_aload_n hx hb dX5_rideBelts_5 rfl (lv_at hl 1 rfl) ?_
  refine va_get (D := D) (ci := 2) (C := RX0) (T := TX0) (N := 16) hx hb hts inX0 hown hK hP (18*w+(6+2*i)) (c_b hw hi) rfl 0 (by decide) (hts (.fieldLink RX5 56 "TileRunners$Body" "x" "I") (List.mem_of_getElem? (i := 2) rfl)) (fun _ h9 => h9) rfl dX5_rideBelts_6 ?_
  refine lv_aload_n hx hb dX5_rideBelts_9 rfl (lv_at hl 1 rfl) ?_
  refine va_get (D := D) (ci := 2) (C := RX0) (T := TX0) (N := 16) hx hb hts inX0 hown hK hP (18*w+(6+2*i)) (c_b hw hi) rfl 1 (by decide) (hts (.fieldLink RX5 59 "TileRunners$Body" "y" "I") (List.mem_of_getElem? (i := 3) rfl)) (fun _ h9 => h9) rfl dX5_rideBelts_10 ?_
  refine va_calli (va_runV (As := [.ref (ad (18*w+(6+2*i))), .int (u (336+24*i+0)), .int (u (336+24*i+1))]) (rest := []) ⟨hx, hb, hml, hown, hts⟩ (c4_firmKindsBelow l hA σ u w hw i hi (u (336+24*i+0)) (u (336+24*i+1)) ) (cwV 3 hts gX5_rideBelts_X4_firmKindsBelow rfl rfl rfl hd_X4_firmKindsBelowV ⟨Nat.le_of_ble_eq_true rfl, Nat.le_of_ble_eq_true rfl⟩) ⟨hp_blind, va_recv hK hP (ci := 6) (q0 := 18*w+1) rfl (c_t hw), hp_pre hK hN hP⟩ rfl rfl hl.1 rfl (lv_room (Nat.le_of_ble_eq_true rfl)) dX5_rideBelts_13 ⟨Nat.zero_le _, Nat.zero_le _⟩) hS (fun _ _ h => h) (fun _ h => h) (fun r13 _ t H locs ht hvm hw9 hB hz1 hk1 hS => ?_)
  have hP := ho_at ht hB
  have eq13 := hw9
  have hF := bnd_s eq13 hF
  refine lv_istore_n (lv' := [(2, .int r13), (0, .ref (ad (18*w+0))), (1, .ref (ad (18*w+(6+2*i))))]) hx hb dX5_rideBelts_16 rfl hl (by decide) rfl (fun ls hl => ?_)
  refine lv_iload_n hx hb dX5_rideBelts_17 rfl (lv_at hl 0 rfl) ?_
  refine lv_bipush (v := 64) hx hb dX5_rideBelts_18 (by decide) ?_
  refine lv_iand hx hb dX5_rideBelts_20 ?_
  have J43 : ∀ (u_43 : (Nat → Int32)) (H : Heap) (locs : List Loc) (ls : Array Slot), okW u_43 → va_P D vwCl (pool G ad (va_up σ w u_43)) H → va_S (AA B0) s.heap H locs → lv_has ls 3 [(2, .int r13), (0, .ref (ad (18*w+0))), (1, .ref (ad (18*w+(6+2*i))))] → f5_rideBelts_b43 i r13 u_43 = FF → W p l e (headSpec wsX5_rideBelts { frames := 4, cells := 0, slots := 0, locals := 102 }).room s m ([.ref (ad (18*w+0)), .ref (ad (18*w+(6+2*i)))] : List Value).toArray below meth c H locs 0 0 (MQ below (va_Qv (fun (z : Nat → Int32) => z = f5_rideBelts u i ∧ okW z) (fun (z : Nat → Int32) => Ho D G ad (va_up σ w z)) (AA B0)) ([.ref (ad (18*w+0)), .ref (ad (18*w+(6+2*i)))] : List Value).toArray s 0 0 (AA B0)) (F0 m 43 ls []) := by
    intro u_43 H locs ls hO hP hS hl hF
    rw [f5_rideBelts_b43] at hF
    refine lv_iload_n hx hb dX5_rideBelts_43 rfl (lv_at hl 0 rfl) ?_
    refine lv_sipush (v := 128) hx hb dX5_rideBelts_44 (by decide) ?_
    refine lv_iand hx hb dX5_rideBelts_47 ?_
    refine lv_if_eq (tgt := 70) hx hb dX5_rideBelts_48 (by decide) (fun c48 => ?_) (fun c48 => ?_)
    · have hF := ift c48 hF
      exact W.vret hx hb hr (fun t ht hW => ⟨⟨u_43, rfl, ⟨hF.trans hFF, hO⟩, ho_of ht hP⟩, hS.F ht⟩) hS.2.2 dX5_rideBelts_70
    · have hF := iff_ c48 hF
      refine lv_aload_n hx hb dX5_rideBelts_51 rfl (lv_at hl 1 rfl) ?_
      refine lv_aload_n hx hb dX5_rideBelts_52 rfl (lv_at hl 2 rfl) ?_
      refine lv_iconst (v := (-1)) hx hb dX5_rideBelts_53 (by decide) ?_
      refine va_calli (va_runV (As := [.ref (ad (18*w+(6+2*i))), .int (-1)]) (rest := []) ⟨hx, hb, hml, hown, hts⟩ (c5_stepSideways l hA σ u_43 w hw i hi (-1) hO) (cwV 2 hts gX5_rideBelts_X5_stepSideways rfl rfl rfl hd_X5_stepSidewaysV ⟨Nat.le_of_ble_eq_true rfl, Nat.le_of_ble_eq_true rfl⟩) ⟨hp_blind, va_recv hK hP (ci := 7) (q0 := 18*w+0) rfl (c_o hw), hp_pre hK hN hP⟩ rfl rfl hl.1 rfl (lv_room (Nat.le_of_ble_eq_true rfl)) dX5_rideBelts_54 ⟨Nat.zero_le _, Nat.zero_le _⟩) hS (fun _ _ h => h) (fun _ h => h) (fun r54 u9 t H locs ht hvm hw9 hB hz1 hk1 hS => ?_)
      have hP := ho_at ht hB
      obtain ⟨eq54, ok9, hb_r54⟩ := hw9
      obtain ⟨u54, e_u54⟩ : ∃ z, z = u9 := ⟨_, rfl⟩
      rw [← e_u54] at hP eq54 ok9
      have hO := ok9
      have hF := bnd2_s eq54 hF
      refine lv_if_eq (tgt := 70) hx hb dX5_rideBelts_57 (by decide) (fun c57 => ?_) (fun c57 => ?_)
      · have hF := ift c57 hF
        exact W.vret hx hb hr (fun t ht hW => ⟨⟨u54, rfl, ⟨hF.trans hFF, hO⟩, ho_of ht hP⟩, hS.F ht⟩) hS.2.2 dX5_rideBelts_70
      · have hF := iff_ c57 hF
        refine lv_aload_n hx hb dX5_rideBelts_60 rfl (lv_at hl 2 rfl) ?_
        refine va_get (D := D) (ci := 2) (C := RX0) (T := TX0) (N := 16) hx hb hts inX0 hown hK hP (18*w+(6+2*i)) (c_b hw hi) rfl 15 (by decide) (hts (.fieldLink RX5 185 "TileRunners$Body" "statistics" "[I") (List.mem_of_getElem? (i := 4) rfl)) (fun _ h9 => h9) rfl dX5_rideBelts_61 ?_
        refine lv_iconst (v := 4) hx hb dX5_rideBelts_64 (by decide) ?_
        refine lv_dup2_11 hx hb dX5_rideBelts_65 rfl rfl ?_
        refine pald (n := 7) (o := 336+24*i+14) (t := 336+24*i+18) (i := 4) hx hb hK hP (c_s hw hi) (vp_in_iff.mpr (by decide)) rfl dX5_rideBelts_66 ?_
        refine lv_iconst (v := 1) hx hb dX5_rideBelts_67 (by decide) ?_
        refine lv_iadd hx hb dX5_rideBelts_68 ?_
        have hin9 : vp_in 4 7 := (vp_in_iff.mpr (by decide))
        refine past (n := 7) (o := 336+24*i+14) (t := 336+24*i+18) hx hb hK hP hA hS hw (j := 7+2*i) (by omega) (fun _ => wcel_s hi) (fun k9 hk9 => own_s hi hk9) hin9 rfl dX5_rideBelts_69 (fun u9 H locs eu9 hP hS => ?_)
        have hlt9 := in_lt hin9
        obtain ⟨u69, e_u69⟩ : ∃ z, z = u9 := ⟨_, rfl⟩
        rw [← e_u69] at hP eu9
        have hF := bnd_s eu9 hF
        have hO := okW_up eu9 hO (by omega) (by omega)
        exact W.vret hx hb hr (fun t ht hW => ⟨⟨u69, rfl, ⟨hF.trans hFF, hO⟩, ho_of ht hP⟩, hS.F ht⟩) hS.2.2 dX5_rideBelts_70
  refine lv_if_eq (tgt := 43) hx hb dX5_rideBelts_21 (by decide) (fun c21 => ?_) (fun c21 => ?_)
  · have hF := ift c21 hF
    exact J43 u _ _ ls hO hP hS (lv_sub hl [0, 1, 2] rfl) hF
  · have hF := iff_ c21 hF
    refine lv_aload_n hx hb dX5_rideBelts_24 rfl (lv_at hl 1 rfl) ?_
    refine lv_aload_n hx hb dX5_rideBelts_25 rfl (lv_at hl 2 rfl) ?_
    refine lv_iconst (v := 1) hx hb dX5_rideBelts_26 (by decide) ?_
    refine va_calli (va_runV (As := [.ref (ad (18*w+(6+2*i))), .int 1]) (rest := []) ⟨hx, hb, hml, hown, hts⟩ (c5_stepSideways l hA σ u w hw i hi 1 hO) (cwV 2 hts gX5_rideBelts_X5_stepSideways rfl rfl rfl hd_X5_stepSidewaysV ⟨Nat.le_of_ble_eq_true rfl, Nat.le_of_ble_eq_true rfl⟩) ⟨hp_blind, va_recv hK hP (ci := 7) (q0 := 18*w+0) rfl (c_o hw), hp_pre hK hN hP⟩ rfl rfl hl.1 rfl (lv_room (Nat.le_of_ble_eq_true rfl)) dX5_rideBelts_27 ⟨Nat.zero_le _, Nat.zero_le _⟩) hS (fun _ _ h => h) (fun _ h => h) (fun r27 u9 t H locs ht hvm hw9 hB hz1 hk1 hS => ?_)
    have hP := ho_at ht hB
    obtain ⟨eq27, ok9, hb_r27⟩ := hw9
    obtain ⟨u27, e_u27⟩ : ∃ z, z = u9 := ⟨_, rfl⟩
    rw [← e_u27] at hP eq27 ok9
    have hO := ok9
    have hF := bnd2_s eq27 hF
    refine lv_if_eq (tgt := 43) hx hb dX5_rideBelts_30 (by decide) (fun c30 => ?_) (fun c30 => ?_)
    · have hF := ift c30 hF
      exact J43 u27 _ _ ls hO hP hS (lv_sub hl [0, 1, 2] rfl) hF
    · have hF := iff_ c30 hF
      refine lv_aload_n hx hb dX5_rideBelts_33 rfl (lv_at hl 2 rfl) ?_
      refine va_get (D := D) (ci := 2) (C := RX0) (T := TX0) (N := 16) hx hb hts inX0 hown hK hP (18*w+(6+2*i)) (c_b hw hi) rfl 15 (by decide) (hts (.fieldLink RX5 185 "TileRunners$Body" "statistics" "[I") (List.mem_of_getElem? (i := 4) rfl)) (fun _ h9 => h9) rfl dX5_rideBelts_34 ?_
      refine lv_iconst (v := 4) hx hb dX5_rideBelts_37 (by decide) ?_
      refine lv_dup2_11 hx hb dX5_rideBelts_38 rfl rfl ?_
      refine pald (n := 7) (o := 336+24*i+14) (t := 336+24*i+18) (i := 4) hx hb hK hP (c_s hw hi) (vp_in_iff.mpr (by decide)) rfl dX5_rideBelts_39 ?_
      refine lv_iconst (v := 1) hx hb dX5_rideBelts_40 (by decide) ?_
      refine lv_iadd hx hb dX5_rideBelts_41 ?_
      have hin9 : vp_in 4 7 := (vp_in_iff.mpr (by decide))
      refine past (n := 7) (o := 336+24*i+14) (t := 336+24*i+18) hx hb hK hP hA hS hw (j := 7+2*i) (by omega) (fun _ => wcel_s hi) (fun k9 hk9 => own_s hi hk9) hin9 rfl dX5_rideBelts_42 (fun u9 H locs eu9 hP hS => ?_)
      have hlt9 := in_lt hin9
      obtain ⟨u42, e_u42⟩ : ∃ z, z = u9 := ⟨_, rfl⟩
      rw [← e_u42] at hP eu9
      have hF := bnd_s eu9 hF
      have hO := okW_up eu9 hO (by omega) (by omega)
      exact J43 u42 _ _ ls hO hP hS (lv_sub hl [0, 1, 2] rfl) hF
theorem hd_X5_rideBeltsV : yX5_rideBelts.cls = RX5 ∧ yX5_rideBelts.cls ≠ "java/lang/invoke/MethodHandle" ∧ yX5_rideBelts.cls ≠ "java/lang/invoke/VarHandle" ∧ (parseMethodDescriptor yX5_rideBelts.desc).map (fun d => d.parameters.length) = some 1 := by decide +kernel
set_option maxHeartbeats 4000000 in
set_option maxRecDepth 100000 in
theorem c5_run (l : Launch) {D : va_G} {G : CY} {ad : Nat → Nat} {B0 : Nat} (hA : adOK B0 ad) (σ : Nat → Nat → Int32) (u : Nat → Int32) (w : Nat) (hw : w < 15) (i : Nat) (hi : i < 4) (hO : okW u) : Met l yX5_run wsX5_run { frames := 4, cells := 0, slots := 0, locals := 102 } (va_Pc [.ref (ad (18*w+0)), .ref (ad (18*w+(6+2*i)))] (Hp D G ad (va_up σ w u))) (va_Qv (fun (z : Nat → Int32) => z = f5_run u i ∧ okW z) (fun (z : Nat → Int32) => Ho D G ad (va_up σ w z)) (AA B0)) 0 0 (AA B0) := by
  refine Met.ofW (cc := cX5_run) (maxL := 4) (ret := none) (by decide) rfl ?_
  intro p e s m args below meth c s₁ B hml hv
  obtain ⟨rfl, hP, hK, hN⟩ := hv
  have hx := B.exec
  have hb := B.bytes
  have hr := B.returns
  have hts := atoms_spec (ws := wsX5_run) B.pre
  have hown : s.vm.findClass RX5 = some m.cls := findClass_of_methodNamed B.named
  have hlocks := B.notSynchronized
  have inX0 : ∀ w ∈ wsX00, w ∈ wsX5_run := (fun w h => List.mem_cons_of_mem _ (List.mem_append_left _ (List.mem_append_left _ (List.mem_append_left _ (List.mem_append_left _ (List.mem_append_right _ h))))))
  have hP : va_P D vwCl (pool G ad (va_up σ w u)) s.heap := hP
  have hS : va_S (AA B0) s.heap s.heap [] := va_S.rf
  have hl := lv_entry ([.ref (ad (18*w+0)), .ref (ad (18*w+(6+2*i)))]) (n := 4) (Nat.le_of_ble_eq_true rfl)
  rw [lg_entry_eq]
  generalize (lg_sl ([.ref (ad (18*w+0)), .ref (ad (18*w+(6+2*i)))]) ++ List.replicate (4 - (lg_sl ([.ref (ad (18*w+0)), .ref (ad (18*w+(6+2*i)))])).length) Slot.unset).toArray = ls at hl ⊢
  have hl : lv_has ls 4 [(0, .ref (ad (18*w+0))), (1, .ref (ad (18*w+(6+2*i))))] := hl
  obtain ⟨FF, hFF⟩ : ∃ z, z = f5_run u i := ⟨_, rfl⟩
  have hF := hFF.symm
  rw [f5_run] at hF
  refine lv_aload_n hx hb dX5_run_0 rfl (lv_at hl 1 rfl) ?_
  refine va_get (D := D) (ci := 2) (C := RX0) (T := TX0) (N := 16) hx hb hts inX0 hown hK hP (18*w+(6+2*i)) (c_b hw hi) rfl 6 (by decide) (hts (.fieldLink RX5 198 "TileRunners$Body" "horizontal" "I") (List.mem_of_getElem? (i := 1) rfl)) (fun _ h9 => h9) rfl dX5_run_1 ?_
  have J12 : ∀ (t0_12 : Int32) (H : Heap) (locs : List Loc) (ls : Array Slot), va_P D vwCl (pool G ad (va_up σ w u)) H → va_S (AA B0) s.heap H locs → lv_has ls 4 [(0, .ref (ad (18*w+0))), (1, .ref (ad (18*w+(6+2*i))))] → f5_run_b12 u i t0_12 = FF → W p l e (headSpec wsX5_run { frames := 4, cells := 0, slots := 0, locals := 102 }).room s m ([.ref (ad (18*w+0)), .ref (ad (18*w+(6+2*i)))] : List Value).toArray below meth c H locs 0 0 (MQ below (va_Qv (fun (z : Nat → Int32) => z = f5_run u i ∧ okW z) (fun (z : Nat → Int32) => Ho D G ad (va_up σ w z)) (AA B0)) ([.ref (ad (18*w+0)), .ref (ad (18*w+(6+2*i)))] : List Value).toArray s 0 0 (AA B0)) (F0 m 12 ls [.int t0_12]) := by
    intro t0_12 H locs ls hP hS hl hF
    rw [f5_run_b12] at hF
    refine lv_istore_n (lv' := [(2, .int t0_12), (0, .ref (ad (18*w+0))), (1, .ref (ad (18*w+(6+2*i))))]) hx hb dX5_run_12 rfl hl (by decide) rfl (fun ls hl => ?_)
    refine lv_aload_n hx hb dX5_run_13 rfl (lv_at hl 2 rfl) ?_
    refine va_get (D := D) (ci := 2) (C := RX0) (T := TX0) (N := 16) hx hb hts inX0 hown hK hP (18*w+(6+2*i)) (c_b hw hi) rfl 6 (by decide) (hts (.fieldLink RX5 198 "TileRunners$Body" "horizontal" "I") (List.mem_of_getElem? (i := 1) rfl)) (fun _ h9 => h9) rfl dX5_run_14 ?_
    refine va_mabs hx hb (hml.trans hl.1.symm) hown (hts _ (List.mem_of_getElem? (i := 2) rfl)) (hts _ (List.mem_of_getElem? (i := 3) rfl)) (hts _ (List.mem_of_getElem? (i := 4) rfl)) (hts _ (List.mem_of_getElem? (i := 5) rfl)) (Nat.le_of_ble_eq_true rfl) (Nat.le_of_ble_eq_true rfl) (Nat.zero_le _) (Nat.zero_le _) dX5_run_17 ?_
    refine lv_topi (fun v3_20 e_v3_20 => ?_)
    have hF := bnd_s e_v3_20 hF
    refine lv_istore_n (lv' := [(3, .int v3_20), (2, .int t0_12), (0, .ref (ad (18*w+0))), (1, .ref (ad (18*w+(6+2*i))))]) hx hb dX5_run_20 rfl hl (by decide) rfl (fun ls hl => ?_)
    have L21 : ∀ (n21 : Nat) (w3_21 : Int32) (u_21 : (Nat → Int32)) (H : Heap) (locs : List Loc) (ls : Array Slot), w3_21.toInt.toNat < n21 → okW u_21 → va_P D vwCl (pool G ad (va_up σ w u_21)) H → va_S (AA B0) s.heap H locs → lv_has ls 4 [(3, .int w3_21), (2, .int t0_12), (0, .ref (ad (18*w+0))), (1, .ref (ad (18*w+(6+2*i))))] → f5_run_L21 i t0_12 n21 w3_21 u_21 = FF → W p l e (headSpec wsX5_run { frames := 4, cells := 0, slots := 0, locals := 102 }).room s m ([.ref (ad (18*w+0)), .ref (ad (18*w+(6+2*i)))] : List Value).toArray below meth c H locs 0 0 (MQ below (va_Qv (fun (z : Nat → Int32) => z = f5_run u i ∧ okW z) (fun (z : Nat → Int32) => Ho D G ad (va_up σ w z)) (AA B0)) ([.ref (ad (18*w+0)), .ref (ad (18*w+(6+2*i)))] : List Value).toArray s 0 0 (AA B0)) (F0 m 21 ls []) := by
      intro n21
      induction n21 with
      | zero => intro w3_21 u_21 H locs ls hm; exact absurd hm (Nat.not_lt_zero _)
      | succ n21 ih21 =>
        intro w3_21 u_21 H locs ls hm21 hO hP hS hl hF
        rw [f5_run_L21] at hF
        refine lv_iload_n hx hb dX5_run_21 rfl (lv_at hl 0 rfl) ?_
        refine lv_if_le (tgt := 56) hx hb dX5_run_22 (by decide) (fun c22 => ?_) (fun c22 => ?_)
        · have hF := ift c22 hF
          exact W.vret hx hb hr (fun t ht hW => ⟨⟨u_21, rfl, ⟨hF.trans hFF, hO⟩, ho_of ht hP⟩, hS.F ht⟩) hS.2.2 dX5_run_56
        · have hF := iff_ c22 hF
          refine lv_aload_n hx hb dX5_run_25 rfl (lv_at hl 2 rfl) ?_
          refine lv_aload_n hx hb dX5_run_26 rfl (lv_at hl 3 rfl) ?_
          refine lv_iload_n hx hb dX5_run_27 rfl (lv_at hl 1 rfl) ?_
          refine va_calli (va_runV (As := [.ref (ad (18*w+(6+2*i))), .int t0_12]) (rest := []) ⟨hx, hb, hml, hown, hts⟩ (c5_stepSideways l hA σ u_21 w hw i hi t0_12 hO) (cwV 2 hts gX5_run_X5_stepSideways rfl rfl rfl hd_X5_stepSidewaysV ⟨Nat.le_of_ble_eq_true rfl, Nat.le_of_ble_eq_true rfl⟩) ⟨hp_blind, va_recv hK hP (ci := 7) (q0 := 18*w+0) rfl (c_o hw), hp_pre hK hN hP⟩ rfl rfl hl.1 rfl (lv_room (Nat.le_of_ble_eq_true rfl)) dX5_run_28 ⟨Nat.zero_le _, Nat.zero_le _⟩) hS (fun _ _ h => h) (fun _ h => h) (fun r28 u9 t H locs ht hvm hw9 hB hz1 hk1 hS => ?_)
          have hP := ho_at ht hB
          obtain ⟨eq28, ok9, hb_r28⟩ := hw9
          obtain ⟨u28, e_u28⟩ : ∃ z, z = u9 := ⟨_, rfl⟩
          rw [← e_u28] at hP eq28 ok9
          have hO := ok9
          have hF := bnd2_s eq28 hF
          refine lv_if_ne (tgt := 40) hx hb dX5_run_31 (by decide) (fun c31 => ?_) (fun c31 => ?_)
          · have hF := iff_ c31 hF
            refine lv_aload_n hx hb dX5_run_40 rfl (lv_at hl 3 rfl) ?_
            refine va_get (D := D) (ci := 2) (C := RX0) (T := TX0) (N := 16) hx hb hts inX0 hown hK hP (18*w+(6+2*i)) (c_b hw hi) rfl 15 (by decide) (hts (.fieldLink RX5 185 "TileRunners$Body" "statistics" "[I") (List.mem_of_getElem? (i := 6) rfl)) (fun _ h9 => h9) rfl dX5_run_41 ?_
            refine lv_iconst (v := 4) hx hb dX5_run_44 (by decide) ?_
            refine lv_dup2_11 hx hb dX5_run_45 rfl rfl ?_
            refine pald (n := 7) (o := 336+24*i+14) (t := 336+24*i+18) (i := 4) hx hb hK hP (c_s hw hi) (vp_in_iff.mpr (by decide)) rfl dX5_run_46 ?_
            refine lv_iconst (v := 1) hx hb dX5_run_47 (by decide) ?_
            refine lv_iadd hx hb dX5_run_48 ?_
            have hin9 : vp_in 4 7 := (vp_in_iff.mpr (by decide))
            refine past (n := 7) (o := 336+24*i+14) (t := 336+24*i+18) hx hb hK hP hA hS hw (j := 7+2*i) (by omega) (fun _ => wcel_s hi) (fun k9 hk9 => own_s hi hk9) hin9 rfl dX5_run_49 (fun u9 H locs eu9 hP hS => ?_)
            have hlt9 := in_lt hin9
            obtain ⟨u49, e_u49⟩ : ∃ z, z = u9 := ⟨_, rfl⟩
            rw [← e_u49] at hP eu9
            have hF := bnd_s eu9 hF
            have hO := okW_up eu9 hO (by omega) (by omega)
            obtain ⟨v3_50, e_v3_50⟩ : ∃ z : Int32, z = w3_21 + (-1) := ⟨_, rfl⟩
            have hF := bnd_s e_v3_50 hF
            refine lv_iinc (v := v3_50) (lv' := [(3, .int v3_50), (2, .int t0_12), (0, .ref (ad (18*w+0))), (1, .ref (ad (18*w+(6+2*i))))]) hx hb dX5_run_50 hl (k := 0) rfl (by rw [e_v3_50]; rfl) (by decide) rfl (fun ls hl => ?_)
            refine lv_goto (tgt := 21) hx hb dX5_run_53 (by decide) ?_
            exact ih21 v3_50 u49 _ _ ls (ms_s (dec_dn (nle_lt c22) e_v3_50) hm21) hO hP hS (lv_sub hl [0, 1, 2, 3] rfl) hF
          · have hF := ift c31 hF
            refine lv_aload_n hx hb dX5_run_34 rfl (lv_at hl 3 rfl) ?_
            refine lv_iconst (v := 0) hx hb dX5_run_35 (by decide) ?_
            refine pput hx hb hts inX0 tyX0 tyX0_ok nmX0 hown hK hP hA hS hw (j := 6+2*i) (by omega) (wcel_b hi) rfl 6 (by decide) (hts (.fieldLink RX5 198 "TileRunners$Body" "horizontal" "I") (List.mem_of_getElem? (i := 1) rfl)) (fun _ h9 => h9) rfl (tyX0_ok 6 (by decide)) rfl rfl (Nat.le_of_ble_eq_true rfl) (336+24*i+2) (own_b hi (by decide) (by decide)) (setB_6 hi) dX5_run_36 (fun u9 H locs eu9 hP hS => ?_)
            obtain ⟨u36, e_u36⟩ : ∃ z, z = u9 := ⟨_, rfl⟩
            rw [← e_u36] at hP eu9
            have hF := bnd_s eu9 hF
            have hO := okW_up eu9 hO (by omega) (by omega)
            exact W.vret hx hb hr (fun t ht hW => ⟨⟨u36, rfl, ⟨hF.trans hFF, hO⟩, ho_of ht hP⟩, hS.F ht⟩) hS.2.2 dX5_run_39
    exact L21 BIG v3_20 u _ _ ls (big_dn _) hO hP hS (lv_sub hl [0, 1, 2, 3] rfl) hF
  refine lv_if_ge (tgt := 11) hx hb dX5_run_4 (by decide) (fun c4 => ?_) (fun c4 => ?_)
  · have hF := ift c4 hF
    refine lv_iconst (v := 1) hx hb dX5_run_11 (by decide) ?_
    exact J12 1 _ _ ls hP hS (lv_sub hl [0, 1] rfl) hF
  · have hF := iff_ c4 hF
    refine lv_iconst (v := (-1)) hx hb dX5_run_7 (by decide) ?_
    refine lv_goto (tgt := 12) hx hb dX5_run_8 (by decide) ?_
    exact J12 (-1) _ _ ls hP hS (lv_sub hl [0, 1] rfl) hF
theorem hd_X5_runV : yX5_run.cls = RX5 ∧ yX5_run.cls ≠ "java/lang/invoke/MethodHandle" ∧ yX5_run.cls ≠ "java/lang/invoke/VarHandle" ∧ (parseMethodDescriptor yX5_run.desc).map (fun d => d.parameters.length) = some 1 := by decide +kernel
set_option maxHeartbeats 4000000 in
set_option maxRecDepth 100000 in
theorem c5_land (l : Launch) {D : va_G} {G : CY} {ad : Nat → Nat} {B0 : Nat} (hA : adOK B0 ad) (σ : Nat → Nat → Int32) (u : Nat → Int32) (w : Nat) (hw : w < 15) (i : Nat) (hi : i < 4) (hO : okW u) : Met l yX5_land wsX5_land { frames := 2, cells := 0, slots := 0, locals := 52 } (va_Pc [.ref (ad (18*w+0)), .ref (ad (18*w+(6+2*i)))] (Hp D G ad (va_up σ w u))) (va_Qv (fun (z : Nat → Int32) => z = f5_land u i ∧ okW z) (fun (z : Nat → Int32) => Ho D G ad (va_up σ w z)) (AA B0)) 0 0 (AA B0) := by
  refine Met.ofW (cc := cX5_land) (maxL := 3) (ret := none) (by decide) rfl ?_
  intro p e s m args below meth c s₁ B hml hv
  obtain ⟨rfl, hP, hK, hN⟩ := hv
  have hx := B.exec
  have hb := B.bytes
  have hr := B.returns
  have hts := atoms_spec (ws := wsX5_land) B.pre
  have hown : s.vm.findClass RX5 = some m.cls := findClass_of_methodNamed B.named
  have hlocks := B.notSynchronized
  have inX0 : ∀ w ∈ wsX00, w ∈ wsX5_land := (fun w h => List.mem_cons_of_mem _ (List.mem_append_left _ (List.mem_append_left _ (List.mem_append_right _ h))))
  have inX5 : ∀ w ∈ wsX50, w ∈ wsX5_land := (fun w h => List.mem_cons_of_mem _ (List.mem_append_left _ (List.mem_append_left _ (List.mem_append_left _ (List.mem_append_right _ h)))))
  have hP : va_P D vwCl (pool G ad (va_up σ w u)) s.heap := hP
  have hS : va_S (AA B0) s.heap s.heap [] := va_S.rf
  have hl := lv_entry ([.ref (ad (18*w+0)), .ref (ad (18*w+(6+2*i)))]) (n := 3) (Nat.le_of_ble_eq_true rfl)
  rw [lg_entry_eq]
  generalize (lg_sl ([.ref (ad (18*w+0)), .ref (ad (18*w+(6+2*i)))]) ++ List.replicate (3 - (lg_sl ([.ref (ad (18*w+0)), .ref (ad (18*w+(6+2*i)))])).length) Slot.unset).toArray = ls at hl ⊢
  have hl : lv_has ls 3 [(0, .ref (ad (18*w+0))), (1, .ref (ad (18*w+(6+2*i))))] := hl
  obtain ⟨FF, hFF⟩ : ∃ z, z = f5_land u i := ⟨_, rfl⟩
  have hF := hFF.symm
  rw [f5_land] at hF
  refine lv_aload_n hx hb dX5_land_0 rfl (lv_at hl 0 rfl) ?_
  refine va_get (D := D) (ci := 7) (C := RX5) (T := TX5) (N := 7) hx hb hts inX5 hown hK hP (18*w+0) (c_o hw) rfl 0 (by decide) (hts (.fieldLink RX5 12 "TileRunners$World" "tiles" "LTileRunners$Tiles;") (List.mem_of_getElem? (i := 1) rfl)) (fun _ h9 => h9) rfl dX5_land_1 ?_
  refine lv_aload_n hx hb dX5_land_4 rfl (lv_at hl 1 rfl) ?_
  refine lv_aload_n hx hb dX5_land_5 rfl (lv_at hl 1 rfl) ?_
  refine va_get (D := D) (ci := 2) (C := RX0) (T := TX0) (N := 16) hx hb hts inX0 hown hK hP (18*w+(6+2*i)) (c_b hw hi) rfl 0 (by decide) (hts (.fieldLink RX5 56 "TileRunners$Body" "x" "I") (List.mem_of_getElem? (i := 2) rfl)) (fun _ h9 => h9) rfl dX5_land_6 ?_
  refine lv_aload_n hx hb dX5_land_9 rfl (lv_at hl 1 rfl) ?_
  refine va_get (D := D) (ci := 2) (C := RX0) (T := TX0) (N := 16) hx hb hts inX0 hown hK hP (18*w+(6+2*i)) (c_b hw hi) rfl 1 (by decide) (hts (.fieldLink RX5 59 "TileRunners$Body" "y" "I") (List.mem_of_getElem? (i := 3) rfl)) (fun _ h9 => h9) rfl dX5_land_10 ?_
  refine va_calli (va_runV (As := [.ref (ad (18*w+(6+2*i))), .int (u (336+24*i+0)), .int (u (336+24*i+1))]) (rest := []) ⟨hx, hb, hml, hown, hts⟩ (c4_firmKindsBelow l hA σ u w hw i hi (u (336+24*i+0)) (u (336+24*i+1)) ) (cwV 3 hts gX5_land_X4_firmKindsBelow rfl rfl rfl hd_X4_firmKindsBelowV ⟨Nat.le_of_ble_eq_true rfl, Nat.le_of_ble_eq_true rfl⟩) ⟨hp_blind, va_recv hK hP (ci := 6) (q0 := 18*w+1) rfl (c_t hw), hp_pre hK hN hP⟩ rfl rfl hl.1 rfl (lv_room (Nat.le_of_ble_eq_true rfl)) dX5_land_13 ⟨Nat.zero_le _, Nat.zero_le _⟩) hS (fun _ _ h => h) (fun _ h => h) (fun r13 _ t H locs ht hvm hw9 hB hz1 hk1 hS => ?_)
  have hP := ho_at ht hB
  have eq13 := hw9
  have hF := bnd_s eq13 hF
  refine lv_sipush (v := 256) hx hb dX5_land_16 (by decide) ?_
  refine lv_iand hx hb dX5_land_19 ?_
  have J28 : ∀ (t0_28 : Int32) (H : Heap) (locs : List Loc) (ls : Array Slot), bl t0_28 → va_P D vwCl (pool G ad (va_up σ w u)) H → va_S (AA B0) s.heap H locs → lv_has ls 3 [(1, .ref (ad (18*w+(6+2*i))))] → f5_land_b28 u i t0_28 = FF → W p l e (headSpec wsX5_land { frames := 2, cells := 0, slots := 0, locals := 52 }).room s m ([.ref (ad (18*w+0)), .ref (ad (18*w+(6+2*i)))] : List Value).toArray below meth c H locs 0 0 (MQ below (va_Qv (fun (z : Nat → Int32) => z = f5_land u i ∧ okW z) (fun (z : Nat → Int32) => Ho D G ad (va_up σ w z)) (AA B0)) ([.ref (ad (18*w+0)), .ref (ad (18*w+(6+2*i)))] : List Value).toArray s 0 0 (AA B0)) (F0 m 28 ls [.int t0_28]) := by
    intro t0_28 H locs ls hb_t0_28 hP hS hl hF
    rw [f5_land_b28] at hF
    refine lv_istore_n (lv' := [(2, .int t0_28), (1, .ref (ad (18*w+(6+2*i))))]) hx hb dX5_land_28 rfl hl (by decide) rfl (fun ls hl => ?_)
    refine lv_aload_n hx hb dX5_land_29 rfl (lv_at hl 1 rfl) ?_
    refine lv_iload_n hx hb dX5_land_30 rfl (lv_at hl 0 rfl) ?_
    have J40 : ∀ (t0_40 : Int32) (H : Heap) (locs : List Loc) (ls : Array Slot), va_P D vwCl (pool G ad (va_up σ w u)) H → va_S (AA B0) s.heap H locs → lv_has ls 3 [(1, .ref (ad (18*w+(6+2*i))))] → f5_land_b40 u i t0_40 = FF → W p l e (headSpec wsX5_land { frames := 2, cells := 0, slots := 0, locals := 52 }).room s m ([.ref (ad (18*w+0)), .ref (ad (18*w+(6+2*i)))] : List Value).toArray below meth c H locs 0 0 (MQ below (va_Qv (fun (z : Nat → Int32) => z = f5_land u i ∧ okW z) (fun (z : Nat → Int32) => Ho D G ad (va_up σ w z)) (AA B0)) ([.ref (ad (18*w+0)), .ref (ad (18*w+(6+2*i)))] : List Value).toArray s 0 0 (AA B0)) (F0 m 40 ls [.int t0_40, .ref (ad (18*w+(6+2*i)))]) := by
      intro t0_40 H locs ls hP hS hl hF
      rw [f5_land_b40] at hF
      refine pput hx hb hts inX0 tyX0 tyX0_ok nmX0 hown hK hP hA hS hw (j := 6+2*i) (by omega) (wcel_b hi) rfl 7 (by decide) (hts (.fieldLink RX5 91 "TileRunners$Body" "vertical" "I") (List.mem_of_getElem? (i := 4) rfl)) (fun _ h9 => h9) rfl (tyX0_ok 7 (by decide)) rfl rfl (Nat.le_of_ble_eq_true rfl) (336+24*i+3) (own_b hi (by decide) (by decide)) (setB_7 hi) dX5_land_40 (fun u9 H locs eu9 hP hS => ?_)
      obtain ⟨u40, e_u40⟩ : ∃ z, z = u9 := ⟨_, rfl⟩
      rw [← e_u40] at hP eu9
      have hF := bnd_s eu9 hF
      have hO := okW_up eu9 hO (by omega) (by omega)
      refine lv_aload_n hx hb dX5_land_43 rfl (lv_at hl 0 rfl) ?_
      refine va_get (D := D) (ci := 2) (C := RX0) (T := TX0) (N := 16) hx hb hts inX0 hown hK hP (18*w+(6+2*i)) (c_b hw hi) rfl 15 (by decide) (hts (.fieldLink RX5 185 "TileRunners$Body" "statistics" "[I") (List.mem_of_getElem? (i := 5) rfl)) (fun _ h9 => h9) rfl dX5_land_44 ?_
      refine lv_iconst (v := 3) hx hb dX5_land_47 (by decide) ?_
      refine lv_dup2_11 hx hb dX5_land_48 rfl rfl ?_
      refine pald (n := 7) (o := 336+24*i+14) (t := 336+24*i+17) (i := 3) hx hb hK hP (c_s hw hi) (vp_in_iff.mpr (by decide)) rfl dX5_land_49 ?_
      refine lv_iconst (v := 1) hx hb dX5_land_50 (by decide) ?_
      refine lv_iadd hx hb dX5_land_51 ?_
      have hin9 : vp_in 3 7 := (vp_in_iff.mpr (by decide))
      refine past (n := 7) (o := 336+24*i+14) (t := 336+24*i+17) hx hb hK hP hA hS hw (j := 7+2*i) (by omega) (fun _ => wcel_s hi) (fun k9 hk9 => own_s hi hk9) hin9 rfl dX5_land_52 (fun u9 H locs eu9 hP hS => ?_)
      have hlt9 := in_lt hin9
      obtain ⟨u52, e_u52⟩ : ∃ z, z = u9 := ⟨_, rfl⟩
      rw [← e_u52] at hP eu9
      have hF := bnd_s eu9 hF
      have hO := okW_up eu9 hO (by omega) (by omega)
      exact W.vret hx hb hr (fun t ht hW => ⟨⟨u52, rfl, ⟨hF.trans hFF, hO⟩, ho_of ht hP⟩, hS.F ht⟩) hS.2.2 dX5_land_53
    refine lv_if_eq (tgt := 39) hx hb dX5_land_31 (by decide) (fun c31 => ?_) (fun c31 => ?_)
    · have hF := ift c31 hF
      refine lv_iconst (v := 0) hx hb dX5_land_39 (by decide) ?_
      exact J40 0 _ _ ls hP hS (lv_sub hl [1] rfl) hF
    · have hF := iff_ c31 hF
      refine lv_bipush (v := 16) hx hb dX5_land_34 (by decide) ?_
      refine lv_goto (tgt := 40) hx hb dX5_land_36 (by decide) ?_
      exact J40 16 _ _ ls hP hS (lv_sub hl [1] rfl) hF
  refine lv_if_eq (tgt := 27) hx hb dX5_land_20 (by decide) (fun c20 => ?_) (fun c20 => ?_)
  · have hF := ift c20 hF
    refine lv_iconst (v := 0) hx hb dX5_land_27 (by decide) ?_
    exact J28 0 _ _ ls bl0 hP hS (lv_sub hl [1] rfl) hF
  · have hF := iff_ c20 hF
    refine lv_iconst (v := 1) hx hb dX5_land_23 (by decide) ?_
    refine lv_goto (tgt := 28) hx hb dX5_land_24 (by decide) ?_
    exact J28 1 _ _ ls bl1 hP hS (lv_sub hl [1] rfl) hF
theorem hd_X5_landV : yX5_land.cls = RX5 ∧ yX5_land.cls ≠ "java/lang/invoke/MethodHandle" ∧ yX5_land.cls ≠ "java/lang/invoke/VarHandle" ∧ (parseMethodDescriptor yX5_land.desc).map (fun d => d.parameters.length) = some 1 := by decide +kernel
set_option maxHeartbeats 4000000 in
set_option maxRecDepth 100000 in
theorem c5_riseOrFall (l : Launch) {D : va_G} {G : CY} {ad : Nat → Nat} {B0 : Nat} (hA : adOK B0 ad) (σ : Nat → Nat → Int32) (u : Nat → Int32) (w : Nat) (hw : w < 15) (i : Nat) (hi : i < 4) (hO : okW u) : Met l yX5_riseOrFall wsX5_riseOrFall { frames := 4, cells := 0, slots := 0, locals := 99 } (va_Pc [.ref (ad (18*w+0)), .ref (ad (18*w+(6+2*i)))] (Hp D G ad (va_up σ w u))) (va_Qv (fun (z : Nat → Int32) => z = f5_riseOrFall u i ∧ okW z) (fun (z : Nat → Int32) => Ho D G ad (va_up σ w z)) (AA B0)) 0 0 (AA B0) := by
  refine Met.ofW (cc := cX5_riseOrFall) (maxL := 3) (ret := none) (by decide) rfl ?_
  intro p e s m args below meth c s₁ B hml hv
  obtain ⟨rfl, hP, hK, hN⟩ := hv
  have hx := B.exec
  have hb := B.bytes
  have hr := B.returns
  have hts := atoms_spec (ws := wsX5_riseOrFall) B.pre
  have hown : s.vm.findClass RX5 = some m.cls := findClass_of_methodNamed B.named
  have hlocks := B.notSynchronized
  have inX0 : ∀ w ∈ wsX00, w ∈ wsX5_riseOrFall := (fun w h => List.mem_cons_of_mem _ (List.mem_append_left _ (List.mem_append_left _ (List.mem_append_left _ (List.mem_append_left _ (List.mem_append_right _ h))))))
  have hP : va_P D vwCl (pool G ad (va_up σ w u)) s.heap := hP
  have hS : va_S (AA B0) s.heap s.heap [] := va_S.rf
  have hl := lv_entry ([.ref (ad (18*w+0)), .ref (ad (18*w+(6+2*i)))]) (n := 3) (Nat.le_of_ble_eq_true rfl)
  rw [lg_entry_eq]
  generalize (lg_sl ([.ref (ad (18*w+0)), .ref (ad (18*w+(6+2*i)))]) ++ List.replicate (3 - (lg_sl ([.ref (ad (18*w+0)), .ref (ad (18*w+(6+2*i)))])).length) Slot.unset).toArray = ls at hl ⊢
  have hl : lv_has ls 3 [(0, .ref (ad (18*w+0))), (1, .ref (ad (18*w+(6+2*i))))] := hl
  obtain ⟨FF, hFF⟩ : ∃ z, z = f5_riseOrFall u i := ⟨_, rfl⟩
  have hF := hFF.symm
  rw [f5_riseOrFall] at hF
  refine lv_aload_n hx hb dX5_riseOrFall_0 rfl (lv_at hl 1 rfl) ?_
  refine va_get (D := D) (ci := 2) (C := RX0) (T := TX0) (N := 16) hx hb hts inX0 hown hK hP (18*w+(6+2*i)) (c_b hw hi) rfl 7 (by decide) (hts (.fieldLink RX5 91 "TileRunners$Body" "vertical" "I") (List.mem_of_getElem? (i := 1) rfl)) (fun _ h9 => h9) rfl dX5_riseOrFall_1 ?_
  refine lv_topi (fun v2_4 e_v2_4 => ?_)
  have hF := bnd_s e_v2_4 hF
  refine lv_istore_n (lv' := [(2, .int v2_4), (0, .ref (ad (18*w+0))), (1, .ref (ad (18*w+(6+2*i))))]) hx hb dX5_riseOrFall_4 rfl hl (by decide) rfl (fun ls hl => ?_)
  have L5 : ∀ (n5 : Nat) (w2_5 : Int32) (u_5 : (Nat → Int32)) (H : Heap) (locs : List Loc) (ls : Array Slot), w2_5.toInt.toNat < n5 → okW u_5 → va_P D vwCl (pool G ad (va_up σ w u_5)) H → va_S (AA B0) s.heap H locs → lv_has ls 3 [(2, .int w2_5), (0, .ref (ad (18*w+0))), (1, .ref (ad (18*w+(6+2*i))))] → f5_riseOrFall_L5 i n5 w2_5 u_5 = FF → W p l e (headSpec wsX5_riseOrFall { frames := 4, cells := 0, slots := 0, locals := 99 }).room s m ([.ref (ad (18*w+0)), .ref (ad (18*w+(6+2*i)))] : List Value).toArray below meth c H locs 0 0 (MQ below (va_Qv (fun (z : Nat → Int32) => z = f5_riseOrFall u i ∧ okW z) (fun (z : Nat → Int32) => Ho D G ad (va_up σ w z)) (AA B0)) ([.ref (ad (18*w+0)), .ref (ad (18*w+(6+2*i)))] : List Value).toArray s 0 0 (AA B0)) (F0 m 5 ls []) := by
    intro n5
    induction n5 with
    | zero => intro w2_5 u_5 H locs ls hm; exact absurd hm (Nat.not_lt_zero _)
    | succ n5 ih5 =>
      intro w2_5 u_5 H locs ls hm5 hO hP hS hl hF
      rw [f5_riseOrFall_L5] at hF
      refine lv_iload_n hx hb dX5_riseOrFall_5 rfl (lv_at hl 0 rfl) ?_
      refine lv_if_le (tgt := 39) hx hb dX5_riseOrFall_6 (by decide) (fun c6 => ?_) (fun c6 => ?_)
      · have hF := ift c6 hF
        refine lv_aload_n hx hb dX5_riseOrFall_39 rfl (lv_at hl 2 rfl) ?_
        refine va_get (D := D) (ci := 2) (C := RX0) (T := TX0) (N := 16) hx hb hts inX0 hown hK hP (18*w+(6+2*i)) (c_b hw hi) rfl 7 (by decide) (hts (.fieldLink RX5 91 "TileRunners$Body" "vertical" "I") (List.mem_of_getElem? (i := 1) rfl)) (fun _ h9 => h9) rfl dX5_riseOrFall_40 ?_
        refine lv_ineg hx hb dX5_riseOrFall_43 ?_
        refine lv_topi (fun v2_44 e_v2_44 => ?_)
        have hF := bnd_s e_v2_44 hF
        refine lv_istore_n (lv' := [(2, .int v2_44), (0, .ref (ad (18*w+0))), (1, .ref (ad (18*w+(6+2*i))))]) hx hb dX5_riseOrFall_44 rfl hl (by decide) rfl (fun ls hl => ?_)
        have L45 : ∀ (n45 : Nat) (w2_45 : Int32) (u_45 : (Nat → Int32)) (H : Heap) (locs : List Loc) (ls : Array Slot), w2_45.toInt.toNat < n45 → okW u_45 → va_P D vwCl (pool G ad (va_up σ w u_45)) H → va_S (AA B0) s.heap H locs → lv_has ls 3 [(2, .int w2_45), (0, .ref (ad (18*w+0))), (1, .ref (ad (18*w+(6+2*i))))] → f5_riseOrFall_L45 i n45 w2_45 u_45 = FF → W p l e (headSpec wsX5_riseOrFall { frames := 4, cells := 0, slots := 0, locals := 99 }).room s m ([.ref (ad (18*w+0)), .ref (ad (18*w+(6+2*i)))] : List Value).toArray below meth c H locs 0 0 (MQ below (va_Qv (fun (z : Nat → Int32) => z = f5_riseOrFall u i ∧ okW z) (fun (z : Nat → Int32) => Ho D G ad (va_up σ w z)) (AA B0)) ([.ref (ad (18*w+0)), .ref (ad (18*w+(6+2*i)))] : List Value).toArray s 0 0 (AA B0)) (F0 m 45 ls []) := by
          intro n45
          induction n45 with
          | zero => intro w2_45 u_45 H locs ls hm; exact absurd hm (Nat.not_lt_zero _)
          | succ n45 ih45 =>
            intro w2_45 u_45 H locs ls hm45 hO hP hS hl hF
            rw [f5_riseOrFall_L45] at hF
            refine lv_iload_n hx hb dX5_riseOrFall_45 rfl (lv_at hl 0 rfl) ?_
            refine lv_if_le (tgt := 80) hx hb dX5_riseOrFall_46 (by decide) (fun c46 => ?_) (fun c46 => ?_)
            · have hF := ift c46 hF
              exact W.vret hx hb hr (fun t ht hW => ⟨⟨u_45, rfl, ⟨hF.trans hFF, hO⟩, ho_of ht hP⟩, hS.F ht⟩) hS.2.2 dX5_riseOrFall_80
            · have hF := iff_ c46 hF
              refine lv_aload_n hx hb dX5_riseOrFall_49 rfl (lv_at hl 1 rfl) ?_
              refine lv_aload_n hx hb dX5_riseOrFall_50 rfl (lv_at hl 2 rfl) ?_
              refine lv_iconst (v := (-1)) hx hb dX5_riseOrFall_51 (by decide) ?_
              refine va_calli (va_runV (As := [.ref (ad (18*w+(6+2*i))), .int (-1)]) (rest := []) ⟨hx, hb, hml, hown, hts⟩ (c5_stepDown l hA σ u_45 w hw i hi (-1) hO) (cwV 2 hts gX5_riseOrFall_X5_stepDown rfl rfl rfl hd_X5_stepDownV ⟨Nat.le_of_ble_eq_true rfl, Nat.le_of_ble_eq_true rfl⟩) ⟨hp_blind, va_recv hK hP (ci := 7) (q0 := 18*w+0) rfl (c_o hw), hp_pre hK hN hP⟩ rfl rfl hl.1 rfl (lv_room (Nat.le_of_ble_eq_true rfl)) dX5_riseOrFall_52 ⟨Nat.zero_le _, Nat.zero_le _⟩) hS (fun _ _ h => h) (fun _ h => h) (fun r52 u9 t H locs ht hvm hw9 hB hz1 hk1 hS => ?_)
              have hP := ho_at ht hB
              obtain ⟨eq52, ok9, hb_r52⟩ := hw9
              obtain ⟨u52, e_u52⟩ : ∃ z, z = u9 := ⟨_, rfl⟩
              rw [← e_u52] at hP eq52 ok9
              have hO := ok9
              have hF := bnd2_s eq52 hF
              refine lv_if_ne (tgt := 64) hx hb dX5_riseOrFall_55 (by decide) (fun c55 => ?_) (fun c55 => ?_)
              · have hF := iff_ c55 hF
                refine lv_aload_n hx hb dX5_riseOrFall_64 rfl (lv_at hl 2 rfl) ?_
                refine va_get (D := D) (ci := 2) (C := RX0) (T := TX0) (N := 16) hx hb hts inX0 hown hK hP (18*w+(6+2*i)) (c_b hw hi) rfl 15 (by decide) (hts (.fieldLink RX5 185 "TileRunners$Body" "statistics" "[I") (List.mem_of_getElem? (i := 2) rfl)) (fun _ h9 => h9) rfl dX5_riseOrFall_65 ?_
                refine lv_iconst (v := 4) hx hb dX5_riseOrFall_68 (by decide) ?_
                refine lv_dup2_11 hx hb dX5_riseOrFall_69 rfl rfl ?_
                refine pald (n := 7) (o := 336+24*i+14) (t := 336+24*i+18) (i := 4) hx hb hK hP (c_s hw hi) (vp_in_iff.mpr (by decide)) rfl dX5_riseOrFall_70 ?_
                refine lv_iconst (v := 1) hx hb dX5_riseOrFall_71 (by decide) ?_
                refine lv_iadd hx hb dX5_riseOrFall_72 ?_
                have hin9 : vp_in 4 7 := (vp_in_iff.mpr (by decide))
                refine past (n := 7) (o := 336+24*i+14) (t := 336+24*i+18) hx hb hK hP hA hS hw (j := 7+2*i) (by omega) (fun _ => wcel_s hi) (fun k9 hk9 => own_s hi hk9) hin9 rfl dX5_riseOrFall_73 (fun u9 H locs eu9 hP hS => ?_)
                have hlt9 := in_lt hin9
                obtain ⟨u73, e_u73⟩ : ∃ z, z = u9 := ⟨_, rfl⟩
                rw [← e_u73] at hP eu9
                have hF := bnd_s eu9 hF
                have hO := okW_up eu9 hO (by omega) (by omega)
                obtain ⟨v2_74, e_v2_74⟩ : ∃ z : Int32, z = w2_45 + (-1) := ⟨_, rfl⟩
                have hF := bnd_s e_v2_74 hF
                refine lv_iinc (v := v2_74) (lv' := [(2, .int v2_74), (0, .ref (ad (18*w+0))), (1, .ref (ad (18*w+(6+2*i))))]) hx hb dX5_riseOrFall_74 hl (k := 0) rfl (by rw [e_v2_74]; rfl) (by decide) rfl (fun ls hl => ?_)
                refine lv_goto (tgt := 45) hx hb dX5_riseOrFall_77 (by decide) ?_
                exact ih45 v2_74 u73 _ _ ls (ms_s (dec_dn (nle_lt c46) e_v2_74) hm45) hO hP hS (lv_sub hl [0, 1, 2] rfl) hF
              · have hF := ift c55 hF
                refine lv_aload_n hx hb dX5_riseOrFall_58 rfl (lv_at hl 1 rfl) ?_
                refine lv_aload_n hx hb dX5_riseOrFall_59 rfl (lv_at hl 2 rfl) ?_
                refine va_callv (va_runV (As := [.ref (ad (18*w+(6+2*i)))]) (rest := []) ⟨hx, hb, hml, hown, hts⟩ (c5_land l hA σ u52 w hw i hi hO) (cwV 1 hts gX5_riseOrFall_X5_land rfl rfl rfl hd_X5_landV ⟨Nat.le_of_ble_eq_true rfl, Nat.le_of_ble_eq_true rfl⟩) ⟨hp_blind, va_recv hK hP (ci := 7) (q0 := 18*w+0) rfl (c_o hw), hp_pre hK hN hP⟩ rfl rfl hl.1 rfl (lv_room (Nat.le_of_ble_eq_true rfl)) dX5_riseOrFall_60 ⟨Nat.zero_le _, Nat.zero_le _⟩) hS (fun _ _ h => h) (fun _ h => h) (fun u9 t H locs ht hvm hw9 hB hz1 hk1 hS => ?_)
                have hP := ho_at ht hB
                obtain ⟨eq60, ok9⟩ := hw9
                obtain ⟨u60, e_u60⟩ : ∃ z, z = u9 := ⟨_, rfl⟩
                rw [← e_u60] at hP eq60 ok9
                have hO := ok9
                have hF := bnd_s eq60 hF
                exact W.vret hx hb hr (fun t ht hW => ⟨⟨u60, rfl, ⟨hF.trans hFF, hO⟩, ho_of ht hP⟩, hS.F ht⟩) hS.2.2 dX5_riseOrFall_63
        exact L45 BIG v2_44 u_5 _ _ ls (big_dn _) hO hP hS (lv_sub hl [0, 1, 2] rfl) hF
      · have hF := iff_ c6 hF
        refine lv_aload_n hx hb dX5_riseOrFall_9 rfl (lv_at hl 1 rfl) ?_
        refine lv_aload_n hx hb dX5_riseOrFall_10 rfl (lv_at hl 2 rfl) ?_
        refine va_calli (va_runV (As := [.ref (ad (18*w+(6+2*i)))]) (rest := []) ⟨hx, hb, hml, hown, hts⟩ (c5_stepUp l hA σ u_5 w hw i hi hO) (cwV 1 hts gX5_riseOrFall_X5_stepUp rfl rfl rfl hd_X5_stepUpV ⟨Nat.le_of_ble_eq_true rfl, Nat.le_of_ble_eq_true rfl⟩) ⟨hp_blind, va_recv hK hP (ci := 7) (q0 := 18*w+0) rfl (c_o hw), hp_pre hK hN hP⟩ rfl rfl hl.1 rfl (lv_room (Nat.le_of_ble_eq_true rfl)) dX5_riseOrFall_11 ⟨Nat.zero_le _, Nat.zero_le _⟩) hS (fun _ _ h => h) (fun _ h => h) (fun r11 u9 t H locs ht hvm hw9 hB hz1 hk1 hS => ?_)
        have hP := ho_at ht hB
        obtain ⟨eq11, ok9, hb_r11⟩ := hw9
        obtain ⟨u11, e_u11⟩ : ∃ z, z = u9 := ⟨_, rfl⟩
        rw [← e_u11] at hP eq11 ok9
        have hO := ok9
        have hF := bnd2_s eq11 hF
        refine lv_if_ne (tgt := 23) hx hb dX5_riseOrFall_14 (by decide) (fun c14 => ?_) (fun c14 => ?_)
        · have hF := iff_ c14 hF
          refine lv_aload_n hx hb dX5_riseOrFall_23 rfl (lv_at hl 2 rfl) ?_
          refine va_get (D := D) (ci := 2) (C := RX0) (T := TX0) (N := 16) hx hb hts inX0 hown hK hP (18*w+(6+2*i)) (c_b hw hi) rfl 15 (by decide) (hts (.fieldLink RX5 185 "TileRunners$Body" "statistics" "[I") (List.mem_of_getElem? (i := 2) rfl)) (fun _ h9 => h9) rfl dX5_riseOrFall_24 ?_
          refine lv_iconst (v := 4) hx hb dX5_riseOrFall_27 (by decide) ?_
          refine lv_dup2_11 hx hb dX5_riseOrFall_28 rfl rfl ?_
          refine pald (n := 7) (o := 336+24*i+14) (t := 336+24*i+18) (i := 4) hx hb hK hP (c_s hw hi) (vp_in_iff.mpr (by decide)) rfl dX5_riseOrFall_29 ?_
          refine lv_iconst (v := 1) hx hb dX5_riseOrFall_30 (by decide) ?_
          refine lv_iadd hx hb dX5_riseOrFall_31 ?_
          have hin9 : vp_in 4 7 := (vp_in_iff.mpr (by decide))
          refine past (n := 7) (o := 336+24*i+14) (t := 336+24*i+18) hx hb hK hP hA hS hw (j := 7+2*i) (by omega) (fun _ => wcel_s hi) (fun k9 hk9 => own_s hi hk9) hin9 rfl dX5_riseOrFall_32 (fun u9 H locs eu9 hP hS => ?_)
          have hlt9 := in_lt hin9
          obtain ⟨u32, e_u32⟩ : ∃ z, z = u9 := ⟨_, rfl⟩
          rw [← e_u32] at hP eu9
          have hF := bnd_s eu9 hF
          have hO := okW_up eu9 hO (by omega) (by omega)
          obtain ⟨v2_33, e_v2_33⟩ : ∃ z : Int32, z = w2_5 + (-1) := ⟨_, rfl⟩
          have hF := bnd_s e_v2_33 hF
          refine lv_iinc (v := v2_33) (lv' := [(2, .int v2_33), (0, .ref (ad (18*w+0))), (1, .ref (ad (18*w+(6+2*i))))]) hx hb dX5_riseOrFall_33 hl (k := 0) rfl (by rw [e_v2_33]; rfl) (by decide) rfl (fun ls hl => ?_)
          refine lv_goto (tgt := 5) hx hb dX5_riseOrFall_36 (by decide) ?_
          exact ih5 v2_33 u32 _ _ ls (ms_s (dec_dn (nle_lt c6) e_v2_33) hm5) hO hP hS (lv_sub hl [0, 1, 2] rfl) hF
        · have hF := ift c14 hF
          refine lv_aload_n hx hb dX5_riseOrFall_17 rfl (lv_at hl 2 rfl) ?_
          refine lv_iconst (v := 0) hx hb dX5_riseOrFall_18 (by decide) ?_
          refine pput hx hb hts inX0 tyX0 tyX0_ok nmX0 hown hK hP hA hS hw (j := 6+2*i) (by omega) (wcel_b hi) rfl 7 (by decide) (hts (.fieldLink RX5 91 "TileRunners$Body" "vertical" "I") (List.mem_of_getElem? (i := 1) rfl)) (fun _ h9 => h9) rfl (tyX0_ok 7 (by decide)) rfl rfl (Nat.le_of_ble_eq_true rfl) (336+24*i+3) (own_b hi (by decide) (by decide)) (setB_7 hi) dX5_riseOrFall_19 (fun u9 H locs eu9 hP hS => ?_)
          obtain ⟨u19, e_u19⟩ : ∃ z, z = u9 := ⟨_, rfl⟩
          rw [← e_u19] at hP eu9
          have hF := bnd_s eu9 hF
          have hO := okW_up eu9 hO (by omega) (by omega)
          exact W.vret hx hb hr (fun t ht hW => ⟨⟨u19, rfl, ⟨hF.trans hFF, hO⟩, ho_of ht hP⟩, hS.F ht⟩) hS.2.2 dX5_riseOrFall_22
  exact L5 BIG v2_4 u _ _ ls (big_dn _) hO hP hS (lv_sub hl [0, 1, 2] rfl) hF
theorem hd_X5_riseOrFallV : yX5_riseOrFall.cls = RX5 ∧ yX5_riseOrFall.cls ≠ "java/lang/invoke/MethodHandle" ∧ yX5_riseOrFall.cls ≠ "java/lang/invoke/VarHandle" ∧ (parseMethodDescriptor yX5_riseOrFall.desc).map (fun d => d.parameters.length) = some 1 := by decide +kernel
set_option maxHeartbeats 4000000 in
set_option maxRecDepth 100000 in
theorem c5_meetCoinsAndSpikes (l : Launch) {D : va_G} {G : CY} {ad : Nat → Nat} {B0 : Nat} (hA : adOK B0 ad) (σ : Nat → Nat → Int32) (u : Nat → Int32) (w : Nat) (hw : w < 15) (i : Nat) (hi : i < 4) (hO : okW u) : Met l yX5_meetCoinsAndSpikes wsX5_meetCoinsAndSpikes { frames := 4, cells := 0, slots := 0, locals := 92 } (va_Pc [.ref (ad (18*w+0)), .ref (ad (18*w+(6+2*i)))] (Hp D G ad (va_up σ w u))) (va_Qv (fun (z : Nat → Int32) => z = f5_meetCoinsAndSpikes u i ∧ okW z) (fun (z : Nat → Int32) => Ho D G ad (va_up σ w z)) (AA B0)) 0 0 (AA B0) := by
  refine Met.ofW (cc := cX5_meetCoinsAndSpikes) (maxL := 2) (ret := none) (by decide) rfl ?_
  intro p e s m args below meth c s₁ B hml hv
  obtain ⟨rfl, hP, hK, hN⟩ := hv
  have hx := B.exec
  have hb := B.bytes
  have hr := B.returns
  have hts := atoms_spec (ws := wsX5_meetCoinsAndSpikes) B.pre
  have hown : s.vm.findClass RX5 = some m.cls := findClass_of_methodNamed B.named
  have hlocks := B.notSynchronized
  have inX0 : ∀ w ∈ wsX00, w ∈ wsX5_meetCoinsAndSpikes := (fun w h => List.mem_cons_of_mem _ (List.mem_append_left _ (List.mem_append_left _ (List.mem_append_left _ (List.mem_append_right _ h)))))
  have inX5 : ∀ w ∈ wsX50, w ∈ wsX5_meetCoinsAndSpikes := (fun w h => List.mem_cons_of_mem _ (List.mem_append_left _ (List.mem_append_left _ (List.mem_append_right _ h))))
  have hP : va_P D vwCl (pool G ad (va_up σ w u)) s.heap := hP
  have hS : va_S (AA B0) s.heap s.heap [] := va_S.rf
  have hl := lv_entry ([.ref (ad (18*w+0)), .ref (ad (18*w+(6+2*i)))]) (n := 2) (Nat.le_of_ble_eq_true rfl)
  rw [lg_entry_eq]
  generalize (lg_sl ([.ref (ad (18*w+0)), .ref (ad (18*w+(6+2*i)))]) ++ List.replicate (2 - (lg_sl ([.ref (ad (18*w+0)), .ref (ad (18*w+(6+2*i)))])).length) Slot.unset).toArray = ls at hl ⊢
  have hl : lv_has ls 2 [(0, .ref (ad (18*w+0))), (1, .ref (ad (18*w+(6+2*i))))] := hl
  obtain ⟨FF, hFF⟩ : ∃ z, z = f5_meetCoinsAndSpikes u i := ⟨_, rfl⟩
  have hF := hFF.symm
  rw [f5_meetCoinsAndSpikes] at hF
  refine lv_aload_n hx hb dX5_meetCoinsAndSpikes_0 rfl (lv_at hl 1 rfl) ?_
  refine va_get (D := D) (ci := 2) (C := RX0) (T := TX0) (N := 16) hx hb hts inX0 hown hK hP (18*w+(6+2*i)) (c_b hw hi) rfl 15 (by decide) (hts (.fieldLink RX5 185 "TileRunners$Body" "statistics" "[I") (List.mem_of_getElem? (i := 1) rfl)) (fun _ h9 => h9) rfl dX5_meetCoinsAndSpikes_1 ?_
  refine lv_iconst (v := 0) hx hb dX5_meetCoinsAndSpikes_4 (by decide) ?_
  refine lv_dup2_11 hx hb dX5_meetCoinsAndSpikes_5 rfl rfl ?_
  refine pald (n := 7) (o := 336+24*i+14) (t := 336+24*i+14) (i := 0) hx hb hK hP (c_s hw hi) (vp_in_iff.mpr (by decide)) rfl dX5_meetCoinsAndSpikes_6 ?_
  refine lv_aload_n hx hb dX5_meetCoinsAndSpikes_7 rfl (lv_at hl 0 rfl) ?_
  refine va_get (D := D) (ci := 7) (C := RX5) (T := TX5) (N := 7) hx hb hts inX5 hown hK hP (18*w+0) (c_o hw) rfl 0 (by decide) (hts (.fieldLink RX5 12 "TileRunners$World" "tiles" "LTileRunners$Tiles;") (List.mem_of_getElem? (i := 2) rfl)) (fun _ h9 => h9) rfl dX5_meetCoinsAndSpikes_8 ?_
  refine lv_aload_n hx hb dX5_meetCoinsAndSpikes_11 rfl (lv_at hl 1 rfl) ?_
  refine va_calli (va_runV (As := [.ref (ad (18*w+(6+2*i)))]) (rest := [.int (u (336+24*i+14)), .int 0, .ref (ad (18*w+(7+2*i)))]) ⟨hx, hb, hml, hown, hts⟩ (c4_giveCoins l hA σ u w hw i hi hO) (cwV 1 hts gX5_meetCoinsAndSpikes_X4_giveCoins rfl rfl rfl hd_X4_giveCoinsV ⟨Nat.le_of_ble_eq_true rfl, Nat.le_of_ble_eq_true rfl⟩) ⟨hp_blind, va_recv hK hP (ci := 6) (q0 := 18*w+1) rfl (c_t hw), hp_pre hK hN hP⟩ rfl rfl hl.1 rfl (lv_room (Nat.le_of_ble_eq_true rfl)) dX5_meetCoinsAndSpikes_12 ⟨Nat.zero_le _, Nat.zero_le _⟩) hS (fun _ _ h => h) (fun _ h => h) (fun r12 u9 t H locs ht hvm hw9 hB hz1 hk1 hS => ?_)
  have hP := ho_at ht hB
  obtain ⟨eq12, ok9⟩ := hw9
  obtain ⟨u12, e_u12⟩ : ∃ z, z = u9 := ⟨_, rfl⟩
  rw [← e_u12] at hP eq12 ok9
  have hO := ok9
  have hF := bnd2_s eq12 hF
  refine lv_iadd hx hb dX5_meetCoinsAndSpikes_15 ?_
  have hin9 : vp_in 0 7 := (vp_in_iff.mpr (by decide))
  refine past (n := 7) (o := 336+24*i+14) (t := 336+24*i+14) hx hb hK hP hA hS hw (j := 7+2*i) (by omega) (fun _ => wcel_s hi) (fun k9 hk9 => own_s hi hk9) hin9 rfl dX5_meetCoinsAndSpikes_16 (fun u9 H locs eu9 hP hS => ?_)
  have hlt9 := in_lt hin9
  obtain ⟨u16, e_u16⟩ : ∃ z, z = u9 := ⟨_, rfl⟩
  rw [← e_u16] at hP eu9
  have hF := bnd_s eu9 hF
  have hO := okW_up eu9 hO (by omega) (by omega)
  refine lv_aload_n hx hb dX5_meetCoinsAndSpikes_17 rfl (lv_at hl 1 rfl) ?_
  refine va_get (D := D) (ci := 2) (C := RX0) (T := TX0) (N := 16) hx hb hts inX0 hown hK hP (18*w+(6+2*i)) (c_b hw hi) rfl 1 (by decide) (hts (.fieldLink RX5 59 "TileRunners$Body" "y" "I") (List.mem_of_getElem? (i := 3) rfl)) (fun _ h9 => h9) rfl dX5_meetCoinsAndSpikes_18 ?_
  refine lv_bipush (v := (-40)) hx hb dX5_meetCoinsAndSpikes_21 (by decide) ?_
  refine lv_icmp_lt (tgt := 39) hx hb dX5_meetCoinsAndSpikes_23 (by decide) (fun c23 => ?_) (fun c23 => ?_)
  · have hF := ift c23 hF
    refine lv_aload_n hx hb dX5_meetCoinsAndSpikes_39 rfl (lv_at hl 1 rfl) ?_
    refine va_callv (va_runV (As := []) (rest := []) ⟨hx, hb, hml, hown, hts⟩ (c0_die l hA σ u16 w hw i hi hO) (cwV 0 hts gX5_meetCoinsAndSpikes_X0_die rfl rfl rfl hd_X0_dieV ⟨Nat.le_of_ble_eq_true rfl, Nat.le_of_ble_eq_true rfl⟩) ⟨hp_blind, va_recv hK hP (ci := 2) (q0 := 18*w+(6+2*i)) rfl (c_b hw hi), hp_pre hK hN hP⟩ rfl rfl hl.1 rfl (lv_room (Nat.le_of_ble_eq_true rfl)) dX5_meetCoinsAndSpikes_40 ⟨Nat.zero_le _, Nat.zero_le _⟩) hS (fun _ _ h => h) (fun _ h => h) (fun u9 t H locs ht hvm hw9 hB hz1 hk1 hS => ?_)
    have hP := ho_at ht hB
    obtain ⟨eq40, ok9⟩ := hw9
    obtain ⟨u40, e_u40⟩ : ∃ z, z = u9 := ⟨_, rfl⟩
    rw [← e_u40] at hP eq40 ok9
    have hO := ok9
    have hF := bnd_s eq40 hF
    exact W.vret hx hb hr (fun t ht hW => ⟨⟨u40, rfl, ⟨hF.trans hFF, hO⟩, ho_of ht hP⟩, hS.F ht⟩) hS.2.2 dX5_meetCoinsAndSpikes_43
  · have hF := iff_ c23 hF
    refine lv_aload_n hx hb dX5_meetCoinsAndSpikes_26 rfl (lv_at hl 0 rfl) ?_
    refine va_get (D := D) (ci := 7) (C := RX5) (T := TX5) (N := 7) hx hb hts inX5 hown hK hP (18*w+0) (c_o hw) rfl 0 (by decide) (hts (.fieldLink RX5 12 "TileRunners$World" "tiles" "LTileRunners$Tiles;") (List.mem_of_getElem? (i := 2) rfl)) (fun _ h9 => h9) rfl dX5_meetCoinsAndSpikes_27 ?_
    refine lv_aload_n hx hb dX5_meetCoinsAndSpikes_30 rfl (lv_at hl 1 rfl) ?_
    refine lv_bipush (v := 9) hx hb dX5_meetCoinsAndSpikes_31 (by decide) ?_
    refine va_calli (va_runV (As := [.ref (ad (18*w+(6+2*i))), .int 9]) (rest := []) ⟨hx, hb, hml, hown, hts⟩ (c4_touch l hA σ u16 w hw i hi 9 ) (cwV 2 hts gX5_meetCoinsAndSpikes_X4_touch rfl rfl rfl hd_X4_touchV ⟨Nat.le_of_ble_eq_true rfl, Nat.le_of_ble_eq_true rfl⟩) ⟨hp_blind, va_recv hK hP (ci := 6) (q0 := 18*w+1) rfl (c_t hw), hp_pre hK hN hP⟩ rfl rfl hl.1 rfl (lv_room (Nat.le_of_ble_eq_true rfl)) dX5_meetCoinsAndSpikes_33 ⟨Nat.zero_le _, Nat.zero_le _⟩) hS (fun _ _ h => h) (fun _ h => h) (fun r33 _ t H locs ht hvm hw9 hB hz1 hk1 hS => ?_)
    have hP := ho_at ht hB
    obtain ⟨eq33, hb_r33⟩ := hw9
    have hF := bnd_s eq33 hF
    refine lv_if_eq (tgt := 43) hx hb dX5_meetCoinsAndSpikes_36 (by decide) (fun c36 => ?_) (fun c36 => ?_)
    · have hF := ift c36 hF
      exact W.vret hx hb hr (fun t ht hW => ⟨⟨u16, rfl, ⟨hF.trans hFF, hO⟩, ho_of ht hP⟩, hS.F ht⟩) hS.2.2 dX5_meetCoinsAndSpikes_43
    · have hF := iff_ c36 hF
      refine lv_aload_n hx hb dX5_meetCoinsAndSpikes_39 rfl (lv_at hl 1 rfl) ?_
      refine va_callv (va_runV (As := []) (rest := []) ⟨hx, hb, hml, hown, hts⟩ (c0_die l hA σ u16 w hw i hi hO) (cwV 0 hts gX5_meetCoinsAndSpikes_X0_die rfl rfl rfl hd_X0_dieV ⟨Nat.le_of_ble_eq_true rfl, Nat.le_of_ble_eq_true rfl⟩) ⟨hp_blind, va_recv hK hP (ci := 2) (q0 := 18*w+(6+2*i)) rfl (c_b hw hi), hp_pre hK hN hP⟩ rfl rfl hl.1 rfl (lv_room (Nat.le_of_ble_eq_true rfl)) dX5_meetCoinsAndSpikes_40 ⟨Nat.zero_le _, Nat.zero_le _⟩) hS (fun _ _ h => h) (fun _ h => h) (fun u9 t H locs ht hvm hw9 hB hz1 hk1 hS => ?_)
      have hP := ho_at ht hB
      obtain ⟨eq40, ok9⟩ := hw9
      obtain ⟨u40, e_u40⟩ : ∃ z, z = u9 := ⟨_, rfl⟩
      rw [← e_u40] at hP eq40 ok9
      have hO := ok9
      have hF := bnd_s eq40 hF
      exact W.vret hx hb hr (fun t ht hW => ⟨⟨u40, rfl, ⟨hF.trans hFF, hO⟩, ho_of ht hP⟩, hS.F ht⟩) hS.2.2 dX5_meetCoinsAndSpikes_43
theorem hd_X5_meetCoinsAndSpikesV : yX5_meetCoinsAndSpikes.cls = RX5 ∧ yX5_meetCoinsAndSpikes.cls ≠ "java/lang/invoke/MethodHandle" ∧ yX5_meetCoinsAndSpikes.cls ≠ "java/lang/invoke/VarHandle" ∧ (parseMethodDescriptor yX5_meetCoinsAndSpikes.desc).map (fun d => d.parameters.length) = some 1 := by decide +kernel
set_option maxHeartbeats 4000000 in
set_option maxRecDepth 100000 in
theorem c5_update (l : Launch) {D : va_G} {G : CY} {ad : Nat → Nat} {B0 : Nat} (hA : adOK B0 ad) (σ : Nat → Nat → Int32) (u : Nat → Int32) (w : Nat) (hw : w < 15) (i : Nat) (hi : i < 4) (hO : okW u) : Met l yX5_update wsX5_update { frames := 5, cells := 0, slots := 0, locals := 125 } (va_Pc [.ref (ad (18*w+0)), .ref (ad (18*w+(6+2*i))), .ref (ad (271))] (Hp D G ad (va_up σ w u))) (va_Qv (fun (z : Nat → Int32) => z = f5_update u (σ 15) i ∧ okW z) (fun (z : Nat → Int32) => Ho D G ad (va_up σ w z)) (AA B0)) 0 0 (AA B0) := by
  refine Met.ofW (cc := cX5_update) (maxL := 5) (ret := none) (by decide) rfl ?_
  intro p e s m args below meth c s₁ B hml hv
  obtain ⟨rfl, hP, hK, hN⟩ := hv
  have hx := B.exec
  have hb := B.bytes
  have hr := B.returns
  have hts := atoms_spec (ws := wsX5_update) B.pre
  have hown : s.vm.findClass RX5 = some m.cls := findClass_of_methodNamed B.named
  have hlocks := B.notSynchronized
  have hP : va_P D vwCl (pool G ad (va_up σ w u)) s.heap := hP
  have hS : va_S (AA B0) s.heap s.heap [] := va_S.rf
  have hl := lv_entry ([.ref (ad (18*w+0)), .ref (ad (18*w+(6+2*i))), .ref (ad (271))]) (n := 5) (Nat.le_of_ble_eq_true rfl)
  rw [lg_entry_eq]
  generalize (lg_sl ([.ref (ad (18*w+0)), .ref (ad (18*w+(6+2*i))), .ref (ad (271))]) ++ List.replicate (5 - (lg_sl ([.ref (ad (18*w+0)), .ref (ad (18*w+(6+2*i))), .ref (ad (271))])).length) Slot.unset).toArray = ls at hl ⊢
  have hl : lv_has ls 5 [(0, .ref (ad (18*w+0))), (1, .ref (ad (18*w+(6+2*i)))), (2, .ref (ad (271)))] := hl
  obtain ⟨FF, hFF⟩ : ∃ z, z = f5_update u (σ 15) i := ⟨_, rfl⟩
  have hF := hFF.symm
  obtain ⟨sz, hsz⟩ : ∃ z, z = σ 15 := ⟨_, rfl⟩
  rw [← hsz] at hF
  have hset : ∀ (u : Nat → Int32), (pool G ad (va_up σ w u))[271]? = some (ad 271, icel G 4 10 sz) := fun u => by rw [hsz]; exact c_set hw
  rw [f5_update] at hF
  refine lv_aload_n hx hb dX5_update_0 rfl (lv_at hl 0 rfl) ?_
  refine lv_aload_n hx hb dX5_update_1 rfl (lv_at hl 1 rfl) ?_
  refine lv_aload_n hx hb dX5_update_2 rfl (lv_at hl 2 rfl) ?_
  refine lv_iconst (v := 2) hx hb dX5_update_3 (by decide) ?_
  refine pald (n := 4) (o := 10) (t := 12) (i := 2) hx hb hK hP (hset _) (vp_in_iff.mpr (by decide)) rfl dX5_update_4 ?_
  refine va_calli (va_runV (As := [.ref (ad (18*w+(6+2*i))), .int (sz 12)]) (rest := []) ⟨hx, hb, hml, hown, hts⟩ (c5_senseStanding l hA σ u w hw i hi (sz 12) hO) (cwV 2 hts gX5_update_X5_senseStanding rfl rfl rfl hd_X5_senseStandingV ⟨Nat.le_of_ble_eq_true rfl, Nat.le_of_ble_eq_true rfl⟩) ⟨hp_blind, va_recv hK hP (ci := 7) (q0 := 18*w+0) rfl (c_o hw), hp_pre hK hN hP⟩ rfl rfl hl.1 rfl (lv_room (Nat.le_of_ble_eq_true rfl)) dX5_update_5 ⟨Nat.zero_le _, Nat.zero_le _⟩) hS (fun _ _ h => h) (fun _ h => h) (fun r5 u9 t H locs ht hvm hw9 hB hz1 hk1 hS => ?_)
  have hP := ho_at ht hB
  obtain ⟨eq5, ok9, hb_r5⟩ := hw9
  obtain ⟨u5, e_u5⟩ : ∃ z, z = u9 := ⟨_, rfl⟩
  rw [← e_u5] at hP eq5 ok9
  have hO := ok9
  have hF := bnd2_s eq5 hF
  refine lv_istore_n (lv' := [(3, .int r5), (0, .ref (ad (18*w+0))), (1, .ref (ad (18*w+(6+2*i)))), (2, .ref (ad (271)))]) hx hb dX5_update_8 rfl hl (by decide) rfl (fun ls hl => ?_)
  refine lv_aload_n hx hb dX5_update_9 rfl (lv_at hl 1 rfl) ?_
  refine lv_aload_n hx hb dX5_update_10 rfl (lv_at hl 2 rfl) ?_
  refine lv_aload_n hx hb dX5_update_11 rfl (lv_at hl 3 rfl) ?_
  refine lv_iconst (v := 3) hx hb dX5_update_12 (by decide) ?_
  refine pald (n := 4) (o := 10) (t := 13) (i := 3) hx hb hK hP (hset _) (vp_in_iff.mpr (by decide)) rfl dX5_update_13 ?_
  refine va_callv (va_runV (As := [.ref (ad (18*w+(6+2*i))), .int (sz 13)]) (rest := []) ⟨hx, hb, hml, hown, hts⟩ (c5_senseJumpKey l hA σ u5 w hw i hi (sz 13) hO) (cwV 2 hts gX5_update_X5_senseJumpKey rfl rfl rfl hd_X5_senseJumpKeyV ⟨Nat.le_of_ble_eq_true rfl, Nat.le_of_ble_eq_true rfl⟩) ⟨hp_blind, va_recv hK hP (ci := 7) (q0 := 18*w+0) rfl (c_o hw), hp_pre hK hN hP⟩ rfl rfl hl.1 rfl (lv_room (Nat.le_of_ble_eq_true rfl)) dX5_update_14 ⟨Nat.zero_le _, Nat.zero_le _⟩) hS (fun _ _ h => h) (fun _ h => h) (fun u9 t H locs ht hvm hw9 hB hz1 hk1 hS => ?_)
  have hP := ho_at ht hB
  obtain ⟨eq14, ok9⟩ := hw9
  obtain ⟨u14, e_u14⟩ : ∃ z, z = u9 := ⟨_, rfl⟩
  rw [← e_u14] at hP eq14 ok9
  have hO := ok9
  have hF := bnd_s eq14 hF
  refine lv_aload_n hx hb dX5_update_17 rfl (lv_at hl 1 rfl) ?_
  refine lv_aload_n hx hb dX5_update_18 rfl (lv_at hl 2 rfl) ?_
  refine lv_iload_n hx hb dX5_update_19 rfl (lv_at hl 0 rfl) ?_
  refine va_calli (va_runV (As := [.ref (ad (18*w+(6+2*i))), .int r5]) (rest := []) ⟨hx, hb, hml, hown, hts⟩ (c5_beginsToDrop l hA σ u14 w hw i hi r5 hO) (cwV 2 hts gX5_update_X5_beginsToDrop rfl rfl rfl hd_X5_beginsToDropV ⟨Nat.le_of_ble_eq_true rfl, Nat.le_of_ble_eq_true rfl⟩) ⟨hp_blind, va_recv hK hP (ci := 7) (q0 := 18*w+0) rfl (c_o hw), hp_pre hK hN hP⟩ rfl rfl hl.1 rfl (lv_room (Nat.le_of_ble_eq_true rfl)) dX5_update_20 ⟨Nat.zero_le _, Nat.zero_le _⟩) hS (fun _ _ h => h) (fun _ h => h) (fun r20 u9 t H locs ht hvm hw9 hB hz1 hk1 hS => ?_)
  have hP := ho_at ht hB
  obtain ⟨eq20, ok9, hb_r20⟩ := hw9
  obtain ⟨u20, e_u20⟩ : ∃ z, z = u9 := ⟨_, rfl⟩
  rw [← e_u20] at hP eq20 ok9
  have hO := ok9
  have hF := bnd2_s eq20 hF
  have J28 : ∀ (w3_28 : Int32) (H : Heap) (locs : List Loc) (ls : Array Slot), va_P D vwCl (pool G ad (va_up σ w u20)) H → va_S (AA B0) s.heap H locs → lv_has ls 5 [(3, .int w3_28), (0, .ref (ad (18*w+0))), (1, .ref (ad (18*w+(6+2*i)))), (2, .ref (ad (271)))] → f5_update_b28 sz i u20 w3_28 = FF → W p l e (headSpec wsX5_update { frames := 5, cells := 0, slots := 0, locals := 125 }).room s m ([.ref (ad (18*w+0)), .ref (ad (18*w+(6+2*i))), .ref (ad (271))] : List Value).toArray below meth c H locs 0 0 (MQ below (va_Qv (fun (z : Nat → Int32) => z = f5_update u (σ 15) i ∧ okW z) (fun (z : Nat → Int32) => Ho D G ad (va_up σ w z)) (AA B0)) ([.ref (ad (18*w+0)), .ref (ad (18*w+(6+2*i))), .ref (ad (271))] : List Value).toArray s 0 0 (AA B0)) (F0 m 28 ls []) := by
    intro w3_28 H locs ls hP hS hl hF
    rw [f5_update_b28] at hF
    refine lv_aload_n hx hb dX5_update_28 rfl (lv_at hl 2 rfl) ?_
    refine va_calli (va_runV (As := []) (rest := []) ⟨hx, hb, hml, hown, hts⟩ (c0_direction l hA σ u20 w hw i hi ) (cwV 0 hts gX5_update_X0_direction rfl rfl rfl hd_X0_directionV ⟨Nat.le_of_ble_eq_true rfl, Nat.le_of_ble_eq_true rfl⟩) ⟨hp_blind, va_recv hK hP (ci := 2) (q0 := 18*w+(6+2*i)) rfl (c_b hw hi), hp_pre hK hN hP⟩ rfl rfl hl.1 rfl (lv_room (Nat.le_of_ble_eq_true rfl)) dX5_update_29 ⟨Nat.zero_le _, Nat.zero_le _⟩) hS (fun _ _ h => h) (fun _ h => h) (fun r29 _ t H locs ht hvm hw9 hB hz1 hk1 hS => ?_)
    have hP := ho_at ht hB
    have eq29 := hw9
    have hF := bnd_s eq29 hF
    refine lv_istore (lv' := [(4, .int r29), (3, .int w3_28), (0, .ref (ad (18*w+0))), (1, .ref (ad (18*w+(6+2*i)))), (2, .ref (ad (271)))]) hx hb dX5_update_32 hl (by decide) rfl (fun ls hl => ?_)
    refine lv_aload_n hx hb dX5_update_34 rfl (lv_at hl 2 rfl) ?_
    refine lv_aload_n hx hb dX5_update_35 rfl (lv_at hl 3 rfl) ?_
    refine lv_iload_n hx hb dX5_update_36 rfl (lv_at hl 1 rfl) ?_
    refine lv_iload hx hb dX5_update_37 (lv_at hl 0 rfl) ?_
    refine lv_aload_n hx hb dX5_update_39 rfl (lv_at hl 4 rfl) ?_
    refine lv_iconst (v := 0) hx hb dX5_update_40 (by decide) ?_
    refine pald (n := 4) (o := 10) (t := 10) (i := 0) hx hb hK hP (hset _) (vp_in_iff.mpr (by decide)) rfl dX5_update_41 ?_
    refine va_callv (va_runV (As := [.ref (ad (18*w+(6+2*i))), .int w3_28, .int r29, .int (sz 10)]) (rest := []) ⟨hx, hb, hml, hown, hts⟩ (c5_steer l hA σ u20 w hw i hi w3_28 r29 (sz 10) hO) (cwV 4 hts gX5_update_X5_steer rfl rfl rfl hd_X5_steerV ⟨Nat.le_of_ble_eq_true rfl, Nat.le_of_ble_eq_true rfl⟩) ⟨hp_blind, va_recv hK hP (ci := 7) (q0 := 18*w+0) rfl (c_o hw), hp_pre hK hN hP⟩ rfl rfl hl.1 rfl (lv_room (Nat.le_of_ble_eq_true rfl)) dX5_update_42 ⟨Nat.zero_le _, Nat.zero_le _⟩) hS (fun _ _ h => h) (fun _ h => h) (fun u9 t H locs ht hvm hw9 hB hz1 hk1 hS => ?_)
    have hP := ho_at ht hB
    obtain ⟨eq42, ok9⟩ := hw9
    obtain ⟨u42, e_u42⟩ : ∃ z, z = u9 := ⟨_, rfl⟩
    rw [← e_u42] at hP eq42 ok9
    have hO := ok9
    have hF := bnd_s eq42 hF
    refine lv_aload_n hx hb dX5_update_45 rfl (lv_at hl 2 rfl) ?_
    refine lv_aload_n hx hb dX5_update_46 rfl (lv_at hl 3 rfl) ?_
    refine lv_iload_n hx hb dX5_update_47 rfl (lv_at hl 1 rfl) ?_
    refine lv_aload_n hx hb dX5_update_48 rfl (lv_at hl 4 rfl) ?_
    refine va_calli (va_runV (As := [.ref (ad (18*w+(6+2*i))), .int w3_28, .ref (ad (271))]) (rest := []) ⟨hx, hb, hml, hown, hts⟩ (c5_jumps l hA σ u42 w hw i hi w3_28 hO) (cwV 3 hts gX5_update_X5_jumps rfl rfl rfl hd_X5_jumpsV ⟨Nat.le_of_ble_eq_true rfl, Nat.le_of_ble_eq_true rfl⟩) ⟨hp_blind, va_recv hK hP (ci := 7) (q0 := 18*w+0) rfl (c_o hw), hp_pre hK hN hP⟩ rfl rfl hl.1 rfl (lv_room (Nat.le_of_ble_eq_true rfl)) dX5_update_49 ⟨Nat.zero_le _, Nat.zero_le _⟩) hS (fun _ _ h => h) (fun _ h => h) (fun r49 u9 t H locs ht hvm hw9 hB hz1 hk1 hS => ?_)
    have hP := ho_at ht hB
    obtain ⟨eq49, ok9, hb_r49⟩ := hw9
    rw [← hsz] at eq49
    obtain ⟨u49, e_u49⟩ : ∃ z, z = u9 := ⟨_, rfl⟩
    rw [← e_u49] at hP eq49 ok9
    have hO := ok9
    have hF := bnd2_s eq49 hF
    have J57 : ∀ (w3_57 : Int32) (H : Heap) (locs : List Loc) (ls : Array Slot), va_P D vwCl (pool G ad (va_up σ w u49)) H → va_S (AA B0) s.heap H locs → lv_has ls 5 [(4, .int r29), (3, .int w3_57), (0, .ref (ad (18*w+0))), (1, .ref (ad (18*w+(6+2*i))))] → f5_update_b57 i r29 u49 w3_57 = FF → W p l e (headSpec wsX5_update { frames := 5, cells := 0, slots := 0, locals := 125 }).room s m ([.ref (ad (18*w+0)), .ref (ad (18*w+(6+2*i))), .ref (ad (271))] : List Value).toArray below meth c H locs 0 0 (MQ below (va_Qv (fun (z : Nat → Int32) => z = f5_update u (σ 15) i ∧ okW z) (fun (z : Nat → Int32) => Ho D G ad (va_up σ w z)) (AA B0)) ([.ref (ad (18*w+0)), .ref (ad (18*w+(6+2*i))), .ref (ad (271))] : List Value).toArray s 0 0 (AA B0)) (F0 m 57 ls []) := by
      intro w3_57 H locs ls hP hS hl hF
      rw [f5_update_b57] at hF
      refine lv_aload_n hx hb dX5_update_57 rfl (lv_at hl 2 rfl) ?_
      refine lv_aload_n hx hb dX5_update_58 rfl (lv_at hl 3 rfl) ?_
      refine va_callv (va_runV (As := [.ref (ad (18*w+(6+2*i)))]) (rest := []) ⟨hx, hb, hml, hown, hts⟩ (c5_cutJump l hA σ u49 w hw i hi hO) (cwV 1 hts gX5_update_X5_cutJump rfl rfl rfl hd_X5_cutJumpV ⟨Nat.le_of_ble_eq_true rfl, Nat.le_of_ble_eq_true rfl⟩) ⟨hp_blind, va_recv hK hP (ci := 7) (q0 := 18*w+0) rfl (c_o hw), hp_pre hK hN hP⟩ rfl rfl hl.1 rfl (lv_room (Nat.le_of_ble_eq_true rfl)) dX5_update_59 ⟨Nat.zero_le _, Nat.zero_le _⟩) hS (fun _ _ h => h) (fun _ h => h) (fun u9 t H locs ht hvm hw9 hB hz1 hk1 hS => ?_)
      have hP := ho_at ht hB
      obtain ⟨eq59, ok9⟩ := hw9
      obtain ⟨u59, e_u59⟩ : ∃ z, z = u9 := ⟨_, rfl⟩
      rw [← e_u59] at hP eq59 ok9
      have hO := ok9
      have hF := bnd_s eq59 hF
      refine lv_iload_n hx hb dX5_update_62 rfl (lv_at hl 1 rfl) ?_
      have J81 : ∀ (u_81 : (Nat → Int32)) (H : Heap) (locs : List Loc) (ls : Array Slot), okW u_81 → va_P D vwCl (pool G ad (va_up σ w u_81)) H → va_S (AA B0) s.heap H locs → lv_has ls 5 [(0, .ref (ad (18*w+0))), (1, .ref (ad (18*w+(6+2*i))))] → f5_update_b81 i u_81 = FF → W p l e (headSpec wsX5_update { frames := 5, cells := 0, slots := 0, locals := 125 }).room s m ([.ref (ad (18*w+0)), .ref (ad (18*w+(6+2*i))), .ref (ad (271))] : List Value).toArray below meth c H locs 0 0 (MQ below (va_Qv (fun (z : Nat → Int32) => z = f5_update u (σ 15) i ∧ okW z) (fun (z : Nat → Int32) => Ho D G ad (va_up σ w z)) (AA B0)) ([.ref (ad (18*w+0)), .ref (ad (18*w+(6+2*i))), .ref (ad (271))] : List Value).toArray s 0 0 (AA B0)) (F0 m 81 ls []) := by
        intro u_81 H locs ls hO hP hS hl hF
        rw [f5_update_b81] at hF
        refine lv_aload_n hx hb dX5_update_81 rfl (lv_at hl 0 rfl) ?_
        refine lv_aload_n hx hb dX5_update_82 rfl (lv_at hl 1 rfl) ?_
        refine va_callv (va_runV (As := [.ref (ad (18*w+(6+2*i)))]) (rest := []) ⟨hx, hb, hml, hown, hts⟩ (c5_run l hA σ u_81 w hw i hi hO) (cwV 1 hts gX5_update_X5_run rfl rfl rfl hd_X5_runV ⟨Nat.le_of_ble_eq_true rfl, Nat.le_of_ble_eq_true rfl⟩) ⟨hp_blind, va_recv hK hP (ci := 7) (q0 := 18*w+0) rfl (c_o hw), hp_pre hK hN hP⟩ rfl rfl hl.1 rfl (lv_room (Nat.le_of_ble_eq_true rfl)) dX5_update_83 ⟨Nat.zero_le _, Nat.zero_le _⟩) hS (fun _ _ h => h) (fun _ h => h) (fun u9 t H locs ht hvm hw9 hB hz1 hk1 hS => ?_)
        have hP := ho_at ht hB
        obtain ⟨eq83, ok9⟩ := hw9
        obtain ⟨u83, e_u83⟩ : ∃ z, z = u9 := ⟨_, rfl⟩
        rw [← e_u83] at hP eq83 ok9
        have hO := ok9
        have hF := bnd_s eq83 hF
        refine lv_aload_n hx hb dX5_update_86 rfl (lv_at hl 0 rfl) ?_
        refine lv_aload_n hx hb dX5_update_87 rfl (lv_at hl 1 rfl) ?_
        refine va_callv (va_runV (As := [.ref (ad (18*w+(6+2*i)))]) (rest := []) ⟨hx, hb, hml, hown, hts⟩ (c5_riseOrFall l hA σ u83 w hw i hi hO) (cwV 1 hts gX5_update_X5_riseOrFall rfl rfl rfl hd_X5_riseOrFallV ⟨Nat.le_of_ble_eq_true rfl, Nat.le_of_ble_eq_true rfl⟩) ⟨hp_blind, va_recv hK hP (ci := 7) (q0 := 18*w+0) rfl (c_o hw), hp_pre hK hN hP⟩ rfl rfl hl.1 rfl (lv_room (Nat.le_of_ble_eq_true rfl)) dX5_update_88 ⟨Nat.zero_le _, Nat.zero_le _⟩) hS (fun _ _ h => h) (fun _ h => h) (fun u9 t H locs ht hvm hw9 hB hz1 hk1 hS => ?_)
        have hP := ho_at ht hB
        obtain ⟨eq88, ok9⟩ := hw9
        obtain ⟨u88, e_u88⟩ : ∃ z, z = u9 := ⟨_, rfl⟩
        rw [← e_u88] at hP eq88 ok9
        have hO := ok9
        have hF := bnd_s eq88 hF
        refine lv_aload_n hx hb dX5_update_91 rfl (lv_at hl 0 rfl) ?_
        refine lv_aload_n hx hb dX5_update_92 rfl (lv_at hl 1 rfl) ?_
        refine va_callv (va_runV (As := [.ref (ad (18*w+(6+2*i)))]) (rest := []) ⟨hx, hb, hml, hown, hts⟩ (c5_meetCoinsAndSpikes l hA σ u88 w hw i hi hO) (cwV 1 hts gX5_update_X5_meetCoinsAndSpikes rfl rfl rfl hd_X5_meetCoinsAndSpikesV ⟨Nat.le_of_ble_eq_true rfl, Nat.le_of_ble_eq_true rfl⟩) ⟨hp_blind, va_recv hK hP (ci := 7) (q0 := 18*w+0) rfl (c_o hw), hp_pre hK hN hP⟩ rfl rfl hl.1 rfl (lv_room (Nat.le_of_ble_eq_true rfl)) dX5_update_93 ⟨Nat.zero_le _, Nat.zero_le _⟩) hS (fun _ _ h => h) (fun _ h => h) (fun u9 t H locs ht hvm hw9 hB hz1 hk1 hS => ?_)
        have hP := ho_at ht hB
        obtain ⟨eq93, ok9⟩ := hw9
        obtain ⟨u93, e_u93⟩ : ∃ z, z = u9 := ⟨_, rfl⟩
        rw [← e_u93] at hP eq93 ok9
        have hO := ok9
        have hF := bnd_s eq93 hF
        refine lv_aload_n hx hb dX5_update_96 rfl (lv_at hl 1 rfl) ?_
        refine va_callv (va_runV (As := []) (rest := []) ⟨hx, hb, hml, hown, hts⟩ (c0_endTick l hA σ u93 w hw i hi hO) (cwV 0 hts gX5_update_X0_endTick rfl rfl rfl hd_X0_endTickV ⟨Nat.le_of_ble_eq_true rfl, Nat.le_of_ble_eq_true rfl⟩) ⟨hp_blind, va_recv hK hP (ci := 2) (q0 := 18*w+(6+2*i)) rfl (c_b hw hi), hp_pre hK hN hP⟩ rfl rfl hl.1 rfl (lv_room (Nat.le_of_ble_eq_true rfl)) dX5_update_97 ⟨Nat.zero_le _, Nat.zero_le _⟩) hS (fun _ _ h => h) (fun _ h => h) (fun u9 t H locs ht hvm hw9 hB hz1 hk1 hS => ?_)
        have hP := ho_at ht hB
        obtain ⟨eq97, ok9⟩ := hw9
        obtain ⟨u97, e_u97⟩ : ∃ z, z = u9 := ⟨_, rfl⟩
        rw [← e_u97] at hP eq97 ok9
        have hO := ok9
        have hF := bnd_s eq97 hF
        exact W.vret hx hb hr (fun t ht hW => ⟨⟨u97, rfl, ⟨hF.trans hFF, hO⟩, ho_of ht hP⟩, hS.F ht⟩) hS.2.2 dX5_update_100
      refine lv_if_eq (tgt := 74) hx hb dX5_update_63 (by decide) (fun c63 => ?_) (fun c63 => ?_)
      · have hF := ift c63 hF
        refine lv_aload_n hx hb dX5_update_74 rfl (lv_at hl 2 rfl) ?_
        refine lv_aload_n hx hb dX5_update_75 rfl (lv_at hl 3 rfl) ?_
        refine lv_iload hx hb dX5_update_76 (lv_at hl 0 rfl) ?_
        refine va_callv (va_runV (As := [.ref (ad (18*w+(6+2*i))), .int r29]) (rest := []) ⟨hx, hb, hml, hown, hts⟩ (c5_accelerateDown l hA σ u59 w hw i hi r29 hO) (cwV 2 hts gX5_update_X5_accelerateDown rfl rfl rfl hd_X5_accelerateDownV ⟨Nat.le_of_ble_eq_true rfl, Nat.le_of_ble_eq_true rfl⟩) ⟨hp_blind, va_recv hK hP (ci := 7) (q0 := 18*w+0) rfl (c_o hw), hp_pre hK hN hP⟩ rfl rfl hl.1 rfl (lv_room (Nat.le_of_ble_eq_true rfl)) dX5_update_78 ⟨Nat.zero_le _, Nat.zero_le _⟩) hS (fun _ _ h => h) (fun _ h => h) (fun u9 t H locs ht hvm hw9 hB hz1 hk1 hS => ?_)
        have hP := ho_at ht hB
        obtain ⟨eq78, ok9⟩ := hw9
        obtain ⟨u78, e_u78⟩ : ∃ z, z = u9 := ⟨_, rfl⟩
        rw [← e_u78] at hP eq78 ok9
        have hO := ok9
        have hF := bnd_s eq78 hF
        exact J81 u78 _ _ ls hO hP hS (lv_sub hl [2, 3] rfl) hF
      · have hF := iff_ c63 hF
        refine lv_aload_n hx hb dX5_update_66 rfl (lv_at hl 2 rfl) ?_
        refine lv_aload_n hx hb dX5_update_67 rfl (lv_at hl 3 rfl) ?_
        refine va_callv (va_runV (As := [.ref (ad (18*w+(6+2*i)))]) (rest := []) ⟨hx, hb, hml, hown, hts⟩ (c5_rideBelts l hA σ u59 w hw i hi hO) (cwV 1 hts gX5_update_X5_rideBelts rfl rfl rfl hd_X5_rideBeltsV ⟨Nat.le_of_ble_eq_true rfl, Nat.le_of_ble_eq_true rfl⟩) ⟨hp_blind, va_recv hK hP (ci := 7) (q0 := 18*w+0) rfl (c_o hw), hp_pre hK hN hP⟩ rfl rfl hl.1 rfl (lv_room (Nat.le_of_ble_eq_true rfl)) dX5_update_68 ⟨Nat.zero_le _, Nat.zero_le _⟩) hS (fun _ _ h => h) (fun _ h => h) (fun u9 t H locs ht hvm hw9 hB hz1 hk1 hS => ?_)
        have hP := ho_at ht hB
        obtain ⟨eq68, ok9⟩ := hw9
        obtain ⟨u68, e_u68⟩ : ∃ z, z = u9 := ⟨_, rfl⟩
        rw [← e_u68] at hP eq68 ok9
        have hO := ok9
        have hF := bnd_s eq68 hF
        refine lv_goto (tgt := 81) hx hb dX5_update_71 (by decide) ?_
        exact J81 u68 _ _ ls hO hP hS (lv_sub hl [2, 3] rfl) hF
    refine lv_if_eq (tgt := 57) hx hb dX5_update_52 (by decide) (fun c52 => ?_) (fun c52 => ?_)
    · have hF := ift c52 hF
      exact J57 w3_28 _ _ ls hP hS (lv_sub hl [0, 1, 2, 3] rfl) hF
    · have hF := iff_ c52 hF
      refine lv_iconst (v := 0) hx hb dX5_update_55 (by decide) ?_
      refine lv_istore_n (lv' := [(3, .int 0), (4, .int r29), (0, .ref (ad (18*w+0))), (1, .ref (ad (18*w+(6+2*i)))), (2, .ref (ad (271)))]) hx hb dX5_update_56 rfl hl (by decide) rfl (fun ls hl => ?_)
      exact J57 0 _ _ ls hP hS (lv_sub hl [1, 0, 2, 3] rfl) hF
  refine lv_if_eq (tgt := 28) hx hb dX5_update_23 (by decide) (fun c23 => ?_) (fun c23 => ?_)
  · have hF := ift c23 hF
    exact J28 r5 _ _ ls hP hS (lv_sub hl [0, 1, 2, 3] rfl) hF
  · have hF := iff_ c23 hF
    refine lv_iconst (v := 0) hx hb dX5_update_26 (by decide) ?_
    refine lv_istore_n (lv' := [(3, .int 0), (0, .ref (ad (18*w+0))), (1, .ref (ad (18*w+(6+2*i)))), (2, .ref (ad (271)))]) hx hb dX5_update_27 rfl hl (by decide) rfl (fun ls hl => ?_)
    exact J28 0 _ _ ls hP hS (lv_sub hl [0, 1, 2, 3] rfl) hF
theorem hd_X5_updateV : yX5_update.cls = RX5 ∧ yX5_update.cls ≠ "java/lang/invoke/MethodHandle" ∧ yX5_update.cls ≠ "java/lang/invoke/VarHandle" ∧ (parseMethodDescriptor yX5_update.desc).map (fun d => d.parameters.length) = some 2 := by decide +kernel
set_option maxHeartbeats 4000000 in
set_option maxRecDepth 100000 in
theorem c5_advance (l : Launch) {D : va_G} {G : CY} {ad : Nat → Nat} {B0 : Nat} (hA : adOK B0 ad) (σ : Nat → Nat → Int32) (u : Nat → Int32) (w : Nat) (hw : w < 15) (hO : okW u) : Met l yX5_advance wsX5_advance { frames := 6, cells := 0, slots := 0, locals := 151 } (va_Pc [.ref (ad (18*w+0)), .ref (ad (271))] (Hp D G ad (va_up σ w u))) (va_Qv (fun (z : Nat → Int32) => z = f5_advance u (σ 15) ∧ okW z) (fun (z : Nat → Int32) => Ho D G ad (va_up σ w z)) (AA B0)) 0 0 (AA B0) := by
  refine Met.ofW (cc := cX5_advance) (maxL := 3) (ret := none) (by decide) rfl ?_
  intro p e s m args below meth c s₁ B hml hv
  obtain ⟨rfl, hP, hK, hN⟩ := hv
  have hx := B.exec
  have hb := B.bytes
  have hr := B.returns
  have hts := atoms_spec (ws := wsX5_advance) B.pre
  have hown : s.vm.findClass RX5 = some m.cls := findClass_of_methodNamed B.named
  have hlocks := B.notSynchronized
  have inX5 : ∀ w ∈ wsX50, w ∈ wsX5_advance := (fun w h => List.mem_cons_of_mem _ (List.mem_append_left _ (List.mem_append_left _ (List.mem_append_left _ (List.mem_append_left _ (List.mem_append_right _ h))))))
  have hP : va_P D vwCl (pool G ad (va_up σ w u)) s.heap := hP
  have hS : va_S (AA B0) s.heap s.heap [] := va_S.rf
  have hl := lv_entry ([.ref (ad (18*w+0)), .ref (ad (271))]) (n := 3) (Nat.le_of_ble_eq_true rfl)
  rw [lg_entry_eq]
  generalize (lg_sl ([.ref (ad (18*w+0)), .ref (ad (271))]) ++ List.replicate (3 - (lg_sl ([.ref (ad (18*w+0)), .ref (ad (271))])).length) Slot.unset).toArray = ls at hl ⊢
  have hl : lv_has ls 3 [(0, .ref (ad (18*w+0))), (1, .ref (ad (271)))] := hl
  obtain ⟨FF, hFF⟩ : ∃ z, z = f5_advance u (σ 15) := ⟨_, rfl⟩
  have hF := hFF.symm
  obtain ⟨sz, hsz⟩ : ∃ z, z = σ 15 := ⟨_, rfl⟩
  rw [← hsz] at hF
  have hset : ∀ (u : Nat → Int32), (pool G ad (va_up σ w u))[271]? = some (ad 271, icel G 4 10 sz) := fun u => by rw [hsz]; exact c_set hw
  rw [f5_advance] at hF
  refine lv_aload_n hx hb dX5_advance_0 rfl (lv_at hl 0 rfl) ?_
  refine va_callv (va_runV (As := []) (rest := []) ⟨hx, hb, hml, hown, hts⟩ (c5_noteCarriers l hA σ u w hw hO) (cwV 0 hts gX5_advance_X5_noteCarriers rfl rfl rfl hd_X5_noteCarriersV ⟨Nat.le_of_ble_eq_true rfl, Nat.le_of_ble_eq_true rfl⟩) ⟨hp_blind, va_recv hK hP (ci := 7) (q0 := 18*w+0) rfl (c_o hw), hp_pre hK hN hP⟩ rfl rfl hl.1 rfl (lv_room (Nat.le_of_ble_eq_true rfl)) dX5_advance_1 ⟨Nat.zero_le _, Nat.zero_le _⟩) hS (fun _ _ h => h) (fun _ h => h) (fun u9 t H locs ht hvm hw9 hB hz1 hk1 hS => ?_)
  have hP := ho_at ht hB
  obtain ⟨eq1, ok9⟩ := hw9
  obtain ⟨u1, e_u1⟩ : ∃ z, z = u9 := ⟨_, rfl⟩
  rw [← e_u1] at hP eq1 ok9
  have hO := ok9
  have hF := bnd_s eq1 hF
  refine lv_aload_n hx hb dX5_advance_4 rfl (lv_at hl 0 rfl) ?_
  refine lv_dup hx hb dX5_advance_5 rfl ?_
  refine va_get (D := D) (ci := 7) (C := RX5) (T := TX5) (N := 7) hx hb hts inX5 hown hK hP (18*w+0) (c_o hw) rfl 6 (by decide) (hts (.fieldLink RX5 47 "TileRunners$World" "time" "I") (List.mem_of_getElem? (i := 1) rfl)) (fun _ h9 => h9) rfl dX5_advance_6 ?_
  refine lv_iconst (v := 1) hx hb dX5_advance_9 (by decide) ?_
  refine lv_iadd hx hb dX5_advance_10 ?_
  refine pput hx hb hts inX5 tyX5 tyX5_ok nmX5 hown hK hP hA hS hw (j := 0) (by omega) rfl rfl 6 (by decide) (hts (.fieldLink RX5 47 "TileRunners$World" "time" "I") (List.mem_of_getElem? (i := 1) rfl)) (fun _ h9 => h9) rfl (tyX5_ok 6 (by decide)) rfl rfl (Nat.le_of_ble_eq_true rfl) (466) (by decide) (setO_6) dX5_advance_11 (fun u9 H locs eu9 hP hS => ?_)
  obtain ⟨u11, e_u11⟩ : ∃ z, z = u9 := ⟨_, rfl⟩
  rw [← e_u11] at hP eu9
  have hF := bnd_s eu9 hF
  have hO := okW_up eu9 hO (by omega) (by omega)
  refine lv_aload_n hx hb dX5_advance_14 rfl (lv_at hl 0 rfl) ?_
  refine va_callv (va_runV (As := []) (rest := []) ⟨hx, hb, hml, hown, hts⟩ (c5_movePlatforms l hA σ u11 w hw hO) (cwV 0 hts gX5_advance_X5_movePlatforms rfl rfl rfl hd_X5_movePlatformsV ⟨Nat.le_of_ble_eq_true rfl, Nat.le_of_ble_eq_true rfl⟩) ⟨hp_blind, va_recv hK hP (ci := 7) (q0 := 18*w+0) rfl (c_o hw), hp_pre hK hN hP⟩ rfl rfl hl.1 rfl (lv_room (Nat.le_of_ble_eq_true rfl)) dX5_advance_15 ⟨Nat.zero_le _, Nat.zero_le _⟩) hS (fun _ _ h => h) (fun _ h => h) (fun u9 t H locs ht hvm hw9 hB hz1 hk1 hS => ?_)
  have hP := ho_at ht hB
  obtain ⟨eq15, ok9⟩ := hw9
  obtain ⟨u15, e_u15⟩ : ∃ z, z = u9 := ⟨_, rfl⟩
  rw [← e_u15] at hP eq15 ok9
  have hO := ok9
  have hF := bnd_s eq15 hF
  refine lv_iconst (v := 0) hx hb dX5_advance_18 (by decide) ?_
  refine lv_istore_n (lv' := [(2, .int 0), (0, .ref (ad (18*w+0))), (1, .ref (ad (271)))]) hx hb dX5_advance_19 rfl hl (by decide) rfl (fun ls hl => ?_)
  have L20 : ∀ (n20 : Nat) (w2_20 : Int32) (u_20 : (Nat → Int32)) (H : Heap) (locs : List Loc) (ls : Array Slot), (4 - w2_20.toInt).toNat < n20 → 0 ≤ w2_20 → okW u_20 → va_P D vwCl (pool G ad (va_up σ w u_20)) H → va_S (AA B0) s.heap H locs → lv_has ls 3 [(2, .int w2_20), (0, .ref (ad (18*w+0))), (1, .ref (ad (271)))] → f5_advance_L20 sz n20 w2_20 u_20 = FF → W p l e (headSpec wsX5_advance { frames := 6, cells := 0, slots := 0, locals := 151 }).room s m ([.ref (ad (18*w+0)), .ref (ad (271))] : List Value).toArray below meth c H locs 0 0 (MQ below (va_Qv (fun (z : Nat → Int32) => z = f5_advance u (σ 15) ∧ okW z) (fun (z : Nat → Int32) => Ho D G ad (va_up σ w z)) (AA B0)) ([.ref (ad (18*w+0)), .ref (ad (271))] : List Value).toArray s 0 0 (AA B0)) (F0 m 20 ls []) := by
    intro n20
    induction n20 with
    | zero => intro w2_20 u_20 H locs ls hm; exact absurd hm (Nat.not_lt_zero _)
    | succ n20 ih20 =>
      intro w2_20 u_20 H locs ls hm20 h2 hO hP hS hl hF
      rw [f5_advance_L20] at hF
      refine lv_iload_n hx hb dX5_advance_20 rfl (lv_at hl 0 rfl) ?_
      refine lv_aload_n hx hb dX5_advance_21 rfl (lv_at hl 1 rfl) ?_
      refine va_get (D := D) (ci := 7) (C := RX5) (T := TX5) (N := 7) hx hb hts inX5 hown hK hP (18*w+0) (c_o hw) rfl 4 (by decide) (hts (.fieldLink RX5 40 "TileRunners$World" "bodyCount" "I") (List.mem_of_getElem? (i := 2) rfl)) (fun _ h9 => h9) rfl dX5_advance_22 ?_
      refine lv_icmp_ge (tgt := 45) hx hb dX5_advance_25 (by decide) (fun c25 => ?_) (fun c25 => ?_)
      · have hF := ift c25 hF
        exact W.vret hx hb hr (fun t ht hW => ⟨⟨u_20, rfl, ⟨hF.trans hFF, hO⟩, ho_of ht hP⟩, hS.F ht⟩) hS.2.2 dX5_advance_45
      · have hF := iff_ c25 hF
        have hi2 : vp_in w2_20 4 := in_n h2 (nle_lt c25) hO.2.1
        refine lv_aload_n hx hb dX5_advance_28 rfl (lv_at hl 1 rfl) ?_
        refine lv_aload_n hx hb dX5_advance_29 rfl (lv_at hl 1 rfl) ?_
        refine va_get (D := D) (ci := 7) (C := RX5) (T := TX5) (N := 7) hx hb hts inX5 hown hK hP (18*w+0) (c_o hw) rfl 1 (by decide) (hts (.fieldLink RX5 20 "TileRunners$World" "bodies" "[LTileRunners$Body;") (List.mem_of_getElem? (i := 3) rfl)) (fun _ h9 => h9) rfl dX5_advance_30 ?_
        refine lv_iload_n hx hb dX5_advance_33 rfl (lv_at hl 0 rfl) ?_
        have hi_34 : w2_20.toNatClampNeg < 4 := in_lt (i := w2_20) hi2
        refine pqald (t0 := 2) (i := w2_20) hx hb hK hP (c_bs hw) rfl hi2 dX5_advance_34 ?_
        refine lv_aload_n hx hb dX5_advance_35 rfl (lv_at hl 2 rfl) ?_
        refine va_callv (va_runV (As := [.ref (ad (18*w+(6+2*w2_20.toNatClampNeg))), .ref (ad (271))]) (rest := []) ⟨hx, hb, hml, hown, hts⟩ (c5_update l hA σ u_20 w hw w2_20.toNatClampNeg hi_34 hO) (cwV 2 hts gX5_advance_X5_update rfl rfl rfl hd_X5_updateV ⟨Nat.le_of_ble_eq_true rfl, Nat.le_of_ble_eq_true rfl⟩) ⟨hp_blind, va_recv hK hP (ci := 7) (q0 := 18*w+0) rfl (c_o hw), hp_pre hK hN hP⟩ rfl rfl hl.1 rfl (lv_room (Nat.le_of_ble_eq_true rfl)) dX5_advance_36 ⟨Nat.zero_le _, Nat.zero_le _⟩) hS (fun _ _ h => h) (fun _ h => h) (fun u9 t H locs ht hvm hw9 hB hz1 hk1 hS => ?_)
        have hP := ho_at ht hB
        obtain ⟨eq36, ok9⟩ := hw9
        rw [← hsz] at eq36
        obtain ⟨u36, e_u36⟩ : ∃ z, z = u9 := ⟨_, rfl⟩
        rw [← e_u36] at hP eq36 ok9
        have hO := ok9
        have hF := bnd_s eq36 hF
        obtain ⟨v2_39, e_v2_39⟩ : ∃ z : Int32, z = w2_20 + 1 := ⟨_, rfl⟩
        have hF := bnd_s e_v2_39 hF
        refine lv_iinc (v := v2_39) (lv' := [(2, .int v2_39), (0, .ref (ad (18*w+0))), (1, .ref (ad (271)))]) hx hb dX5_advance_39 hl (k := 0) rfl (by rw [e_v2_39]; rfl) (by decide) rfl (fun ls hl => ?_)
        refine lv_goto (tgt := 20) hx hb dX5_advance_42 (by decide) ?_
        exact ih20 v2_39 u36 _ _ ls (ms_s (dec_i4 hi2 e_v2_39) hm20) (ge0_i4 hi2 e_v2_39) hO hP hS (lv_sub hl [0, 1, 2] rfl) hF
  exact L20 BIG 0 u15 _ _ ls (big_i4 _) le0 hO hP hS (lv_sub hl [0, 1, 2] rfl) hF
theorem hd_X5_advanceV : yX5_advance.cls = RX5 ∧ yX5_advance.cls ≠ "java/lang/invoke/MethodHandle" ∧ yX5_advance.cls ≠ "java/lang/invoke/VarHandle" ∧ (parseMethodDescriptor yX5_advance.desc).map (fun d => d.parameters.length) = some 1 := by decide +kernel
