set_option maxHeartbeats 4000000 in
set_option maxRecDepth 100000 in
theorem c3_placeOf (l : Launch) {D : va_G} {G : CY} {ad : Nat → Nat} {B0 : Nat} (hA : adOK B0 ad) {adK adV : Nat → Nat} (σ : Nat → Nat → Int32) (a : Int32) (i : Nat) (hi : i < 2) : Met l yX3_placeOf wsX3_placeOf { frames := 4, cells := 0, slots := 0, locals := 85 } (va_Pc [.int a, .ref (adK i)] (Hs adK adV D G ad B0 σ)) (va_Qi (fun (r : Int32) (_ : Unit) => r = f3_placeOf a i ∧ (r.toInt < ((sLen.getD i 0 : Nat) : Int))) (fun (_ : Unit) => Ho D G ad σ) (AA B0)) 0 0 (AA B0) := by
  refine Met.ofW (cc := cX3_placeOf) (maxL := 3) (ret := (some .int)) (by decide) rfl ?_
  intro p e s m args below meth c s₁ B hml hv
  obtain ⟨rfl, ⟨hP, hK, hN⟩, hG, hR⟩ := hv
  have hx := B.exec
  have hb := B.bytes
  have hr := B.returns
  have hts := atoms_spec (ws := wsX3_placeOf) B.pre
  have hown : s.vm.findClass RX3 = some m.cls := findClass_of_methodNamed B.named
  have hlocks := B.notSynchronized
  have hP : va_P D vwCl (pool G ad σ) s.heap := hP
  have hS : va_S (AA B0) s.heap s.heap [] := va_S.rf
  have hl := lv_entry ([.int a, .ref (adK i)]) (n := 3) (Nat.le_of_ble_eq_true rfl)
  rw [lg_entry_eq]
  generalize (lg_sl ([.int a, .ref (adK i)]) ++ List.replicate (3 - (lg_sl ([.int a, .ref (adK i)])).length) Slot.unset).toArray = ls at hl ⊢
  have hl : lv_has ls 3 [(0, .int a), (1, .ref (adK i))] := hl
  obtain ⟨FF, hFF⟩ : ∃ z, z = f3_placeOf a i := ⟨_, rfl⟩
  have hF := hFF.symm
  rw [f3_placeOf] at hF
  refine lv_iconst (v := 0) hx hb dX3_placeOf_0 (by decide) ?_
  refine lv_istore_n (lv' := [(2, .int 0), (0, .int a), (1, .ref (adK i))]) hx hb dX3_placeOf_1 rfl hl (by decide) rfl (fun ls hl => ?_)
  have L2 : ∀ (n2 : Nat) (w2_2 : Int32) (H : Heap) (locs : List Loc) (ls : Array Slot), ((Int32.ofNat (sLen.getD i 0)).toInt - w2_2.toInt).toNat < n2 → 0 ≤ w2_2 → va_P D vwCl (pool G ad σ) H → va_S (AA B0) s.heap H locs → lv_has ls 3 [(2, .int w2_2), (0, .int a), (1, .ref (adK i))] → f3_placeOf_L2 a i n2 w2_2 = FF → W p l e (headSpec wsX3_placeOf { frames := 4, cells := 0, slots := 0, locals := 85 }).room s m ([.int a, .ref (adK i)] : List Value).toArray below meth c H locs 0 0 (MQ below (va_Qi (fun (r : Int32) (_ : Unit) => r = f3_placeOf a i ∧ (r.toInt < ((sLen.getD i 0 : Nat) : Int))) (fun (_ : Unit) => Ho D G ad σ) (AA B0)) ([.int a, .ref (adK i)] : List Value).toArray s 0 0 (AA B0)) (F0 m 2 ls []) := by
    intro n2
    induction n2 with
    | zero => intro w2_2 H locs ls hm; exact absurd hm (Nat.not_lt_zero _)
    | succ n2 ih2 =>
      intro w2_2 H locs ls hm2 h2 hP hS hl hF
      rw [f3_placeOf_L2] at hF
      refine lv_iload_n hx hb dX3_placeOf_2 rfl (lv_at hl 0 rfl) ?_
      refine lv_aload_n hx hb dX3_placeOf_3 rfl (lv_at hl 2 rfl) ?_
      refine va_calli (va_runV (As := []) (rest := [.int w2_2]) ⟨hx, hb, hml, hown, hts⟩ (cJ0_length l hA σ i hi ) (cwV 0 hts gX3_placeOf_J0_length_8abf5 rfl rfl rfl hd_J0_lengthV ⟨Nat.le_of_ble_eq_true rfl, Nat.le_of_ble_eq_true rfl⟩) ⟨hs_blind, vk_recv hG.2.2.2.2.2 hi hS, hs_pre hK hN hG hR hS hP⟩ rfl rfl hl.1 rfl (lv_room (Nat.le_of_ble_eq_true rfl)) dX3_placeOf_4 ⟨Nat.zero_le _, Nat.zero_le _⟩) hS (fun _ _ h => h) (fun _ h => h) (fun r4 _ t H locs ht hvm hw9 hB hz1 hk1 hS => ?_)
      have hP := ho_at ht hB
      have eq4 := hw9
      have hF := bnd_s eq4 hF
      refine lv_icmp_ge (tgt := 27) hx hb dX3_placeOf_7 (by decide) (fun c7 => ?_) (fun c7 => ?_)
      · have hF := ift c7 hF
        refine lv_iconst (v := (-1)) hx hb dX3_placeOf_27 (by decide) ?_
        exact W.iret (v := (-1)) hx hb hr (fun t ht hW => ⟨⟨(-1), (), rfl, ⟨hF.trans hFF, (neg1_lt _)⟩, ho_of ht hP⟩, hS.F ht⟩) hS.2.2 dX3_placeOf_28
      · have hF := iff_ c7 hF
        refine lv_aload_n hx hb dX3_placeOf_10 rfl (lv_at hl 2 rfl) ?_
        refine lv_iload_n hx hb dX3_placeOf_11 rfl (lv_at hl 0 rfl) ?_
        refine va_calli (va_runV (As := [.int w2_2]) (rest := []) ⟨hx, hb, hml, hown, hts⟩ (cJ0_charAt l hA σ i hi w2_2 (nlt0 h2) (by rw [← len_eq hi, ← eq4]; exact nle_lt c7)) (cwV 1 hts gX3_placeOf_J0_charAt_5068e rfl rfl rfl hd_J0_charAtV ⟨Nat.le_of_ble_eq_true rfl, Nat.le_of_ble_eq_true rfl⟩) ⟨hs_blind, vk_recv hG.2.2.2.2.2 hi hS, hs_pre hK hN hG hR hS hP⟩ rfl rfl hl.1 rfl (lv_room (Nat.le_of_ble_eq_true rfl)) dX3_placeOf_12 ⟨Nat.zero_le _, Nat.zero_le _⟩) hS (fun _ _ h => h) (fun _ h => h) (fun r12 _ t H locs ht hvm hw9 hB hz1 hk1 hS => ?_)
        have hP := ho_at ht hB
        obtain ⟨eq12, hq_r12⟩ := hw9
        have hF := bnd_s eq12 hF
        refine lv_iload_n hx hb dX3_placeOf_15 rfl (lv_at hl 1 rfl) ?_
        refine lv_icmp_ne (tgt := 21) hx hb dX3_placeOf_16 (by decide) (fun c16 => ?_) (fun c16 => ?_)
        · have hF := iff_ c16 hF
          obtain ⟨v2_21, e_v2_21⟩ : ∃ z : Int32, z = w2_2 + 1 := ⟨_, rfl⟩
          have hF := bnd_s e_v2_21 hF
          refine lv_iinc (v := v2_21) (lv' := [(2, .int v2_21), (0, .int a), (1, .ref (adK i))]) hx hb dX3_placeOf_21 hl (k := 0) rfl (by rw [e_v2_21]; rfl) (by decide) rfl (fun ls hl => ?_)
          refine lv_goto (tgt := 2) hx hb dX3_placeOf_24 (by decide) ?_
          exact ih2 v2_21 _ _ ls (ms_s (dec_up (by rw [← len_eq hi, ← eq4]; exact nle_lt c7) e_v2_21) hm2) (inc_ge0 (nle_lt c7) h2 e_v2_21) hP hS (lv_sub hl [0, 1, 2] rfl) hF
        · have hF := ift c16 hF
          refine lv_iload_n hx hb dX3_placeOf_19 rfl (lv_at hl 0 rfl) ?_
          exact W.iret (v := w2_2) hx hb hr (fun t ht hW => ⟨⟨w2_2, (), rfl, ⟨hF.trans hFF, (pl_post hi eq4 c7)⟩, ho_of ht hP⟩, hS.F ht⟩) hS.2.2 dX3_placeOf_20
  exact L2 BIG 0 _ _ ls (big_up _ _) le0 hP hS (lv_sub hl [0, 1, 2] rfl) hF
theorem hd_X3_placeOfS : yX3_placeOf.cls ≠ "java/lang/invoke/MethodHandle" ∧ yX3_placeOf.cls ≠ "java/lang/invoke/VarHandle" ∧ (parseMethodDescriptor yX3_placeOf.desc).map (fun d => d.parameters.length) = some 2 := by decide +kernel
set_option maxHeartbeats 4000000 in
set_option maxRecDepth 100000 in
theorem c3_tileAt (l : Launch) {D : va_G} {G : CY} {ad : Nat → Nat} {B0 : Nat} (hA : adOK B0 ad) {adK adV : Nat → Nat} (σ : Nat → Nat → Int32) (u : Nat → Int32) (a : Int32) (hO : okC u) (hin : vp_in a 40) : Met l yX3_tileAt wsX3_tileAt { frames := 5, cells := 0, slots := 0, locals := 107 } (va_Pc [.ref (ad (275)), .int a] (Hs adK adV D G ad B0 (va_up σ 15 u))) (va_Qi (fun (r : Int32) (_ : Unit) => r = f3_tileAt u a) (fun (_ : Unit) => Ho D G ad (va_up σ 15 u)) (AA B0)) 0 0 (AA B0) := by
  refine Met.ofW (cc := cX3_tileAt) (maxL := 2) (ret := (some .int)) (by decide) rfl ?_
  intro p e s m args below meth c s₁ B hml hv
  obtain ⟨rfl, ⟨hP, hK, hN⟩, hG, hR⟩ := hv
  have hx := B.exec
  have hb := B.bytes
  have hr := B.returns
  have hts := atoms_spec (ws := wsX3_tileAt) B.pre
  have hown : s.vm.findClass RX3 = some m.cls := findClass_of_methodNamed B.named
  have hlocks := B.notSynchronized
  have inX3 : ∀ w ∈ wsX30, w ∈ wsX3_tileAt := (fun w h => List.mem_cons_of_mem _ (List.mem_append_left _ (List.mem_append_left _ (List.mem_append_right _ h))))
  have hP : va_P D vwCl (pool G ad (va_up σ 15 u)) s.heap := hP
  have hS : va_S (AA B0) s.heap s.heap [] := va_S.rf
  have hl := lv_entry ([.ref (ad (275)), .int a]) (n := 2) (Nat.le_of_ble_eq_true rfl)
  rw [lg_entry_eq]
  generalize (lg_sl ([.ref (ad (275)), .int a]) ++ List.replicate (2 - (lg_sl ([.ref (ad (275)), .int a])).length) Slot.unset).toArray = ls at hl ⊢
  have hl : lv_has ls 2 [(0, .ref (ad (275))), (1, .int a)] := hl
  obtain ⟨FF, hFF⟩ : ∃ z, z = f3_tileAt u a := ⟨_, rfl⟩
  have hF := hFF.symm
  rw [f3_tileAt] at hF
  refine lv_aload_n hx hb dX3_tileAt_0 rfl (lv_at hl 0 rfl) ?_
  refine va_get (D := D) (ci := 5) (C := RX3) (T := TX3) (N := 5) hx hb hts inX3 hown hK hP (275) c_275 rfl 0 (by decide) (hts (.fieldLink RX3 9 "TileRunners$Text" "signs" "[C") (List.mem_of_getElem? (i := 1) rfl)) (fun _ h9 => h9) rfl dX3_tileAt_1 ?_
  refine lv_iload_n hx hb dX3_tileAt_4 rfl (lv_at hl 1 rfl) ?_
  refine pcald (n := 40) (o := 20) (t := 20+a.toNatClampNeg) (i := a) hx hb hK hP c_276 hin rfl dX3_tileAt_5 ?_
  refine va_ldcS hx hb hown hR.1 dX3_tileAt_6 ?_
  refine va_calli (va_runS (As := [.int (u (20+a.toNatClampNeg)), .ref (adK 0)]) (rest := []) ⟨hx, hb, hml, hown, hts⟩ (c3_placeOf l hA (va_up σ 15 u) (u (20+a.toNatClampNeg)) 0 (by decide) ) (va_cwS 2 hts gX3_tileAt_X3_placeOf rfl rfl rfl hd_X3_placeOfS ⟨Nat.le_of_ble_eq_true rfl, Nat.le_of_ble_eq_true rfl⟩) ⟨hs_blind, hs_pre hK hN hG hR hS hP⟩ rfl rfl hl.1 rfl (lv_room (Nat.le_of_ble_eq_true rfl)) dX3_tileAt_8 ⟨Nat.zero_le _, Nat.zero_le _⟩) hS (fun _ _ h => h) (fun _ h => h) (fun r8 _ t H locs ht hvm hw9 hB hz1 hk1 hS => ?_)
  have hP := ho_at ht hB
  obtain ⟨eq8, hq_r8⟩ := hw9
  have hF := bnd_s eq8 hF
  exact W.iret (v := r8) hx hb hr (fun t ht hW => ⟨⟨r8, (), rfl, hF.trans hFF, ho_of ht hP⟩, hS.F ht⟩) hS.2.2 dX3_tileAt_11
theorem hd_X3_tileAtV : yX3_tileAt.cls = RX3 ∧ yX3_tileAt.cls ≠ "java/lang/invoke/MethodHandle" ∧ yX3_tileAt.cls ≠ "java/lang/invoke/VarHandle" ∧ (parseMethodDescriptor yX3_tileAt.desc).map (fun d => d.parameters.length) = some 1 := by decide +kernel
set_option maxHeartbeats 4000000 in
set_option maxRecDepth 100000 in
theorem c3_faultOfTiles (l : Launch) {D : va_G} {G : CY} {ad : Nat → Nat} {B0 : Nat} (hA : adOK B0 ad) {adK adV : Nat → Nat} (σ : Nat → Nat → Int32) (u : Nat → Int32) (a : Int32) (hO : okC u) (ha : a.toInt ≤ 40) : Met l yX3_faultOfTiles wsX3_faultOfTiles { frames := 6, cells := 0, slots := 0, locals := 128 } (va_Pc [.ref (ad (275)), .int a] (Hs adK adV D G ad B0 (va_up σ 15 u))) (va_Qi (fun (r : Int32) (_ : Unit) => r = f3_faultOfTiles u a) (fun (_ : Unit) => Ho D G ad (va_up σ 15 u)) (AA B0)) 0 0 (AA B0) := by
  refine Met.ofW (cc := cX3_faultOfTiles) (maxL := 3) (ret := (some .int)) (by decide) rfl ?_
  intro p e s m args below meth c s₁ B hml hv
  obtain ⟨rfl, ⟨hP, hK, hN⟩, hG, hR⟩ := hv
  have hx := B.exec
  have hb := B.bytes
  have hr := B.returns
  have hts := atoms_spec (ws := wsX3_faultOfTiles) B.pre
  have hown : s.vm.findClass RX3 = some m.cls := findClass_of_methodNamed B.named
  have hlocks := B.notSynchronized
  have hP : va_P D vwCl (pool G ad (va_up σ 15 u)) s.heap := hP
  have hS : va_S (AA B0) s.heap s.heap [] := va_S.rf
  have hl := lv_entry ([.ref (ad (275)), .int a]) (n := 3) (Nat.le_of_ble_eq_true rfl)
  rw [lg_entry_eq]
  generalize (lg_sl ([.ref (ad (275)), .int a]) ++ List.replicate (3 - (lg_sl ([.ref (ad (275)), .int a])).length) Slot.unset).toArray = ls at hl ⊢
  have hl : lv_has ls 3 [(0, .ref (ad (275))), (1, .int a)] := hl
  obtain ⟨FF, hFF⟩ : ∃ z, z = f3_faultOfTiles u a := ⟨_, rfl⟩
  have hF := hFF.symm
  rw [f3_faultOfTiles] at hF
  refine lv_iconst (v := 0) hx hb dX3_faultOfTiles_0 (by decide) ?_
  refine lv_istore_n (lv' := [(2, .int 0), (0, .ref (ad (275))), (1, .int a)]) hx hb dX3_faultOfTiles_1 rfl hl (by decide) rfl (fun ls hl => ?_)
  have L2 : ∀ (n2 : Nat) (w2_2 : Int32) (H : Heap) (locs : List Loc) (ls : Array Slot), (a.toInt - w2_2.toInt).toNat < n2 → 0 ≤ w2_2 → va_P D vwCl (pool G ad (va_up σ 15 u)) H → va_S (AA B0) s.heap H locs → lv_has ls 3 [(2, .int w2_2), (0, .ref (ad (275))), (1, .int a)] → f3_faultOfTiles_L2 u a n2 w2_2 = FF → W p l e (headSpec wsX3_faultOfTiles { frames := 6, cells := 0, slots := 0, locals := 128 }).room s m ([.ref (ad (275)), .int a] : List Value).toArray below meth c H locs 0 0 (MQ below (va_Qi (fun (r : Int32) (_ : Unit) => r = f3_faultOfTiles u a) (fun (_ : Unit) => Ho D G ad (va_up σ 15 u)) (AA B0)) ([.ref (ad (275)), .int a] : List Value).toArray s 0 0 (AA B0)) (F0 m 2 ls []) := by
    intro n2
    induction n2 with
    | zero => intro w2_2 H locs ls hm; exact absurd hm (Nat.not_lt_zero _)
    | succ n2 ih2 =>
      intro w2_2 H locs ls hm2 h2 hP hS hl hF
      rw [f3_faultOfTiles_L2] at hF
      refine lv_iload_n hx hb dX3_faultOfTiles_2 rfl (lv_at hl 0 rfl) ?_
      refine lv_iload_n hx hb dX3_faultOfTiles_3 rfl (lv_at hl 2 rfl) ?_
      refine lv_icmp_ge (tgt := 29) hx hb dX3_faultOfTiles_4 (by decide) (fun c4 => ?_) (fun c4 => ?_)
      · have hF := ift c4 hF
        refine lv_iload_n hx hb dX3_faultOfTiles_29 rfl (lv_at hl 2 rfl) ?_
        refine lv_if_ne (tgt := 37) hx hb dX3_faultOfTiles_30 (by decide) (fun c30 => ?_) (fun c30 => ?_)
        · have hF := iff_ c30 hF
          refine lv_iconst (v := (-1)) hx hb dX3_faultOfTiles_37 (by decide) ?_
          exact W.iret (v := (-1)) hx hb hr (fun t ht hW => ⟨⟨(-1), (), rfl, hF.trans hFF, ho_of ht hP⟩, hS.F ht⟩) hS.2.2 dX3_faultOfTiles_38
        · have hF := ift c30 hF
          refine lv_iconst (v := 0) hx hb dX3_faultOfTiles_33 (by decide) ?_
          refine lv_goto (tgt := 38) hx hb dX3_faultOfTiles_34 (by decide) ?_
          exact W.iret (v := 0) hx hb hr (fun t ht hW => ⟨⟨0, (), rfl, hF.trans hFF, ho_of ht hP⟩, hS.F ht⟩) hS.2.2 dX3_faultOfTiles_38
      · have hF := iff_ c4 hF
        refine lv_iload_n hx hb dX3_faultOfTiles_7 rfl (lv_at hl 0 rfl) ?_
        refine lv_bipush (v := 24) hx hb dX3_faultOfTiles_8 (by decide) ?_
        refine lv_icmp_ge (tgt := 21) hx hb dX3_faultOfTiles_10 (by decide) (fun c10 => ?_) (fun c10 => ?_)
        · have hF := ift c10 hF
          refine lv_iload_n hx hb dX3_faultOfTiles_21 rfl (lv_at hl 0 rfl) ?_
          exact W.iret (v := w2_2) hx hb hr (fun t ht hW => ⟨⟨w2_2, (), rfl, hF.trans hFF, ho_of ht hP⟩, hS.F ht⟩) hS.2.2 dX3_faultOfTiles_22
        · have hF := iff_ c10 hF
          refine lv_aload_n hx hb dX3_faultOfTiles_13 rfl (lv_at hl 1 rfl) ?_
          refine lv_iload_n hx hb dX3_faultOfTiles_14 rfl (lv_at hl 0 rfl) ?_
          refine va_calli (va_runV (As := [.int w2_2]) (rest := []) ⟨hx, hb, hml, hown, hts⟩ (c3_tileAt l hA σ u w2_2 hO (in_n h2 (nle_lt c4) ha)) (cwV 1 hts gX3_faultOfTiles_X3_tileAt rfl rfl rfl hd_X3_tileAtV ⟨Nat.le_of_ble_eq_true rfl, Nat.le_of_ble_eq_true rfl⟩) ⟨hs_blind, va_recv hK hP (ci := 5) (q0 := 275) rfl c_275, hs_pre hK hN hG hR hS hP⟩ rfl rfl hl.1 rfl (lv_room (Nat.le_of_ble_eq_true rfl)) dX3_faultOfTiles_15 ⟨Nat.zero_le _, Nat.zero_le _⟩) hS (fun _ _ h => h) (fun _ h => h) (fun r15 _ t H locs ht hvm hw9 hB hz1 hk1 hS => ?_)
          have hP := ho_at ht hB
          have eq15 := hw9
          have hF := bnd_s eq15 hF
          refine lv_if_ge (tgt := 23) hx hb dX3_faultOfTiles_18 (by decide) (fun c18 => ?_) (fun c18 => ?_)
          · have hF := ift c18 hF
            obtain ⟨v2_23, e_v2_23⟩ : ∃ z : Int32, z = w2_2 + 1 := ⟨_, rfl⟩
            have hF := bnd_s e_v2_23 hF
            refine lv_iinc (v := v2_23) (lv' := [(2, .int v2_23), (0, .ref (ad (275))), (1, .int a)]) hx hb dX3_faultOfTiles_23 hl (k := 0) rfl (by rw [e_v2_23]; rfl) (by decide) rfl (fun ls hl => ?_)
            refine lv_goto (tgt := 2) hx hb dX3_faultOfTiles_26 (by decide) ?_
            exact ih2 v2_23 _ _ ls (ms_s (dec_up (nle_lt c4) e_v2_23) hm2) (inc_ge0 (nle_lt c4) h2 e_v2_23) hP hS (lv_sub hl [0, 1, 2] rfl) hF
          · have hF := iff_ c18 hF
            refine lv_iload_n hx hb dX3_faultOfTiles_21 rfl (lv_at hl 0 rfl) ?_
            exact W.iret (v := w2_2) hx hb hr (fun t ht hW => ⟨⟨w2_2, (), rfl, hF.trans hFF, ho_of ht hP⟩, hS.F ht⟩) hS.2.2 dX3_faultOfTiles_22
  exact L2 BIG 0 _ _ ls (big_up _ _) le0 hP hS (lv_sub hl [0, 1, 2] rfl) hF
theorem hd_X3_faultOfTilesV : yX3_faultOfTiles.cls = RX3 ∧ yX3_faultOfTiles.cls ≠ "java/lang/invoke/MethodHandle" ∧ yX3_faultOfTiles.cls ≠ "java/lang/invoke/VarHandle" ∧ (parseMethodDescriptor yX3_faultOfTiles.desc).map (fun d => d.parameters.length) = some 1 := by decide +kernel
set_option maxHeartbeats 4000000 in
set_option maxRecDepth 100000 in
theorem c3_faultOfInputs (l : Launch) {D : va_G} {G : CY} {ad : Nat → Nat} {B0 : Nat} (hA : adOK B0 ad) {adK adV : Nat → Nat} (σ : Nat → Nat → Int32) (u : Nat → Int32) (a : Int32) (hO : okC u) (ha : a.toInt ≤ 40) : Met l yX3_faultOfInputs wsX3_faultOfInputs { frames := 5, cells := 0, slots := 0, locals := 107 } (va_Pc [.ref (ad (275)), .int a] (Hs adK adV D G ad B0 (va_up σ 15 u))) (va_Qi (fun (r : Int32) (_ : Unit) => r = f3_faultOfInputs u a) (fun (_ : Unit) => Ho D G ad (va_up σ 15 u)) (AA B0)) 0 0 (AA B0) := by
  refine Met.ofW (cc := cX3_faultOfInputs) (maxL := 4) (ret := (some .int)) (by decide) rfl ?_
  intro p e s m args below meth c s₁ B hml hv
  obtain ⟨rfl, ⟨hP, hK, hN⟩, hG, hR⟩ := hv
  have hx := B.exec
  have hb := B.bytes
  have hr := B.returns
  have hts := atoms_spec (ws := wsX3_faultOfInputs) B.pre
  have hown : s.vm.findClass RX3 = some m.cls := findClass_of_methodNamed B.named
  have hlocks := B.notSynchronized
  have inX3 : ∀ w ∈ wsX30, w ∈ wsX3_faultOfInputs := (fun w h => List.mem_cons_of_mem _ (List.mem_append_left _ (List.mem_append_left _ (List.mem_append_right _ h))))
  have hP : va_P D vwCl (pool G ad (va_up σ 15 u)) s.heap := hP
  have hS : va_S (AA B0) s.heap s.heap [] := va_S.rf
  have hl := lv_entry ([.ref (ad (275)), .int a]) (n := 4) (Nat.le_of_ble_eq_true rfl)
  rw [lg_entry_eq]
  generalize (lg_sl ([.ref (ad (275)), .int a]) ++ List.replicate (4 - (lg_sl ([.ref (ad (275)), .int a])).length) Slot.unset).toArray = ls at hl ⊢
  have hl : lv_has ls 4 [(0, .ref (ad (275))), (1, .int a)] := hl
  obtain ⟨FF, hFF⟩ : ∃ z, z = f3_faultOfInputs u a := ⟨_, rfl⟩
  have hF := hFF.symm
  rw [f3_faultOfInputs] at hF
  refine lv_iconst (v := 2) hx hb dX3_faultOfInputs_0 (by decide) ?_
  refine lv_istore_n (lv' := [(2, .int 2), (0, .ref (ad (275))), (1, .int a)]) hx hb dX3_faultOfInputs_1 rfl hl (by decide) rfl (fun ls hl => ?_)
  refine lv_iconst (v := 0) hx hb dX3_faultOfInputs_2 (by decide) ?_
  refine lv_istore_n (lv' := [(3, .int 0), (2, .int 2), (0, .ref (ad (275))), (1, .int a)]) hx hb dX3_faultOfInputs_3 rfl hl (by decide) rfl (fun ls hl => ?_)
  have L4 : ∀ (n4 : Nat) (w3_4 : Int32) (w2_4 : Int32) (H : Heap) (locs : List Loc) (ls : Array Slot), (a.toInt - w3_4.toInt).toNat < n4 → 0 ≤ w3_4 → va_P D vwCl (pool G ad (va_up σ 15 u)) H → va_S (AA B0) s.heap H locs → lv_has ls 4 [(3, .int w3_4), (2, .int w2_4), (0, .ref (ad (275))), (1, .int a)] → f3_faultOfInputs_L4 u a n4 w3_4 w2_4 = FF → W p l e (headSpec wsX3_faultOfInputs { frames := 5, cells := 0, slots := 0, locals := 107 }).room s m ([.ref (ad (275)), .int a] : List Value).toArray below meth c H locs 0 0 (MQ below (va_Qi (fun (r : Int32) (_ : Unit) => r = f3_faultOfInputs u a) (fun (_ : Unit) => Ho D G ad (va_up σ 15 u)) (AA B0)) ([.ref (ad (275)), .int a] : List Value).toArray s 0 0 (AA B0)) (F0 m 4 ls []) := by
    intro n4
    induction n4 with
    | zero => intro w3_4 w2_4 H locs ls hm; exact absurd hm (Nat.not_lt_zero _)
    | succ n4 ih4 =>
      intro w3_4 w2_4 H locs ls hm4 h3 hP hS hl hF
      rw [f3_faultOfInputs_L4] at hF
      refine lv_iload_n hx hb dX3_faultOfInputs_4 rfl (lv_at hl 0 rfl) ?_
      refine lv_iload_n hx hb dX3_faultOfInputs_5 rfl (lv_at hl 3 rfl) ?_
      refine lv_icmp_ge (tgt := 62) hx hb dX3_faultOfInputs_6 (by decide) (fun c6 => ?_) (fun c6 => ?_)
      · have hF := ift c6 hF
        refine lv_iload_n hx hb dX3_faultOfInputs_62 rfl (lv_at hl 3 rfl) ?_
        refine lv_if_eq (tgt := 70) hx hb dX3_faultOfInputs_63 (by decide) (fun c63 => ?_) (fun c63 => ?_)
        · have hF := ift c63 hF
          refine lv_iload_n hx hb dX3_faultOfInputs_70 rfl (lv_at hl 3 rfl) ?_
          refine lv_goto (tgt := 75) hx hb dX3_faultOfInputs_71 (by decide) ?_
          exact W.iret (v := a) hx hb hr (fun t ht hW => ⟨⟨a, (), rfl, hF.trans hFF, ho_of ht hP⟩, hS.F ht⟩) hS.2.2 dX3_faultOfInputs_75
        · have hF := iff_ c63 hF
          refine lv_iload_n hx hb dX3_faultOfInputs_66 rfl (lv_at hl 1 rfl) ?_
          refine lv_if_ne (tgt := 74) hx hb dX3_faultOfInputs_67 (by decide) (fun c67 => ?_) (fun c67 => ?_)
          · have hF := iff_ c67 hF
            refine lv_iconst (v := (-1)) hx hb dX3_faultOfInputs_74 (by decide) ?_
            exact W.iret (v := (-1)) hx hb hr (fun t ht hW => ⟨⟨(-1), (), rfl, hF.trans hFF, ho_of ht hP⟩, hS.F ht⟩) hS.2.2 dX3_faultOfInputs_75
          · have hF := ift c67 hF
            refine lv_iload_n hx hb dX3_faultOfInputs_70 rfl (lv_at hl 3 rfl) ?_
            refine lv_goto (tgt := 75) hx hb dX3_faultOfInputs_71 (by decide) ?_
            exact W.iret (v := a) hx hb hr (fun t ht hW => ⟨⟨a, (), rfl, hF.trans hFF, ho_of ht hP⟩, hS.F ht⟩) hS.2.2 dX3_faultOfInputs_75
      · have hF := iff_ c6 hF
        refine lv_aload_n hx hb dX3_faultOfInputs_9 rfl (lv_at hl 2 rfl) ?_
        refine va_get (D := D) (ci := 5) (C := RX3) (T := TX3) (N := 5) hx hb hts inX3 hown hK hP (275) c_275 rfl 0 (by decide) (hts (.fieldLink RX3 9 "TileRunners$Text" "signs" "[C") (List.mem_of_getElem? (i := 1) rfl)) (fun _ h9 => h9) rfl dX3_faultOfInputs_10 ?_
        refine lv_iload_n hx hb dX3_faultOfInputs_13 rfl (lv_at hl 0 rfl) ?_
        refine pcald (n := 40) (o := 20) (t := 20+w3_4.toNatClampNeg) (i := w3_4) hx hb hK hP c_276 (in_n h3 (nle_lt c6) ha) rfl dX3_faultOfInputs_14 ?_
        refine va_calli (va_runS (As := [.int (u (20+w3_4.toNatClampNeg))]) (rest := []) ⟨hx, hb, hml, hown, hts⟩ (c3_isDigit l hA (va_up σ 15 u) (u (20+w3_4.toNatClampNeg)) ) (va_cwS 1 hts gX3_faultOfInputs_X3_isDigit rfl rfl rfl hd_X3_isDigitS ⟨Nat.le_of_ble_eq_true rfl, Nat.le_of_ble_eq_true rfl⟩) ⟨hp_blind, hp_pre hK hN hP⟩ rfl rfl hl.1 rfl (lv_room (Nat.le_of_ble_eq_true rfl)) dX3_faultOfInputs_15 ⟨Nat.zero_le _, Nat.zero_le _⟩) hS (fun _ _ h => h) (fun _ h => h) (fun r15 _ t H locs ht hvm hw9 hB hz1 hk1 hS => ?_)
        have hP := ho_at ht hB
        obtain ⟨eq15, hb_r15⟩ := hw9
        have hF := bnd_s eq15 hF
        have J56 : ∀ (w2_56 : Int32) (H : Heap) (locs : List Loc) (ls : Array Slot), va_P D vwCl (pool G ad (va_up σ 15 u)) H → va_S (AA B0) s.heap H locs → lv_has ls 4 [(3, .int w3_4), (2, .int w2_56), (0, .ref (ad (275))), (1, .int a)] → f3_faultOfInputs_b56 (f3_faultOfInputs_L4 u a n4) w3_4 w2_56 = FF → W p l e (headSpec wsX3_faultOfInputs { frames := 5, cells := 0, slots := 0, locals := 107 }).room s m ([.ref (ad (275)), .int a] : List Value).toArray below meth c H locs 0 0 (MQ below (va_Qi (fun (r : Int32) (_ : Unit) => r = f3_faultOfInputs u a) (fun (_ : Unit) => Ho D G ad (va_up σ 15 u)) (AA B0)) ([.ref (ad (275)), .int a] : List Value).toArray s 0 0 (AA B0)) (F0 m 56 ls []) := by
          intro w2_56 H locs ls hP hS hl hF
          rw [f3_faultOfInputs_b56] at hF
          obtain ⟨v3_56, e_v3_56⟩ : ∃ z : Int32, z = w3_4 + 1 := ⟨_, rfl⟩
          have hF := bnd_s e_v3_56 hF
          refine lv_iinc (v := v3_56) (lv' := [(3, .int v3_56), (2, .int w2_56), (0, .ref (ad (275))), (1, .int a)]) hx hb dX3_faultOfInputs_56 hl (k := 0) rfl (by rw [e_v3_56]; rfl) (by decide) rfl (fun ls hl => ?_)
          refine lv_goto (tgt := 4) hx hb dX3_faultOfInputs_59 (by decide) ?_
          exact ih4 v3_56 w2_56 _ _ ls (ms_s (dec_up (nle_lt c6) e_v3_56) hm4) (inc_ge0 (nle_lt c6) h3 e_v3_56) hP hS (lv_sub hl [0, 1, 2, 3] rfl) hF
        refine lv_if_eq (tgt := 34) hx hb dX3_faultOfInputs_18 (by decide) (fun c18 => ?_) (fun c18 => ?_)
        · have hF := ift c18 hF
          refine lv_iload_n hx hb dX3_faultOfInputs_34 rfl (lv_at hl 1 rfl) ?_
          refine lv_if_eq (tgt := 52) hx hb dX3_faultOfInputs_35 (by decide) (fun c35 => ?_) (fun c35 => ?_)
          · have hF := ift c35 hF
            refine lv_iload_n hx hb dX3_faultOfInputs_52 rfl (lv_at hl 0 rfl) ?_
            exact W.iret (v := w3_4) hx hb hr (fun t ht hW => ⟨⟨w3_4, (), rfl, hF.trans hFF, ho_of ht hP⟩, hS.F ht⟩) hS.2.2 dX3_faultOfInputs_53
          · have hF := iff_ c35 hF
            refine lv_aload_n hx hb dX3_faultOfInputs_38 rfl (lv_at hl 2 rfl) ?_
            refine va_get (D := D) (ci := 5) (C := RX3) (T := TX3) (N := 5) hx hb hts inX3 hown hK hP (275) c_275 rfl 0 (by decide) (hts (.fieldLink RX3 9 "TileRunners$Text" "signs" "[C") (List.mem_of_getElem? (i := 1) rfl)) (fun _ h9 => h9) rfl dX3_faultOfInputs_39 ?_
            refine lv_iload_n hx hb dX3_faultOfInputs_42 rfl (lv_at hl 0 rfl) ?_
            refine pcald (n := 40) (o := 20) (t := 20+w3_4.toNatClampNeg) (i := w3_4) hx hb hK hP c_276 (in_n h3 (nle_lt c6) ha) rfl dX3_faultOfInputs_43 ?_
            refine va_ldcS hx hb hown hR.2.1 dX3_faultOfInputs_44 ?_
            refine va_calli (va_runS (As := [.int (u (20+w3_4.toNatClampNeg)), .ref (adK 1)]) (rest := []) ⟨hx, hb, hml, hown, hts⟩ (c3_placeOf l hA (va_up σ 15 u) (u (20+w3_4.toNatClampNeg)) 1 (by decide) ) (va_cwS 2 hts gX3_faultOfInputs_X3_placeOf rfl rfl rfl hd_X3_placeOfS ⟨Nat.le_of_ble_eq_true rfl, Nat.le_of_ble_eq_true rfl⟩) ⟨hs_blind, hs_pre hK hN hG hR hS hP⟩ rfl rfl hl.1 rfl (lv_room (Nat.le_of_ble_eq_true rfl)) dX3_faultOfInputs_46 ⟨Nat.zero_le _, Nat.zero_le _⟩) hS (fun _ _ h => h) (fun _ h => h) (fun r46 _ t H locs ht hvm hw9 hB hz1 hk1 hS => ?_)
            have hP := ho_at ht hB
            obtain ⟨eq46, hq_r46⟩ := hw9
            have hF := bnd_s eq46 hF
            refine lv_if_ge (tgt := 54) hx hb dX3_faultOfInputs_49 (by decide) (fun c49 => ?_) (fun c49 => ?_)
            · have hF := ift c49 hF
              refine lv_iconst (v := 0) hx hb dX3_faultOfInputs_54 (by decide) ?_
              refine lv_istore_n (lv' := [(2, .int 0), (3, .int w3_4), (0, .ref (ad (275))), (1, .int a)]) hx hb dX3_faultOfInputs_55 rfl hl (by decide) rfl (fun ls hl => ?_)
              exact J56 0 _ _ ls hP hS (lv_sub hl [1, 0, 2, 3] rfl) hF
            · have hF := iff_ c49 hF
              refine lv_iload_n hx hb dX3_faultOfInputs_52 rfl (lv_at hl 0 rfl) ?_
              exact W.iret (v := w3_4) hx hb hr (fun t ht hW => ⟨⟨w3_4, (), rfl, hF.trans hFF, ho_of ht hP⟩, hS.F ht⟩) hS.2.2 dX3_faultOfInputs_53
        · have hF := iff_ c18 hF
          refine lv_iload_n hx hb dX3_faultOfInputs_21 rfl (lv_at hl 1 rfl) ?_
          refine lv_iconst (v := 2) hx hb dX3_faultOfInputs_22 (by decide) ?_
          refine lv_icmp_ne (tgt := 28) hx hb dX3_faultOfInputs_23 (by decide) (fun c23 => ?_) (fun c23 => ?_)
          · have hF := iff_ c23 hF
            obtain ⟨v2_28, e_v2_28⟩ : ∃ z : Int32, z = w2_4 + 1 := ⟨_, rfl⟩
            have hF := bnd_s e_v2_28 hF
            refine lv_iinc (v := v2_28) (lv' := [(2, .int v2_28), (3, .int w3_4), (0, .ref (ad (275))), (1, .int a)]) hx hb dX3_faultOfInputs_28 hl (k := 1) rfl (by rw [e_v2_28]; rfl) (by decide) rfl (fun ls hl => ?_)
            refine lv_goto (tgt := 56) hx hb dX3_faultOfInputs_31 (by decide) ?_
            exact J56 v2_28 _ _ ls hP hS (lv_sub hl [1, 0, 2, 3] rfl) hF
          · have hF := ift c23 hF
            refine lv_iload_n hx hb dX3_faultOfInputs_26 rfl (lv_at hl 0 rfl) ?_
            exact W.iret (v := w3_4) hx hb hr (fun t ht hW => ⟨⟨w3_4, (), rfl, hF.trans hFF, ho_of ht hP⟩, hS.F ht⟩) hS.2.2 dX3_faultOfInputs_27
  exact L4 BIG 0 2 _ _ ls (big_up _ _) le0 hP hS (lv_sub hl [0, 1, 2, 3] rfl) hF
theorem hd_X3_faultOfInputsV : yX3_faultOfInputs.cls = RX3 ∧ yX3_faultOfInputs.cls ≠ "java/lang/invoke/MethodHandle" ∧ yX3_faultOfInputs.cls ≠ "java/lang/invoke/VarHandle" ∧ (parseMethodDescriptor yX3_faultOfInputs.desc).map (fun d => d.parameters.length) = some 1 := by decide +kernel
set_option maxHeartbeats 4000000 in
set_option maxRecDepth 100000 in
theorem c3_readCommands (l : Launch) {D : va_G} {G : CY} {ad : Nat → Nat} {B0 : Nat} (hA : adOK B0 ad) {adK adV : Nat → Nat} (σ : Nat → Nat → Int32) (u : Nat → Int32) (a : Int32) (hO : okC u) (ha : a.toInt ≤ 40) : Met l yX3_readCommands wsX3_readCommands { frames := 5, cells := 0, slots := 0, locals := 107 } (va_Pc [.ref (ad (275)), .int a] (Hs adK adV D G ad B0 (va_up σ 15 u))) (va_Qi (fun (r : Int32) (z : Nat → Int32) => (r, z) = f3_readCommands u a ∧ okC z) (fun (z : Nat → Int32) => Ho D G ad (va_up σ 15 z)) (AA B0)) 0 0 (AA B0) := by
  refine Met.ofW (cc := cX3_readCommands) (maxL := 6) (ret := (some .int)) (by decide) rfl ?_
  intro p e s m args below meth c s₁ B hml hv
  obtain ⟨rfl, ⟨hP, hK, hN⟩, hG, hR⟩ := hv
  have hx := B.exec
  have hb := B.bytes
  have hr := B.returns
  have hts := atoms_spec (ws := wsX3_readCommands) B.pre
  have hown : s.vm.findClass RX3 = some m.cls := findClass_of_methodNamed B.named
  have hlocks := B.notSynchronized
  have inX3 : ∀ w ∈ wsX30, w ∈ wsX3_readCommands := (fun w h => List.mem_cons_of_mem _ (List.mem_append_left _ (List.mem_append_left _ (List.mem_append_right _ h))))
  have hP : va_P D vwCl (pool G ad (va_up σ 15 u)) s.heap := hP
  have hS : va_S (AA B0) s.heap s.heap [] := va_S.rf
  have hl := lv_entry ([.ref (ad (275)), .int a]) (n := 6) (Nat.le_of_ble_eq_true rfl)
  rw [lg_entry_eq]
  generalize (lg_sl ([.ref (ad (275)), .int a]) ++ List.replicate (6 - (lg_sl ([.ref (ad (275)), .int a])).length) Slot.unset).toArray = ls at hl ⊢
  have hl : lv_has ls 6 [(0, .ref (ad (275))), (1, .int a)] := hl
  obtain ⟨FF, hFF⟩ : ∃ z, z = f3_readCommands u a := ⟨_, rfl⟩
  have hF := hFF.symm
  rw [f3_readCommands] at hF
  refine lv_iconst (v := 0) hx hb dX3_readCommands_0 (by decide) ?_
  refine lv_istore_n (lv' := [(2, .int 0), (0, .ref (ad (275))), (1, .int a)]) hx hb dX3_readCommands_1 rfl hl (by decide) rfl (fun ls hl => ?_)
  refine lv_iconst (v := 0) hx hb dX3_readCommands_2 (by decide) ?_
  refine lv_istore_n (lv' := [(3, .int 0), (2, .int 0), (0, .ref (ad (275))), (1, .int a)]) hx hb dX3_readCommands_3 rfl hl (by decide) rfl (fun ls hl => ?_)
  refine lv_aload_n hx hb dX3_readCommands_4 rfl (lv_at hl 2 rfl) ?_
  refine lv_iconst (v := 0) hx hb dX3_readCommands_5 (by decide) ?_
  refine pput15 hx hb hts inX3 tyX3 tyX3_ok nmX3 hown hK hP hA hS (j := 275) (by decide) (by decide) rfl rfl 4 (by decide) (hts (.fieldLink RX3 42 "TileRunners$Text" "commandCount" "I") (List.mem_of_getElem? (i := 1) rfl)) (fun _ h9 => h9) rfl (tyX3_ok 4 (by decide)) rfl rfl (Nat.le_of_ble_eq_true rfl) (5) (by decide) (setX_4) dX3_readCommands_6 (fun u9 H locs eu9 hP hS => ?_)
  obtain ⟨u6, e_u6⟩ : ∃ z, z = u9 := ⟨_, rfl⟩
  rw [← e_u6] at hP eu9
  have hF := bnd_s eu9 hF
  have eq6 := eu9
  have hO := (okC_5e eu9 hO ⟨by decide, by decide⟩)
  have L9 : ∀ (n9 : Nat) (w3_9 : Int32) (w2_9 : Int32) (u_9 : (Nat → Int32)) (H : Heap) (locs : List Loc) (ls : Array Slot), (a.toInt - w3_9.toInt).toNat < n9 → 0 ≤ w3_9 → okC u_9 → va_P D vwCl (pool G ad (va_up σ 15 u_9)) H → va_S (AA B0) s.heap H locs → lv_has ls 6 [(3, .int w3_9), (2, .int w2_9), (0, .ref (ad (275))), (1, .int a)] → f3_readCommands_L9 a n9 w3_9 w2_9 u_9 = FF → W p l e (headSpec wsX3_readCommands { frames := 5, cells := 0, slots := 0, locals := 107 }).room s m ([.ref (ad (275)), .int a] : List Value).toArray below meth c H locs 0 0 (MQ below (va_Qi (fun (r : Int32) (z : Nat → Int32) => (r, z) = f3_readCommands u a ∧ okC z) (fun (z : Nat → Int32) => Ho D G ad (va_up σ 15 z)) (AA B0)) ([.ref (ad (275)), .int a] : List Value).toArray s 0 0 (AA B0)) (F0 m 9 ls []) := by
    intro n9
    induction n9 with
    | zero => intro w3_9 w2_9 u_9 H locs ls hm; exact absurd hm (Nat.not_lt_zero _)
    | succ n9 ih9 =>
      intro w3_9 w2_9 u_9 H locs ls hm9 h3 hO hP hS hl hF
      rw [f3_readCommands_L9] at hF
      refine lv_iload_n hx hb dX3_readCommands_9 rfl (lv_at hl 0 rfl) ?_
      refine lv_iload_n hx hb dX3_readCommands_10 rfl (lv_at hl 3 rfl) ?_
      refine lv_icmp_ge (tgt := 135) hx hb dX3_readCommands_11 (by decide) (fun c11 => ?_) (fun c11 => ?_)
      · have hF := ift c11 hF
        refine lv_iload_n hx hb dX3_readCommands_135 rfl (lv_at hl 1 rfl) ?_
        exact W.iret (v := w2_9) hx hb hr (fun t ht hW => ⟨⟨w2_9, u_9, rfl, ⟨hF.trans hFF, hO⟩, ho_of ht hP⟩, hS.F ht⟩) hS.2.2 dX3_readCommands_136
      · have hF := iff_ c11 hF
        refine lv_aload_n hx hb dX3_readCommands_14 rfl (lv_at hl 2 rfl) ?_
        refine va_get (D := D) (ci := 5) (C := RX3) (T := TX3) (N := 5) hx hb hts inX3 hown hK hP (275) c_275 rfl 4 (by decide) (hts (.fieldLink RX3 42 "TileRunners$Text" "commandCount" "I") (List.mem_of_getElem? (i := 1) rfl)) (fun _ h9 => h9) rfl dX3_readCommands_15 ?_
        refine lv_bipush (v := 20) hx hb dX3_readCommands_18 (by decide) ?_
        refine lv_icmp_ge (tgt := 135) hx hb dX3_readCommands_20 (by decide) (fun c20 => ?_) (fun c20 => ?_)
        · have hF := ift c20 hF
          refine lv_iload_n hx hb dX3_readCommands_135 rfl (lv_at hl 1 rfl) ?_
          exact W.iret (v := w2_9) hx hb hr (fun t ht hW => ⟨⟨w2_9, u_9, rfl, ⟨hF.trans hFF, hO⟩, ho_of ht hP⟩, hS.F ht⟩) hS.2.2 dX3_readCommands_136
        · have hF := iff_ c20 hF
          have hO9 := hO
          refine lv_aload_n hx hb dX3_readCommands_23 rfl (lv_at hl 2 rfl) ?_
          refine va_get (D := D) (ci := 5) (C := RX3) (T := TX3) (N := 5) hx hb hts inX3 hown hK hP (275) c_275 rfl 0 (by decide) (hts (.fieldLink RX3 9 "TileRunners$Text" "signs" "[C") (List.mem_of_getElem? (i := 2) rfl)) (fun _ h9 => h9) rfl dX3_readCommands_24 ?_
          refine lv_iload_n hx hb dX3_readCommands_27 rfl (lv_at hl 0 rfl) ?_
          refine pcald (n := 40) (o := 20) (t := 20+w3_9.toNatClampNeg) (i := w3_9) hx hb hK hP c_276 (in_n h3 (nle_lt c11) ha) rfl dX3_readCommands_28 ?_
          refine va_ldcS hx hb hown hR.2.1 dX3_readCommands_29 ?_
          refine va_calli (va_runS (As := [.int (u_9 (20+w3_9.toNatClampNeg)), .ref (adK 1)]) (rest := []) ⟨hx, hb, hml, hown, hts⟩ (c3_placeOf l hA (va_up σ 15 u_9) (u_9 (20+w3_9.toNatClampNeg)) 1 (by decide) ) (va_cwS 2 hts gX3_readCommands_X3_placeOf rfl rfl rfl hd_X3_placeOfS ⟨Nat.le_of_ble_eq_true rfl, Nat.le_of_ble_eq_true rfl⟩) ⟨hs_blind, hs_pre hK hN hG hR hS hP⟩ rfl rfl hl.1 rfl (lv_room (Nat.le_of_ble_eq_true rfl)) dX3_readCommands_31 ⟨Nat.zero_le _, Nat.zero_le _⟩) hS (fun _ _ h => h) (fun _ h => h) (fun r31 _ t H locs ht hvm hw9 hB hz1 hk1 hS => ?_)
          have hP := ho_at ht hB
          obtain ⟨eq31, hq_r31⟩ := hw9
          have hF := bnd_s eq31 hF
          refine lv_istore (lv' := [(4, .int r31), (3, .int w3_9), (2, .int w2_9), (0, .ref (ad (275))), (1, .int a)]) hx hb dX3_readCommands_34 hl (by decide) rfl (fun ls hl => ?_)
          refine lv_aload_n hx hb dX3_readCommands_36 rfl (lv_at hl 3 rfl) ?_
          refine va_get (D := D) (ci := 5) (C := RX3) (T := TX3) (N := 5) hx hb hts inX3 hown hK hP (275) c_275 rfl 2 (by decide) (hts (.fieldLink RX3 15 "TileRunners$Text" "commandKeys" "[I") (List.mem_of_getElem? (i := 3) rfl)) (fun _ h9 => h9) rfl dX3_readCommands_37 ?_
          refine lv_aload_n hx hb dX3_readCommands_40 rfl (lv_at hl 3 rfl) ?_
          refine va_get (D := D) (ci := 5) (C := RX3) (T := TX3) (N := 5) hx hb hts inX3 hown hK hP (275) c_275 rfl 4 (by decide) (hts (.fieldLink RX3 42 "TileRunners$Text" "commandCount" "I") (List.mem_of_getElem? (i := 1) rfl)) (fun _ h9 => h9) rfl dX3_readCommands_41 ?_
          refine lv_iload hx hb dX3_readCommands_44 (lv_at hl 0 rfl) ?_
          have J59 : ∀ (t0_59 : Int32) (H : Heap) (locs : List Loc) (ls : Array Slot), va_P D vwCl (pool G ad (va_up σ 15 u_9)) H → va_S (AA B0) s.heap H locs → lv_has ls 6 [(3, .int w3_9), (2, .int w2_9), (0, .ref (ad (275))), (1, .int a)] → f3_readCommands_b59 (f3_readCommands_L9 a n9) a w3_9 w2_9 u_9 t0_59 = FF → W p l e (headSpec wsX3_readCommands { frames := 5, cells := 0, slots := 0, locals := 107 }).room s m ([.ref (ad (275)), .int a] : List Value).toArray below meth c H locs 0 0 (MQ below (va_Qi (fun (r : Int32) (z : Nat → Int32) => (r, z) = f3_readCommands u a ∧ okC z) (fun (z : Nat → Int32) => Ho D G ad (va_up σ 15 z)) (AA B0)) ([.ref (ad (275)), .int a] : List Value).toArray s 0 0 (AA B0)) (F0 m 59 ls [.int t0_59, .int (u_9 5), .ref (ad (277))]) := by
            intro t0_59 H locs ls hP hS hl hF
            rw [f3_readCommands_b59] at hF
            have hin9 : vp_in (u_9 5) 20 := (in_lt20 hO9.2.2.2.1 c20)
            refine past15 (n := 20) (o := 60) (t := 60+(u_9 5).toNatClampNeg) hx hb hK hP hA hS (j := 277) (by decide) (by decide) (fun _ _ => rfl) (fun k9 hk9 => by unfold own15; repeat first | rw [if_pos (by omega)] | rw [if_neg (by omega)]) hin9 rfl dX3_readCommands_59 (fun u9 H locs eu9 hP hS => ?_)
            have hlt9 := in_lt hin9
            obtain ⟨u59, e_u59⟩ : ∃ z, z = u9 := ⟨_, rfl⟩
            rw [← e_u59] at hP eu9
            have hF := bnd_s eu9 hF
            have eq59 := eu9
            have hO := okC_up eu9 hO (by omega)
            obtain ⟨v3_60, e_v3_60⟩ : ∃ z : Int32, z = w3_9 + 1 := ⟨_, rfl⟩
            have hF := bnd_s e_v3_60 hF
            refine lv_iinc (v := v3_60) (lv' := [(3, .int v3_60), (2, .int w2_9), (0, .ref (ad (275))), (1, .int a)]) hx hb dX3_readCommands_60 hl (k := 0) rfl (by rw [e_v3_60]; rfl) (by decide) rfl (fun ls hl => ?_)
            refine lv_iconst (v := 0) hx hb dX3_readCommands_63 (by decide) ?_
            refine lv_istore (lv' := [(5, .int 0), (3, .int v3_60), (2, .int w2_9), (0, .ref (ad (275))), (1, .int a)]) hx hb dX3_readCommands_64 hl (by decide) rfl (fun ls hl => ?_)
            have L66 : ∀ (n66 : Nat) (w5_66 : Int32) (w3_66 : Int32) (H : Heap) (locs : List Loc) (ls : Array Slot), (a.toInt - w3_66.toInt).toNat < n66 → 0 ≤ w3_66 → w3_9.toInt < w3_66.toInt → va_P D vwCl (pool G ad (va_up σ 15 u59)) H → va_S (AA B0) s.heap H locs → lv_has ls 6 [(5, .int w5_66), (3, .int w3_66), (2, .int w2_9), (0, .ref (ad (275))), (1, .int a)] → f3_readCommands_L66 (f3_readCommands_L9 a n9) a w2_9 u59 n66 w5_66 w3_66 = FF → W p l e (headSpec wsX3_readCommands { frames := 5, cells := 0, slots := 0, locals := 107 }).room s m ([.ref (ad (275)), .int a] : List Value).toArray below meth c H locs 0 0 (MQ below (va_Qi (fun (r : Int32) (z : Nat → Int32) => (r, z) = f3_readCommands u a ∧ okC z) (fun (z : Nat → Int32) => Ho D G ad (va_up σ 15 z)) (AA B0)) ([.ref (ad (275)), .int a] : List Value).toArray s 0 0 (AA B0)) (F0 m 66 ls []) := by
              intro n66
              induction n66 with
              | zero => intro w5_66 w3_66 H locs ls hm; exact absurd hm (Nat.not_lt_zero _)
              | succ n66 ih66 =>
                intro w5_66 w3_66 H locs ls hm66 h3b hg hP hS hl hF
                rw [f3_readCommands_L66] at hF
                refine lv_iload_n hx hb dX3_readCommands_66 rfl (lv_at hl 1 rfl) ?_
                refine lv_iload_n hx hb dX3_readCommands_67 rfl (lv_at hl 4 rfl) ?_
                have J106 : ∀  (H : Heap) (locs : List Loc) (ls : Array Slot), va_P D vwCl (pool G ad (va_up σ 15 u59)) H → va_S (AA B0) s.heap H locs → lv_has ls 6 [(5, .int w5_66), (3, .int w3_66), (2, .int w2_9), (0, .ref (ad (275))), (1, .int a)] → f3_readCommands_b106 (f3_readCommands_L9 a n9) w2_9 u59 w5_66 w3_66  = FF → W p l e (headSpec wsX3_readCommands { frames := 5, cells := 0, slots := 0, locals := 107 }).room s m ([.ref (ad (275)), .int a] : List Value).toArray below meth c H locs 0 0 (MQ below (va_Qi (fun (r : Int32) (z : Nat → Int32) => (r, z) = f3_readCommands u a ∧ okC z) (fun (z : Nat → Int32) => Ho D G ad (va_up σ 15 z)) (AA B0)) ([.ref (ad (275)), .int a] : List Value).toArray s 0 0 (AA B0)) (F0 m 106 ls []) := by
                  intro  H locs ls hP hS hl hF
                  rw [f3_readCommands_b106] at hF
                  refine lv_aload_n hx hb dX3_readCommands_106 rfl (lv_at hl 3 rfl) ?_
                  refine va_get (D := D) (ci := 5) (C := RX3) (T := TX3) (N := 5) hx hb hts inX3 hown hK hP (275) c_275 rfl 3 (by decide) (hts (.fieldLink RX3 19 "TileRunners$Text" "commandTicks" "[I") (List.mem_of_getElem? (i := 4) rfl)) (fun _ h9 => h9) rfl dX3_readCommands_107 ?_
                  refine lv_aload_n hx hb dX3_readCommands_110 rfl (lv_at hl 3 rfl) ?_
                  refine va_get (D := D) (ci := 5) (C := RX3) (T := TX3) (N := 5) hx hb hts inX3 hown hK hP (275) c_275 rfl 4 (by decide) (hts (.fieldLink RX3 42 "TileRunners$Text" "commandCount" "I") (List.mem_of_getElem? (i := 1) rfl)) (fun _ h9 => h9) rfl dX3_readCommands_111 ?_
                  refine lv_iload hx hb dX3_readCommands_114 (lv_at hl 0 rfl) ?_
                  have hin9 : vp_in (u59 5) 20 := (by rw [eq59, va_up_ne _ _ (by omega)]; exact in_lt20 hO9.2.2.2.1 c20)
                  refine past15 (n := 20) (o := 80) (t := 80+(u59 5).toNatClampNeg) hx hb hK hP hA hS (j := 278) (by decide) (by decide) (fun _ _ => rfl) (fun k9 hk9 => by unfold own15; repeat first | rw [if_pos (by omega)] | rw [if_neg (by omega)]) hin9 rfl dX3_readCommands_116 (fun u9 H locs eu9 hP hS => ?_)
                  have hlt9 := in_lt hin9
                  obtain ⟨u116, e_u116⟩ : ∃ z, z = u9 := ⟨_, rfl⟩
                  rw [← e_u116] at hP eu9
                  have hF := bnd_s eu9 hF
                  have eq116 := eu9
                  have hO := okC_up eu9 hO (by omega)
                  refine lv_aload_n hx hb dX3_readCommands_117 rfl (lv_at hl 3 rfl) ?_
                  refine lv_dup hx hb dX3_readCommands_118 rfl ?_
                  refine va_get (D := D) (ci := 5) (C := RX3) (T := TX3) (N := 5) hx hb hts inX3 hown hK hP (275) c_275 rfl 4 (by decide) (hts (.fieldLink RX3 42 "TileRunners$Text" "commandCount" "I") (List.mem_of_getElem? (i := 1) rfl)) (fun _ h9 => h9) rfl dX3_readCommands_119 ?_
                  refine lv_iconst (v := 1) hx hb dX3_readCommands_122 (by decide) ?_
                  refine lv_iadd hx hb dX3_readCommands_123 ?_
                  refine pput15 hx hb hts inX3 tyX3 tyX3_ok nmX3 hown hK hP hA hS (j := 275) (by decide) (by decide) rfl rfl 4 (by decide) (hts (.fieldLink RX3 42 "TileRunners$Text" "commandCount" "I") (List.mem_of_getElem? (i := 1) rfl)) (fun _ h9 => h9) rfl (tyX3_ok 4 (by decide)) rfl rfl (Nat.le_of_ble_eq_true rfl) (5) (by decide) (setX_4) dX3_readCommands_124 (fun u9 H locs eu9 hP hS => ?_)
                  obtain ⟨u124, e_u124⟩ : ∃ z, z = u9 := ⟨_, rfl⟩
                  rw [← e_u124] at hP eu9
                  have hF := bnd_s eu9 hF
                  have eq124 := eu9
                  have hO := (okC_5e eu9 hO (by rw [eq116, va_up_ne _ _ (by omega), eq59, va_up_ne _ _ (by omega)]; exact pl20 hO9.2.2.2.1 c20))
                  refine lv_iload_n hx hb dX3_readCommands_127 rfl (lv_at hl 2 rfl) ?_
                  refine lv_iload hx hb dX3_readCommands_128 (lv_at hl 0 rfl) ?_
                  refine lv_iadd hx hb dX3_readCommands_130 ?_
                  refine lv_topi (fun v2_131 e_v2_131 => ?_)
                  have hF := bnd_s e_v2_131 hF
                  refine lv_istore_n (lv' := [(2, .int v2_131), (5, .int w5_66), (3, .int w3_66), (0, .ref (ad (275))), (1, .int a)]) hx hb dX3_readCommands_131 rfl hl (by decide) rfl (fun ls hl => ?_)
                  refine lv_goto (tgt := 9) hx hb dX3_readCommands_132 (by decide) ?_
                  exact ih9 w3_66 v2_131 u124 _ _ ls (ms_s (dec_lt (nle_lt c11) hg) hm9) h3b hO hP hS (lv_sub hl [2, 0, 3, 4] rfl) hF
                refine lv_icmp_ge (tgt := 106) hx hb dX3_readCommands_68 (by decide) (fun c68 => ?_) (fun c68 => ?_)
                · have hF := ift c68 hF
                  exact J106  _ _ ls hP hS (lv_sub hl [0, 1, 2, 3, 4] rfl) hF
                · have hF := iff_ c68 hF
                  refine lv_aload_n hx hb dX3_readCommands_71 rfl (lv_at hl 3 rfl) ?_
                  refine va_get (D := D) (ci := 5) (C := RX3) (T := TX3) (N := 5) hx hb hts inX3 hown hK hP (275) c_275 rfl 0 (by decide) (hts (.fieldLink RX3 9 "TileRunners$Text" "signs" "[C") (List.mem_of_getElem? (i := 2) rfl)) (fun _ h9 => h9) rfl dX3_readCommands_72 ?_
                  refine lv_iload_n hx hb dX3_readCommands_75 rfl (lv_at hl 1 rfl) ?_
                  refine pcald (n := 40) (o := 20) (t := 20+w3_66.toNatClampNeg) (i := w3_66) hx hb hK hP c_276 (in_n h3b (nle_lt c68) ha) rfl dX3_readCommands_76 ?_
                  refine va_calli (va_runS (As := [.int (u59 (20+w3_66.toNatClampNeg))]) (rest := []) ⟨hx, hb, hml, hown, hts⟩ (c3_isDigit l hA (va_up σ 15 u59) (u59 (20+w3_66.toNatClampNeg)) ) (va_cwS 1 hts gX3_readCommands_X3_isDigit rfl rfl rfl hd_X3_isDigitS ⟨Nat.le_of_ble_eq_true rfl, Nat.le_of_ble_eq_true rfl⟩) ⟨hp_blind, hp_pre hK hN hP⟩ rfl rfl hl.1 rfl (lv_room (Nat.le_of_ble_eq_true rfl)) dX3_readCommands_77 ⟨Nat.zero_le _, Nat.zero_le _⟩) hS (fun _ _ h => h) (fun _ h => h) (fun r77 _ t H locs ht hvm hw9 hB hz1 hk1 hS => ?_)
                  have hP := ho_at ht hB
                  obtain ⟨eq77, hb_r77⟩ := hw9
                  have hF := bnd_s eq77 hF
                  refine lv_if_eq (tgt := 106) hx hb dX3_readCommands_80 (by decide) (fun c80 => ?_) (fun c80 => ?_)
                  · have hF := ift c80 hF
                    exact J106  _ _ ls hP hS (lv_sub hl [0, 1, 2, 3, 4] rfl) hF
                  · have hF := iff_ c80 hF
                    refine lv_iload hx hb dX3_readCommands_83 (lv_at hl 0 rfl) ?_
                    refine lv_bipush (v := 10) hx hb dX3_readCommands_85 (by decide) ?_
                    refine lv_imul hx hb dX3_readCommands_87 ?_
                    refine lv_aload_n hx hb dX3_readCommands_88 rfl (lv_at hl 3 rfl) ?_
                    refine va_get (D := D) (ci := 5) (C := RX3) (T := TX3) (N := 5) hx hb hts inX3 hown hK hP (275) c_275 rfl 0 (by decide) (hts (.fieldLink RX3 9 "TileRunners$Text" "signs" "[C") (List.mem_of_getElem? (i := 2) rfl)) (fun _ h9 => h9) rfl dX3_readCommands_89 ?_
                    refine lv_iload_n hx hb dX3_readCommands_92 rfl (lv_at hl 1 rfl) ?_
                    refine pcald (n := 40) (o := 20) (t := 20+w3_66.toNatClampNeg) (i := w3_66) hx hb hK hP c_276 (in_n h3b (nle_lt c68) ha) rfl dX3_readCommands_93 ?_
                    refine lv_iadd hx hb dX3_readCommands_94 ?_
                    refine lv_bipush (v := 48) hx hb dX3_readCommands_95 (by decide) ?_
                    refine lv_isub hx hb dX3_readCommands_97 ?_
                    refine lv_topi (fun v5_98 e_v5_98 => ?_)
                    have hF := bnd_s e_v5_98 hF
                    refine lv_istore (lv' := [(5, .int v5_98), (3, .int w3_66), (2, .int w2_9), (0, .ref (ad (275))), (1, .int a)]) hx hb dX3_readCommands_98 hl (by decide) rfl (fun ls hl => ?_)
                    obtain ⟨v3_100, e_v3_100⟩ : ∃ z : Int32, z = w3_66 + 1 := ⟨_, rfl⟩
                    have hF := bnd_s e_v3_100 hF
                    refine lv_iinc (v := v3_100) (lv' := [(3, .int v3_100), (5, .int v5_98), (2, .int w2_9), (0, .ref (ad (275))), (1, .int a)]) hx hb dX3_readCommands_100 hl (k := 1) rfl (by rw [e_v3_100]; rfl) (by decide) rfl (fun ls hl => ?_)
                    refine lv_goto (tgt := 66) hx hb dX3_readCommands_103 (by decide) ?_
                    exact ih66 v5_98 v3_100 _ _ ls (ms_s (dec_up (nle_lt c68) e_v3_100) hm66) (inc_ge0 (nle_lt c68) h3b e_v3_100) (Int.lt_trans hg (lt_inc (nle_lt c68) e_v3_100)) hP hS (lv_sub hl [1, 0, 2, 3, 4] rfl) hF
            exact L66 BIG 0 v3_60 _ _ ls (big_up _ _) (inc_ge0 (nle_lt c11) h3 e_v3_60) (lt_inc (nle_lt c11) e_v3_60) hP hS (lv_sub hl [0, 1, 2, 3, 4] rfl) hF
          refine lv_if_ge (tgt := 53) hx hb dX3_readCommands_46 (by decide) (fun c46 => ?_) (fun c46 => ?_)
          · have hF := ift c46 hF
            obtain ⟨t53, hz53, ht53⟩ := hG.2.2.1
            refine va_getsN hx hb hz53 hS hown (hR.2.2.use rfl) (fun _ h9 => h9) dX3_readCommands_53 ?_
            refine lv_iload hx hb dX3_readCommands_56 (lv_at hl 0 rfl) ?_
            refine va_ti hx hb ht53 hS (in_k hq_r31 c46) rfl dX3_readCommands_58 ?_
            exact J59 (keyS r31.toNatClampNeg) _ _ ls hP hS (lv_sub hl [1, 2, 3, 4] rfl) hF
          · have hF := iff_ c46 hF
            refine lv_iconst (v := 0) hx hb dX3_readCommands_49 (by decide) ?_
            refine lv_goto (tgt := 59) hx hb dX3_readCommands_50 (by decide) ?_
            exact J59 0 _ _ ls hP hS (lv_sub hl [1, 2, 3, 4] rfl) hF
  exact L9 BIG 0 0 u6 _ _ ls (big_up _ _) le0 hO hP hS (lv_sub hl [0, 1, 2, 3] rfl) hF
theorem hd_X3_readCommandsV : yX3_readCommands.cls = RX3 ∧ yX3_readCommands.cls ≠ "java/lang/invoke/MethodHandle" ∧ yX3_readCommands.cls ≠ "java/lang/invoke/VarHandle" ∧ (parseMethodDescriptor yX3_readCommands.desc).map (fun d => d.parameters.length) = some 1 := by decide +kernel
