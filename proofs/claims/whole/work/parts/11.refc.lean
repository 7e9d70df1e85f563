set_option maxHeartbeats 4000000 in
set_option maxRecDepth 100000 in
theorem c7_copies (l : Launch) {D : va_G} {G : CY} {ad : Nat → Nat} {B0 : Nat} (hA : adOK B0 ad) (σ : Nat → Nat → Int32) (u : Nat → Int32) (q1 nq1 oq1 : Nat) (h1q1 : 270 ≤ q1 ∧ q1 < 290) (h2q1 : ∀ v z : Nat → Int32, ccel G ad z v q1 = icel G nq1 oq1 v) (h3q1 : ∀ k, k < nq1 → own16 (oq1 + k) = q1) (a : Int32) (q2 nq2 oq2 : Nat) (h1q2 : 270 ≤ q2 ∧ q2 < 290) (h2q2 : ∀ v z : Nat → Int32, ccel G ad z v q2 = icel G nq2 oq2 v) (h3q2 : ∀ k, k < nq2 → own16 (oq2 + k) = q2) (b : Int32) (hpa : 0 ≤ a.toInt ∧ a.toInt + 480 ≤ (nq1 : Int) ∧ nq1 < 2147483648) (hpb : 0 ≤ b.toInt ∧ b.toInt + 480 ≤ (nq2 : Int) ∧ nq2 < 2147483648) : Met l yX7_copies wsX7_copies { frames := 0, cells := 0, slots := 0, locals := 0 } (va_Pc [.ref (ad (q1)), .int a, .ref (ad (q2)), .int b] (Hp D G ad (va_up σ 16 u))) (va_Qv (fun (z : Nat → Int32) => z = f7_copies u oq1 a oq2 b) (fun (z : Nat → Int32) => Ho D G ad (va_up σ 16 z)) (AA B0)) 0 0 (AA B0) := by
  refine Met.ofW (cc := cX7_copies) (maxL := 5) (ret := none) (by decide) rfl ?_
  intro p e s m args below meth c s₁ B hml hv
  obtain ⟨rfl, hP, hK, hN⟩ := hv
  have hx := B.exec
  have hb := B.bytes
  have hr := B.returns
  have hts := atoms_spec (ws := wsX7_copies) B.pre
  have hown : s.vm.findClass RX7 = some m.cls := findClass_of_methodNamed B.named
  have hlocks := B.notSynchronized
  have hP : va_P D vwCl (pool G ad (va_up σ 16 u)) s.heap := hP
  have hS : va_S (AA B0) s.heap s.heap [] := va_S.rf
  have hl := lv_entry ([.ref (ad (q1)), .int a, .ref (ad (q2)), .int b]) (n := 5) (Nat.le_of_ble_eq_true rfl)
  rw [lg_entry_eq]
  generalize (lg_sl ([.ref (ad (q1)), .int a, .ref (ad (q2)), .int b]) ++ List.replicate (5 - (lg_sl ([.ref (ad (q1)), .int a, .ref (ad (q2)), .int b])).length) Slot.unset).toArray = ls at hl ⊢
  have hl : lv_has ls 5 [(0, .ref (ad (q1))), (1, .int a), (2, .ref (ad (q2))), (3, .int b)] := hl
  obtain ⟨FF, hFF⟩ : ∃ z, z = f7_copies u oq1 a oq2 b := ⟨_, rfl⟩
  have hF := hFF.symm
  rw [f7_copies] at hF
  refine lv_iconst (v := 0) hx hb dX7_copies_0 (by decide) ?_
  refine lv_istore (lv' := [(4, .int 0), (0, .ref (ad (q1))), (1, .int a), (2, .ref (ad (q2))), (3, .int b)]) hx hb dX7_copies_1 hl (by decide) rfl (fun ls hl => ?_)
  have L3 : ∀ (n3 : Nat) (w4_3 : Int32) (u_3 : (Nat → Int32)) (H : Heap) (locs : List Loc) (ls : Array Slot), ((480 : Int32).toInt - w4_3.toInt).toNat < n3 → 0 ≤ w4_3 → va_P D vwCl (pool G ad (va_up σ 16 u_3)) H → va_S (AA B0) s.heap H locs → lv_has ls 5 [(4, .int w4_3), (0, .ref (ad (q1))), (1, .int a), (2, .ref (ad (q2))), (3, .int b)] → f7_copies_L3 oq1 a oq2 b n3 w4_3 u_3 = FF → W p l e (headSpec wsX7_copies { frames := 0, cells := 0, slots := 0, locals := 0 }).room s m ([.ref (ad (q1)), .int a, .ref (ad (q2)), .int b] : List Value).toArray below meth c H locs 0 0 (MQ below (va_Qv (fun (z : Nat → Int32) => z = f7_copies u oq1 a oq2 b) (fun (z : Nat → Int32) => Ho D G ad (va_up σ 16 z)) (AA B0)) ([.ref (ad (q1)), .int a, .ref (ad (q2)), .int b] : List Value).toArray s 0 0 (AA B0)) (F0 m 3 ls []) := by
    intro n3
    induction n3 with
    | zero => intro w4_3 u_3 H locs ls hm; exact absurd hm (Nat.not_lt_zero _)
    | succ n3 ih3 =>
      intro w4_3 u_3 H locs ls hm3 h4 hP hS hl hF
      rw [f7_copies_L3] at hF
      refine lv_iload hx hb dX7_copies_3 (lv_at hl 0 rfl) ?_
      refine lv_sipush (v := 480) hx hb dX7_copies_5 (by decide) ?_
      refine lv_icmp_ge (tgt := 29) hx hb dX7_copies_8 (by decide) (fun c8 => ?_) (fun c8 => ?_)
      · have hF := ift c8 hF
        exact W.vret hx hb hr (fun t ht hW => ⟨⟨u_3, rfl, hF.trans hFF, ho_of ht hP⟩, hS.F ht⟩) hS.2.2 dX7_copies_29
      · have hF := iff_ c8 hF
        have hv4 : vp_in w4_3 480 := in_n h4 (nle_lt c8) (by decide)
        refine lv_aload_n hx hb dX7_copies_11 rfl (lv_at hl 3 rfl) ?_
        refine lv_iload_n hx hb dX7_copies_12 rfl (lv_at hl 4 rfl) ?_
        refine lv_iload hx hb dX7_copies_13 (lv_at hl 0 rfl) ?_
        refine lv_iadd hx hb dX7_copies_15 ?_
        refine lv_aload_n hx hb dX7_copies_16 rfl (lv_at hl 1 rfl) ?_
        refine lv_iload_n hx hb dX7_copies_17 rfl (lv_at hl 2 rfl) ?_
        refine lv_iload hx hb dX7_copies_18 (lv_at hl 0 rfl) ?_
        refine lv_iadd hx hb dX7_copies_20 ?_
        refine pald (n := nq1) (o := oq1) (t := oq1+(a + w4_3).toNatClampNeg) (i := (a + w4_3)) hx hb hK hP (pool_atE h1q1.2 ((cel_c h1q1.1).trans (by rw [va_up_self]; exact h2q1 _ _))) (in_add hpa.1 hpa.2.1 hpa.2.2 hv4) rfl dX7_copies_21 ?_
        have hin9 : vp_in (b + w4_3) nq2 := (in_add hpb.1 hpb.2.1 hpb.2.2 hv4)
        refine past16 (n := nq2) (o := oq2) (t := oq2+(b + w4_3).toNatClampNeg) hx hb hK hP hA hS (j := q2) h1q2.1 h1q2.2 h2q2 h3q2 hin9 rfl dX7_copies_22 (fun u9 H locs eu9 hP hS => ?_)
        have hlt9 := in_lt hin9
        obtain ⟨u22, e_u22⟩ : ∃ z, z = u9 := ⟨_, rfl⟩
        rw [← e_u22] at hP eu9
        have hF := bnd_s eu9 hF
        obtain ⟨v4_23, e_v4_23⟩ : ∃ z : Int32, z = w4_3 + 1 := ⟨_, rfl⟩
        have hF := bnd_s e_v4_23 hF
        refine lv_iinc (v := v4_23) (lv' := [(4, .int v4_23), (0, .ref (ad (q1))), (1, .int a), (2, .ref (ad (q2))), (3, .int b)]) hx hb dX7_copies_23 hl (k := 0) rfl (by rw [e_v4_23]; rfl) (by decide) rfl (fun ls hl => ?_)
        refine lv_goto (tgt := 3) hx hb dX7_copies_26 (by decide) ?_
        exact ih3 v4_23 u22 _ _ ls (ms_s (dec_up (nle_lt c8) e_v4_23) hm3) (ge0_in hv4 (by decide) e_v4_23) hP hS (lv_sub hl [0, 1, 2, 3, 4] rfl) hF
  exact L3 BIG 0 u _ _ ls (big_up _ _) le0 hP hS (lv_sub hl [0, 1, 2, 3, 4] rfl) hF
theorem hd_X7_copiesS : yX7_copies.cls ≠ "java/lang/invoke/MethodHandle" ∧ yX7_copies.cls ≠ "java/lang/invoke/VarHandle" ∧ (parseMethodDescriptor yX7_copies.desc).map (fun d => d.parameters.length) = some 4 := by decide +kernel
set_option maxHeartbeats 4000000 in
set_option maxRecDepth 100000 in
theorem c7_ticks (l : Launch) {D : va_G} {G : CY} {ad : Nat → Nat} {B0 : Nat} (hA : adOK B0 ad) (σ : Nat → Nat → Int32) (u : Nat → Int32) (a : Int32) (hO : okM u) : Met l yX7_ticks wsX7_ticks { frames := 13, cells := 0, slots := 0, locals := 300 } (va_Pc [.ref (ad (279)), .int a] (Hp D G ad (va_up σ 16 u))) (va_Qv (fun (z : Nat → Int32) => z = f7_ticks u a ∧ okM z) (fun (z : Nat → Int32) => Ho D G ad (va_up σ 16 z)) (AA B0)) 0 0 (AA B0) := by
  refine Met.ofW (cc := cX7_ticks) (maxL := 4) (ret := none) (by decide) rfl ?_
  intro p e s m args below meth c s₁ B hml hv
  obtain ⟨rfl, hP, hK, hN⟩ := hv
  have hx := B.exec
  have hb := B.bytes
  have hr := B.returns
  have hts := atoms_spec (ws := wsX7_ticks) B.pre
  have hown : s.vm.findClass RX7 = some m.cls := findClass_of_methodNamed B.named
  have hlocks := B.notSynchronized
  have inX7 : ∀ w ∈ wsX70, w ∈ wsX7_ticks := (fun w h => List.mem_cons_of_mem _ (List.mem_append_left _ (List.mem_append_right _ h)))
  have hP : va_P D vwCl (pool G ad (va_up σ 16 u)) s.heap := hP
  have hS : va_S (AA B0) s.heap s.heap [] := va_S.rf
  have hl := lv_entry ([.ref (ad (279)), .int a]) (n := 4) (Nat.le_of_ble_eq_true rfl)
  rw [lg_entry_eq]
  generalize (lg_sl ([.ref (ad (279)), .int a]) ++ List.replicate (4 - (lg_sl ([.ref (ad (279)), .int a])).length) Slot.unset).toArray = ls at hl ⊢
  have hl : lv_has ls 4 [(0, .ref (ad (279))), (1, .int a)] := hl
  obtain ⟨FF, hFF⟩ : ∃ z, z = f7_ticks u a := ⟨_, rfl⟩
  have hF := hFF.symm
  rw [f7_ticks] at hF
  refine lv_iconst (v := 0) hx hb dX7_ticks_0 (by decide) ?_
  refine lv_istore_n (lv' := [(2, .int 0), (0, .ref (ad (279))), (1, .int a)]) hx hb dX7_ticks_1 rfl hl (by decide) rfl (fun ls hl => ?_)
  have L2 : ∀ (n2 : Nat) (w2_2 : Int32) (u_2 : (Nat → Int32)) (H : Heap) (locs : List Loc) (ls : Array Slot), (a.toInt - w2_2.toInt).toNat < n2 → okM u_2 → va_P D vwCl (pool G ad (va_up σ 16 u_2)) H → va_S (AA B0) s.heap H locs → lv_has ls 4 [(2, .int w2_2), (0, .ref (ad (279))), (1, .int a)] → f7_ticks_L2 a n2 w2_2 u_2 = FF → W p l e (headSpec wsX7_ticks { frames := 13, cells := 0, slots := 0, locals := 300 }).room s m ([.ref (ad (279)), .int a] : List Value).toArray below meth c H locs 0 0 (MQ below (va_Qv (fun (z : Nat → Int32) => z = f7_ticks u a ∧ okM z) (fun (z : Nat → Int32) => Ho D G ad (va_up σ 16 z)) (AA B0)) ([.ref (ad (279)), .int a] : List Value).toArray s 0 0 (AA B0)) (F0 m 2 ls []) := by
    intro n2
    induction n2 with
    | zero => intro w2_2 u_2 H locs ls hm; exact absurd hm (Nat.not_lt_zero _)
    | succ n2 ih2 =>
      intro w2_2 u_2 H locs ls hm2 hO hP hS hl hF
      rw [f7_ticks_L2] at hF
      refine lv_iload_n hx hb dX7_ticks_2 rfl (lv_at hl 0 rfl) ?_
      refine lv_iload_n hx hb dX7_ticks_3 rfl (lv_at hl 2 rfl) ?_
      refine lv_icmp_ge (tgt := 97) hx hb dX7_ticks_4 (by decide) (fun c4 => ?_) (fun c4 => ?_)
      · have hF := ift c4 hF
        exact W.vret hx hb hr (fun t ht hW => ⟨⟨u_2, rfl, ⟨hF.trans hFF, hO⟩, ho_of ht hP⟩, hS.F ht⟩) hS.2.2 dX7_ticks_97
      · have hF := iff_ c4 hF
        refine lv_aload_n hx hb dX7_ticks_7 rfl (lv_at hl 1 rfl) ?_
        refine va_get (D := D) (ci := 9) (C := RX7) (T := TX7) (N := 17) hx hb hts inX7 hown hK hP (279) c_279 rfl 8 (by decide) (hts (.fieldLink RX7 208 "TileRunnersModel" "kept" "I") (List.mem_of_getElem? (i := 1) rfl)) (fun _ h9 => h9) rfl dX7_ticks_8 ?_
        refine lv_bipush (v := 12) hx hb dX7_ticks_11 (by decide) ?_
        have J57 : ∀ (u_57 : (Nat → Int32)) (H : Heap) (locs : List Loc) (ls : Array Slot), (u_57 491).toInt ≤ 11 → okM u_57 → va_P D vwCl (pool G ad (va_up σ 16 u_57)) H → va_S (AA B0) s.heap H locs → lv_has ls 4 [(2, .int w2_2), (0, .ref (ad (279))), (1, .int a)] → f7_ticks_b57 (f7_ticks_L2 a n2) w2_2 u_57 = FF → W p l e (headSpec wsX7_ticks { frames := 13, cells := 0, slots := 0, locals := 300 }).room s m ([.ref (ad (279)), .int a] : List Value).toArray below meth c H locs 0 0 (MQ below (va_Qv (fun (z : Nat → Int32) => z = f7_ticks u a ∧ okM z) (fun (z : Nat → Int32) => Ho D G ad (va_up σ 16 z)) (AA B0)) ([.ref (ad (279)), .int a] : List Value).toArray s 0 0 (AA B0)) (F0 m 57 ls []) := by
          intro u_57 H locs ls hk57 hO hP hS hl hF
          rw [f7_ticks_b57] at hF
          have h57a := hO.2.1.1
          refine lv_aload_n hx hb dX7_ticks_57 rfl (lv_at hl 1 rfl) ?_
          refine va_get (D := D) (ci := 9) (C := RX7) (T := TX7) (N := 17) hx hb hts inX7 hown hK hP (279) c_279 rfl 1 (by decide) (hts (.fieldLink RX7 7 "TileRunnersModel" "world" "[I") (List.mem_of_getElem? (i := 3) rfl)) (fun _ h9 => h9) rfl dX7_ticks_58 ?_
          refine lv_iconst (v := 0) hx hb dX7_ticks_61 (by decide) ?_
          refine lv_aload_n hx hb dX7_ticks_62 rfl (lv_at hl 1 rfl) ?_
          refine va_get (D := D) (ci := 9) (C := RX7) (T := TX7) (N := 17) hx hb hts inX7 hown hK hP (279) c_279 rfl 4 (by decide) (hts (.fieldLink RX7 19 "TileRunnersModel" "earlier" "[I") (List.mem_of_getElem? (i := 2) rfl)) (fun _ h9 => h9) rfl dX7_ticks_63 ?_
          refine lv_sipush (v := 480) hx hb dX7_ticks_66 (by decide) ?_
          refine lv_aload_n hx hb dX7_ticks_69 rfl (lv_at hl 1 rfl) ?_
          refine va_get (D := D) (ci := 9) (C := RX7) (T := TX7) (N := 17) hx hb hts inX7 hown hK hP (279) c_279 rfl 8 (by decide) (hts (.fieldLink RX7 208 "TileRunnersModel" "kept" "I") (List.mem_of_getElem? (i := 1) rfl)) (fun _ h9 => h9) rfl dX7_ticks_70 ?_
          refine lv_imul hx hb dX7_ticks_73 ?_
          refine va_callv (va_runS (As := [.ref (ad (280)), .int 0, .ref (ad (283)), .int (480 * (u_57 491))]) (rest := []) ⟨hx, hb, hml, hown, hts⟩ (c7_copies l hA σ u_57 280 480 0 (by decide) (fun _ _ => rfl) (fun k9 hk9 => by unfold own16; repeat first | rw [if_pos (by omega)] | rw [if_neg (by omega)]) 0 283 5760 2000 (by decide) (fun _ _ => rfl) (fun k9 hk9 => by unfold own16; repeat first | rw [if_pos (by omega)] | rw [if_neg (by omega)]) (480 * (u_57 491)) c480 (k480 hO.2.1.1 hk57)) (va_cwS 4 hts gX7_ticks_X7_copies rfl rfl rfl hd_X7_copiesS ⟨Nat.le_of_ble_eq_true rfl, Nat.le_of_ble_eq_true rfl⟩) ⟨hp_blind, hp_pre hK hN hP⟩ rfl rfl hl.1 rfl (lv_room (Nat.le_of_ble_eq_true rfl)) dX7_ticks_74 ⟨Nat.zero_le _, Nat.zero_le _⟩) hS (fun _ _ h => h) (fun _ h => h) (fun u9 t H locs ht hvm hw9 hB hz1 hk1 hS => ?_)
          have hP := ho_at ht hB
          have eq74 := hw9
          obtain ⟨u74, e_u74⟩ : ∃ z, z = u9 := ⟨_, rfl⟩
          rw [← e_u74] at hP eq74
          have hO := ok_we h57a hk57 eq74 hO
          have hF := bnd_s eq74 hF
          refine lv_aload_n hx hb dX7_ticks_77 rfl (lv_at hl 1 rfl) ?_
          refine lv_dup hx hb dX7_ticks_78 rfl ?_
          refine va_get (D := D) (ci := 9) (C := RX7) (T := TX7) (N := 17) hx hb hts inX7 hown hK hP (279) c_279 rfl 8 (by decide) (hts (.fieldLink RX7 208 "TileRunnersModel" "kept" "I") (List.mem_of_getElem? (i := 1) rfl)) (fun _ h9 => h9) rfl dX7_ticks_79 ?_
          refine lv_iconst (v := 1) hx hb dX7_ticks_82 (by decide) ?_
          refine lv_iadd hx hb dX7_ticks_83 ?_
          refine pput16 hx hb hts inX7 tyX7 tyX7_ok nmX7 hown hK hP hA hS (j := 279) (by decide) (by decide) rfl rfl 8 (by decide) (hts (.fieldLink RX7 208 "TileRunnersModel" "kept" "I") (List.mem_of_getElem? (i := 1) rfl)) (fun _ h9 => h9) rfl (tyX7_ok 8 (by decide)) rfl rfl (Nat.le_of_ble_eq_true rfl) (491) (by decide) (setM_8) dX7_ticks_84 (fun u9 H locs eu9 hP hS => ?_)
          obtain ⟨u84, e_u84⟩ : ∃ z, z = u9 := ⟨_, rfl⟩
          rw [← e_u84] at hP eu9
          have hF := bnd_s eu9 hF
          have eq84 := eu9
          have hO := okM_491 eu9 hO (by rw [eq74, cp_we h57a hk57, pk_cpy_out (by omega)]; exact kept_inc h57a hk57)
          refine lv_aload_n hx hb dX7_ticks_87 rfl (lv_at hl 1 rfl) ?_
          refine va_callv (va_runV (As := []) (rest := []) ⟨hx, hb, hml, hown, hts⟩ (c7_goesTick l hA σ u84  hO) (cwV 0 hts gX7_ticks_X7_goesTick rfl rfl rfl hd_X7_goesTickV ⟨Nat.le_of_ble_eq_true rfl, Nat.le_of_ble_eq_true rfl⟩) ⟨hp_blind, va_recv hK hP (ci := 9) (q0 := 279) rfl c_279, hp_pre hK hN hP⟩ rfl rfl hl.1 rfl (lv_room (Nat.le_of_ble_eq_true rfl)) dX7_ticks_88 ⟨Nat.zero_le _, Nat.zero_le _⟩) hS (fun _ _ h => h) (fun _ h => h) (fun u9 t H locs ht hvm hw9 hB hz1 hk1 hS => ?_)
          have hP := ho_at ht hB
          obtain ⟨eq88, ok9⟩ := hw9
          obtain ⟨u88, e_u88⟩ : ∃ z, z = u9 := ⟨_, rfl⟩
          rw [← e_u88] at hP eq88 ok9
          have hO := ok9
          have hF := bnd_s eq88 hF
          obtain ⟨v2_91, e_v2_91⟩ : ∃ z : Int32, z = w2_2 + 1 := ⟨_, rfl⟩
          have hF := bnd_s e_v2_91 hF
          refine lv_iinc (v := v2_91) (lv' := [(2, .int v2_91), (0, .ref (ad (279))), (1, .int a)]) hx hb dX7_ticks_91 hl (k := 0) rfl (by rw [e_v2_91]; rfl) (by decide) rfl (fun ls hl => ?_)
          refine lv_goto (tgt := 2) hx hb dX7_ticks_94 (by decide) ?_
          exact ih2 v2_91 u88 _ _ ls (ms_s (dec_up (nle_lt c4) e_v2_91) hm2) hO hP hS (lv_sub hl [0, 1, 2] rfl) hF
        refine lv_icmp_ne (tgt := 57) hx hb dX7_ticks_13 (by decide) (fun c13 => ?_) (fun c13 => ?_)
        · have hF := iff_ c13 hF
          exact J57 u_2 _ _ ls (kept_11 hO c13) hO hP hS (lv_sub hl [0, 1, 2] rfl) hF
        · have hF := ift c13 hF
          refine lv_iconst (v := 0) hx hb dX7_ticks_16 (by decide) ?_
          refine lv_istore_n (lv' := [(3, .int 0), (2, .int w2_2), (0, .ref (ad (279))), (1, .int a)]) hx hb dX7_ticks_17 rfl hl (by decide) rfl (fun ls hl => ?_)
          have L18 : ∀ (n18 : Nat) (w3_18 : Int32) (u_18 : (Nat → Int32)) (H : Heap) (locs : List Loc) (ls : Array Slot), ((5280 : Int32).toInt - w3_18.toInt).toNat < n18 → 0 ≤ w3_18 → u_18 491 = 12 → okM u_18 → va_P D vwCl (pool G ad (va_up σ 16 u_18)) H → va_S (AA B0) s.heap H locs → lv_has ls 4 [(3, .int w3_18), (2, .int w2_2), (0, .ref (ad (279))), (1, .int a)] → f7_ticks_L18 (f7_ticks_L2 a n2) w2_2 n18 w3_18 u_18 = FF → W p l e (headSpec wsX7_ticks { frames := 13, cells := 0, slots := 0, locals := 300 }).room s m ([.ref (ad (279)), .int a] : List Value).toArray below meth c H locs 0 0 (MQ below (va_Qv (fun (z : Nat → Int32) => z = f7_ticks u a ∧ okM z) (fun (z : Nat → Int32) => Ho D G ad (va_up σ 16 z)) (AA B0)) ([.ref (ad (279)), .int a] : List Value).toArray s 0 0 (AA B0)) (F0 m 18 ls []) := by
            intro n18
            induction n18 with
            | zero => intro w3_18 u_18 H locs ls hm; exact absurd hm (Nat.not_lt_zero _)
            | succ n18 ih18 =>
              intro w3_18 u_18 H locs ls hm18 h3 hk hO hP hS hl hF
              rw [f7_ticks_L18] at hF
              refine lv_iload_n hx hb dX7_ticks_18 rfl (lv_at hl 0 rfl) ?_
              refine lv_sipush (v := 5280) hx hb dX7_ticks_19 (by decide) ?_
              refine lv_icmp_ge (tgt := 47) hx hb dX7_ticks_22 (by decide) (fun c22 => ?_) (fun c22 => ?_)
              · have hF := ift c22 hF
                refine lv_aload_n hx hb dX7_ticks_47 rfl (lv_at hl 2 rfl) ?_
                refine lv_dup hx hb dX7_ticks_48 rfl ?_
                refine va_get (D := D) (ci := 9) (C := RX7) (T := TX7) (N := 17) hx hb hts inX7 hown hK hP (279) c_279 rfl 8 (by decide) (hts (.fieldLink RX7 208 "TileRunnersModel" "kept" "I") (List.mem_of_getElem? (i := 1) rfl)) (fun _ h9 => h9) rfl dX7_ticks_49 ?_
                refine lv_iconst (v := 1) hx hb dX7_ticks_52 (by decide) ?_
                refine lv_isub hx hb dX7_ticks_53 ?_
                refine pput16 hx hb hts inX7 tyX7 tyX7_ok nmX7 hown hK hP hA hS (j := 279) (by decide) (by decide) rfl rfl 8 (by decide) (hts (.fieldLink RX7 208 "TileRunnersModel" "kept" "I") (List.mem_of_getElem? (i := 1) rfl)) (fun _ h9 => h9) rfl (tyX7_ok 8 (by decide)) rfl rfl (Nat.le_of_ble_eq_true rfl) (491) (by decide) (setM_8) dX7_ticks_54 (fun u9 H locs eu9 hP hS => ?_)
                obtain ⟨u54, e_u54⟩ : ∃ z, z = u9 := ⟨_, rfl⟩
                rw [← e_u54] at hP eu9
                have hF := bnd_s eu9 hF
                have eq54 := eu9
                have hO := okM_491 eu9 hO (by rw [hk]; decide)
                exact J57 u54 _ _ ls (by rw [eq54, va_up_self, hk]; decide) hO hP hS (lv_sub hl [1, 2, 3] rfl) hF
              · have hF := iff_ c22 hF
                have hv3 : vp_in w3_18 5280 := in_n h3 (nle_lt c22) (by decide)
                refine lv_aload_n hx hb dX7_ticks_25 rfl (lv_at hl 2 rfl) ?_
                refine va_get (D := D) (ci := 9) (C := RX7) (T := TX7) (N := 17) hx hb hts inX7 hown hK hP (279) c_279 rfl 4 (by decide) (hts (.fieldLink RX7 19 "TileRunnersModel" "earlier" "[I") (List.mem_of_getElem? (i := 2) rfl)) (fun _ h9 => h9) rfl dX7_ticks_26 ?_
                refine lv_iload_n hx hb dX7_ticks_29 rfl (lv_at hl 0 rfl) ?_
                refine lv_aload_n hx hb dX7_ticks_30 rfl (lv_at hl 2 rfl) ?_
                refine va_get (D := D) (ci := 9) (C := RX7) (T := TX7) (N := 17) hx hb hts inX7 hown hK hP (279) c_279 rfl 4 (by decide) (hts (.fieldLink RX7 19 "TileRunnersModel" "earlier" "[I") (List.mem_of_getElem? (i := 2) rfl)) (fun _ h9 => h9) rfl dX7_ticks_31 ?_
                refine lv_iload_n hx hb dX7_ticks_34 rfl (lv_at hl 0 rfl) ?_
                refine lv_sipush (v := 480) hx hb dX7_ticks_35 (by decide) ?_
                refine lv_iadd hx hb dX7_ticks_38 ?_
                refine pald (n := 5760) (o := 2000) (t := 2000+(w3_18 + 480).toNatClampNeg) (i := (w3_18 + 480)) hx hb hK hP c_283 (in_480 hv3) rfl dX7_ticks_39 ?_
                have hin9 : vp_in w3_18 5760 := (in_mono hv3 (by decide))
                refine past16 (n := 5760) (o := 2000) (t := 2000+w3_18.toNatClampNeg) hx hb hK hP hA hS (j := 283) (by decide) (by decide) (fun _ _ => rfl) (fun k9 hk9 => by unfold own16; repeat first | rw [if_pos (by omega)] | rw [if_neg (by omega)]) hin9 rfl dX7_ticks_40 (fun u9 H locs eu9 hP hS => ?_)
                have hlt9 := in_lt hin9
                obtain ⟨u40, e_u40⟩ : ∃ z, z = u9 := ⟨_, rfl⟩
                rw [← e_u40] at hP eu9
                have hF := bnd_s eu9 hF
                have eq40 := eu9
                have hO := okM_shift (u1 := u40) hO (in_lt hv3) (by rw [eu9, in_480c hv3])
                obtain ⟨v3_41, e_v3_41⟩ : ∃ z : Int32, z = w3_18 + 1 := ⟨_, rfl⟩
                have hF := bnd_s e_v3_41 hF
                refine lv_iinc (v := v3_41) (lv' := [(3, .int v3_41), (2, .int w2_2), (0, .ref (ad (279))), (1, .int a)]) hx hb dX7_ticks_41 hl (k := 0) rfl (by rw [e_v3_41]; rfl) (by decide) rfl (fun ls hl => ?_)
                refine lv_goto (tgt := 18) hx hb dX7_ticks_44 (by decide) ?_
                exact ih18 v3_41 u40 _ _ ls (ms_s (dec_up (nle_lt c22) e_v3_41) hm18) (ge0_in hv3 (by decide) e_v3_41) (by rw [eq40, va_up_ne _ _ (by omega)]; exact hk) hO hP hS (lv_sub hl [0, 1, 2, 3] rfl) hF
          exact L18 BIG 0 u_2 _ _ ls (big_up _ _) le0 c13 hO hP hS (lv_sub hl [0, 1, 2, 3] rfl) hF
  exact L2 BIG 0 u _ _ ls (big_up _ _) hO hP hS (lv_sub hl [0, 1, 2] rfl) hF
theorem hd_X7_ticksV : yX7_ticks.cls = RX7 ∧ yX7_ticks.cls ≠ "java/lang/invoke/MethodHandle" ∧ yX7_ticks.cls ≠ "java/lang/invoke/VarHandle" ∧ (parseMethodDescriptor yX7_ticks.desc).map (fun d => d.parameters.length) = some 1 := by decide +kernel
set_option maxHeartbeats 4000000 in
set_option maxRecDepth 100000 in
theorem c7_tick (l : Launch) {D : va_G} {G : CY} {ad : Nat → Nat} {B0 : Nat} (hA : adOK B0 ad) (σ : Nat → Nat → Int32) (u : Nat → Int32) (a : Int32) (hO : okM u) : Met l yX7_tick wsX7_tick { frames := 14, cells := 0, slots := 0, locals := 323 } (va_Pc [.ref (ad (279)), .int a] (Hp D G ad (va_up σ 16 u))) (va_Qi (fun (r : Int32) (z : Nat → Int32) => (r, z) = f7_tick u a ∧ okM z) (fun (z : Nat → Int32) => Ho D G ad (va_up σ 16 z)) (AA B0)) 0 0 (AA B0) := by
  refine Met.ofW (cc := cX7_tick) (maxL := 2) (ret := (some .int)) (by decide) rfl ?_
  intro p e s m args below meth c s₁ B hml hv
  obtain ⟨rfl, hP, hK, hN⟩ := hv
  have hx := B.exec
  have hb := B.bytes
  have hr := B.returns
  have hts := atoms_spec (ws := wsX7_tick) B.pre
  have hown : s.vm.findClass RX7 = some m.cls := findClass_of_methodNamed B.named
  have hlocks := B.notSynchronized
  have inX7 : ∀ w ∈ wsX70, w ∈ wsX7_tick := (fun w h => List.mem_cons_of_mem _ (List.mem_append_left _ (List.mem_append_right _ h)))
  have hP : va_P D vwCl (pool G ad (va_up σ 16 u)) s.heap := hP
  have hS : va_S (AA B0) s.heap s.heap [] := va_S.rf
  have hl := lv_entry ([.ref (ad (279)), .int a]) (n := 2) (Nat.le_of_ble_eq_true rfl)
  rw [lg_entry_eq]
  generalize (lg_sl ([.ref (ad (279)), .int a]) ++ List.replicate (2 - (lg_sl ([.ref (ad (279)), .int a])).length) Slot.unset).toArray = ls at hl ⊢
  have hl : lv_has ls 2 [(0, .ref (ad (279))), (1, .int a)] := hl
  obtain ⟨FF, hFF⟩ : ∃ z, z = f7_tick u a := ⟨_, rfl⟩
  have hF := hFF.symm
  rw [f7_tick] at hF
  refine lv_iload_n hx hb dX7_tick_0 rfl (lv_at hl 1 rfl) ?_
  refine lv_iconst (v := 1) hx hb dX7_tick_1 (by decide) ?_
  refine lv_bipush (v := 100) hx hb dX7_tick_2 (by decide) ?_
  refine va_calli (va_runS (As := [.int a, .int 1, .int 100]) (rest := []) ⟨hx, hb, hml, hown, hts⟩ (c7_isBetween l hA (va_up σ 16 u) a 1 100 ) (va_cwS 3 hts gX7_tick_X7_isBetween rfl rfl rfl hd_X7_isBetweenS ⟨Nat.le_of_ble_eq_true rfl, Nat.le_of_ble_eq_true rfl⟩) ⟨hp_blind, hp_pre hK hN hP⟩ rfl rfl hl.1 rfl (lv_room (Nat.le_of_ble_eq_true rfl)) dX7_tick_4 ⟨Nat.zero_le _, Nat.zero_le _⟩) hS (fun _ _ h => h) (fun _ h => h) (fun r4 _ t H locs ht hvm hw9 hB hz1 hk1 hS => ?_)
  have hP := ho_at ht hB
  obtain ⟨eq4, hb_r4⟩ := hw9
  have hF := bnd_s eq4 hF
  refine lv_if_ne (tgt := 16) hx hb dX7_tick_7 (by decide) (fun c7 => ?_) (fun c7 => ?_)
  · have hF := iff_ c7 hF
    refine lv_aload_n hx hb dX7_tick_16 rfl (lv_at hl 0 rfl) ?_
    refine lv_iconst (v := 0) hx hb dX7_tick_17 (by decide) ?_
    refine pput16 hx hb hts inX7 tyX7 tyX7_ok nmX7 hown hK hP hA hS (j := 279) (by decide) (by decide) rfl rfl 0 (by decide) (hts (.fieldLink RX7 45 "TileRunnersModel" "thrown" "I") (List.mem_of_getElem? (i := 1) rfl)) (fun _ h9 => h9) rfl (tyX7_ok 0 (by decide)) rfl rfl (Nat.le_of_ble_eq_true rfl) (490) (by decide) (setM_0) dX7_tick_18 (fun u9 H locs eu9 hP hS => ?_)
    obtain ⟨u18, e_u18⟩ : ∃ z, z = u9 := ⟨_, rfl⟩
    rw [← e_u18] at hP eu9
    have hF := bnd_s eu9 hF
    have hO := okM_up eu9 hO (by omega) (by omega) (by omega)
    refine lv_aload_n hx hb dX7_tick_21 rfl (lv_at hl 0 rfl) ?_
    refine lv_iload_n hx hb dX7_tick_22 rfl (lv_at hl 1 rfl) ?_
    refine va_callv (va_runV (As := [.int a]) (rest := []) ⟨hx, hb, hml, hown, hts⟩ (c7_ticks l hA σ u18 a hO) (cwV 1 hts gX7_tick_X7_ticks rfl rfl rfl hd_X7_ticksV ⟨Nat.le_of_ble_eq_true rfl, Nat.le_of_ble_eq_true rfl⟩) ⟨hp_blind, va_recv hK hP (ci := 9) (q0 := 279) rfl c_279, hp_pre hK hN hP⟩ rfl rfl hl.1 rfl (lv_room (Nat.le_of_ble_eq_true rfl)) dX7_tick_23 ⟨Nat.zero_le _, Nat.zero_le _⟩) hS (fun _ _ h => h) (fun _ h => h) (fun u9 t H locs ht hvm hw9 hB hz1 hk1 hS => ?_)
    have hP := ho_at ht hB
    obtain ⟨eq23, ok9⟩ := hw9
    obtain ⟨u23, e_u23⟩ : ∃ z, z = u9 := ⟨_, rfl⟩
    rw [← e_u23] at hP eq23 ok9
    have hO := ok9
    have hF := bnd_s eq23 hF
    refine lv_aload_n hx hb dX7_tick_26 rfl (lv_at hl 0 rfl) ?_
    refine va_get (D := D) (ci := 9) (C := RX7) (T := TX7) (N := 17) hx hb hts inX7 hown hK hP (279) c_279 rfl 1 (by decide) (hts (.fieldLink RX7 7 "TileRunnersModel" "world" "[I") (List.mem_of_getElem? (i := 2) rfl)) (fun _ h9 => h9) rfl dX7_tick_27 ?_
    refine lv_sipush (v := 466) hx hb dX7_tick_30 (by decide) ?_
    refine pald (n := 480) (o := 0) (t := 466) (i := 466) hx hb hK hP c_280 (vp_in_iff.mpr (by decide)) rfl dX7_tick_33 ?_
    exact W.iret (v := (u23 466)) hx hb hr (fun t ht hW => ⟨⟨(u23 466), u23, rfl, ⟨hF.trans hFF, hO⟩, ho_of ht hP⟩, hS.F ht⟩) hS.2.2 dX7_tick_34
  · have hF := ift c7 hF
    refine lv_aload_n hx hb dX7_tick_10 rfl (lv_at hl 0 rfl) ?_
    refine lv_iconst (v := 1) hx hb dX7_tick_11 (by decide) ?_
    refine va_calli (va_runV (As := [.int 1]) (rest := []) ⟨hx, hb, hml, hown, hts⟩ (c7_fails l hA σ u 1 hO) (cwV 1 hts gX7_tick_X7_fails rfl rfl rfl hd_X7_failsV ⟨Nat.le_of_ble_eq_true rfl, Nat.le_of_ble_eq_true rfl⟩) ⟨hp_blind, va_recv hK hP (ci := 9) (q0 := 279) rfl c_279, hp_pre hK hN hP⟩ rfl rfl hl.1 rfl (lv_room (Nat.le_of_ble_eq_true rfl)) dX7_tick_12 ⟨Nat.zero_le _, Nat.zero_le _⟩) hS (fun _ _ h => h) (fun _ h => h) (fun r12 u9 t H locs ht hvm hw9 hB hz1 hk1 hS => ?_)
    have hP := ho_at ht hB
    obtain ⟨eq12, ok9⟩ := hw9
    obtain ⟨u12, e_u12⟩ : ∃ z, z = u9 := ⟨_, rfl⟩
    rw [← e_u12] at hP eq12 ok9
    have hO := ok9
    have hF := bnd2_s eq12 hF
    exact W.iret (v := r12) hx hb hr (fun t ht hW => ⟨⟨r12, u12, rfl, ⟨hF.trans hFF, hO⟩, ho_of ht hP⟩, hS.F ht⟩) hS.2.2 dX7_tick_15
theorem hd_X7_tickV : yX7_tick.cls = RX7 ∧ yX7_tick.cls ≠ "java/lang/invoke/MethodHandle" ∧ yX7_tick.cls ≠ "java/lang/invoke/VarHandle" ∧ (parseMethodDescriptor yX7_tick.desc).map (fun d => d.parameters.length) = some 1 := by decide +kernel
set_option maxHeartbeats 4000000 in
set_option maxRecDepth 100000 in
theorem c7_tickUntilStanding (l : Launch) {D : va_G} {G : CY} {ad : Nat → Nat} {B0 : Nat} (hA : adOK B0 ad) (σ : Nat → Nat → Int32) (u : Nat → Int32) (a : Int32) (b : Int32) (hO : okM u) : Met l yX7_tickUntilStanding wsX7_tickUntilStanding { frames := 14, cells := 0, slots := 0, locals := 323 } (va_Pc [.ref (ad (279)), .int a, .int b] (Hp D G ad (va_up σ 16 u))) (va_Qi (fun (r : Int32) (z : Nat → Int32) => (r, z) = f7_tickUntilStanding u a b ∧ okM z) (fun (z : Nat → Int32) => Ho D G ad (va_up σ 16 z)) (AA B0)) 0 0 (AA B0) := by
  refine Met.ofW (cc := cX7_tickUntilStanding) (maxL := 4) (ret := (some .int)) (by decide) rfl ?_
  intro p e s m args below meth c s₁ B hml hv
  obtain ⟨rfl, hP, hK, hN⟩ := hv
  have hx := B.exec
  have hb := B.bytes
  have hr := B.returns
  have hts := atoms_spec (ws := wsX7_tickUntilStanding) B.pre
  have hown : s.vm.findClass RX7 = some m.cls := findClass_of_methodNamed B.named
  have hlocks := B.notSynchronized
  have inX7 : ∀ w ∈ wsX70, w ∈ wsX7_tickUntilStanding := (fun w h => List.mem_cons_of_mem _ (List.mem_append_left _ (List.mem_append_right _ h)))
  have hP : va_P D vwCl (pool G ad (va_up σ 16 u)) s.heap := hP
  have hS : va_S (AA B0) s.heap s.heap [] := va_S.rf
  have hl := lv_entry ([.ref (ad (279)), .int a, .int b]) (n := 4) (Nat.le_of_ble_eq_true rfl)
  rw [lg_entry_eq]
  generalize (lg_sl ([.ref (ad (279)), .int a, .int b]) ++ List.replicate (4 - (lg_sl ([.ref (ad (279)), .int a, .int b])).length) Slot.unset).toArray = ls at hl ⊢
  have hl : lv_has ls 4 [(0, .ref (ad (279))), (1, .int a), (2, .int b)] := hl
  obtain ⟨FF, hFF⟩ : ∃ z, z = f7_tickUntilStanding u a b := ⟨_, rfl⟩
  have hF := hFF.symm
  rw [f7_tickUntilStanding] at hF
  refine lv_aload_n hx hb dX7_tickUntilStanding_0 rfl (lv_at hl 0 rfl) ?_
  refine lv_iload_n hx hb dX7_tickUntilStanding_1 rfl (lv_at hl 1 rfl) ?_
  refine va_calli (va_runV (As := [.int a]) (rest := []) ⟨hx, hb, hml, hown, hts⟩ (c7_isBody l hA σ u a ) (cwV 1 hts gX7_tickUntilStanding_X7_isBody rfl rfl rfl hd_X7_isBodyV ⟨Nat.le_of_ble_eq_true rfl, Nat.le_of_ble_eq_true rfl⟩) ⟨hp_blind, va_recv hK hP (ci := 9) (q0 := 279) rfl c_279, hp_pre hK hN hP⟩ rfl rfl hl.1 rfl (lv_room (Nat.le_of_ble_eq_true rfl)) dX7_tickUntilStanding_2 ⟨Nat.zero_le _, Nat.zero_le _⟩) hS (fun _ _ h => h) (fun _ h => h) (fun r2 _ t H locs ht hvm hw9 hB hz1 hk1 hS => ?_)
  have hP := ho_at ht hB
  obtain ⟨eq2, hb_r2⟩ := hw9
  have hF := bnd_s eq2 hF
  refine lv_if_ne (tgt := 14) hx hb dX7_tickUntilStanding_5 (by decide) (fun c5 => ?_) (fun c5 => ?_)
  · have hF := iff_ c5 hF
    have hba := body_in hO.1 eq2 c5
    refine lv_iload_n hx hb dX7_tickUntilStanding_14 rfl (lv_at hl 2 rfl) ?_
    refine lv_iconst (v := 1) hx hb dX7_tickUntilStanding_15 (by decide) ?_
    refine lv_bipush (v := 100) hx hb dX7_tickUntilStanding_16 (by decide) ?_
    refine va_calli (va_runS (As := [.int b, .int 1, .int 100]) (rest := []) ⟨hx, hb, hml, hown, hts⟩ (c7_isBetween l hA (va_up σ 16 u) b 1 100 ) (va_cwS 3 hts gX7_tickUntilStanding_X7_isBetween rfl rfl rfl hd_X7_isBetweenS ⟨Nat.le_of_ble_eq_true rfl, Nat.le_of_ble_eq_true rfl⟩) ⟨hp_blind, hp_pre hK hN hP⟩ rfl rfl hl.1 rfl (lv_room (Nat.le_of_ble_eq_true rfl)) dX7_tickUntilStanding_18 ⟨Nat.zero_le _, Nat.zero_le _⟩) hS (fun _ _ h => h) (fun _ h => h) (fun r18 _ t H locs ht hvm hw9 hB hz1 hk1 hS => ?_)
    have hP := ho_at ht hB
    obtain ⟨eq18, hb_r18⟩ := hw9
    have hF := bnd_s eq18 hF
    refine lv_if_ne (tgt := 30) hx hb dX7_tickUntilStanding_21 (by decide) (fun c21 => ?_) (fun c21 => ?_)
    · have hF := iff_ c21 hF
      refine lv_iconst (v := 0) hx hb dX7_tickUntilStanding_30 (by decide) ?_
      refine lv_istore_n (lv' := [(3, .int 0), (0, .ref (ad (279))), (1, .int a), (2, .int b)]) hx hb dX7_tickUntilStanding_31 rfl hl (by decide) rfl (fun ls hl => ?_)
      have L32 : ∀ (n32 : Nat) (w3_32 : Int32) (u_32 : (Nat → Int32)) (H : Heap) (locs : List Loc) (ls : Array Slot), (b.toInt - w3_32.toInt).toNat < n32 → okM u_32 → va_P D vwCl (pool G ad (va_up σ 16 u_32)) H → va_S (AA B0) s.heap H locs → lv_has ls 4 [(3, .int w3_32), (0, .ref (ad (279))), (1, .int a), (2, .int b)] → f7_tickUntilStanding_L32 a b n32 w3_32 u_32 = FF → W p l e (headSpec wsX7_tickUntilStanding { frames := 14, cells := 0, slots := 0, locals := 323 }).room s m ([.ref (ad (279)), .int a, .int b] : List Value).toArray below meth c H locs 0 0 (MQ below (va_Qi (fun (r : Int32) (z : Nat → Int32) => (r, z) = f7_tickUntilStanding u a b ∧ okM z) (fun (z : Nat → Int32) => Ho D G ad (va_up σ 16 z)) (AA B0)) ([.ref (ad (279)), .int a, .int b] : List Value).toArray s 0 0 (AA B0)) (F0 m 32 ls []) := by
        intro n32
        induction n32 with
        | zero => intro w3_32 u_32 H locs ls hm; exact absurd hm (Nat.not_lt_zero _)
        | succ n32 ih32 =>
          intro w3_32 u_32 H locs ls hm32 hO hP hS hl hF
          rw [f7_tickUntilStanding_L32] at hF
          refine lv_iload_n hx hb dX7_tickUntilStanding_32 rfl (lv_at hl 0 rfl) ?_
          refine lv_iload_n hx hb dX7_tickUntilStanding_33 rfl (lv_at hl 3 rfl) ?_
          have J56 : ∀  (H : Heap) (locs : List Loc) (ls : Array Slot), va_P D vwCl (pool G ad (va_up σ 16 u_32)) H → va_S (AA B0) s.heap H locs → lv_has ls 4 [(3, .int w3_32), (0, .ref (ad (279))), (1, .int a)] → f7_tickUntilStanding_b56 a w3_32 u_32  = FF → W p l e (headSpec wsX7_tickUntilStanding { frames := 14, cells := 0, slots := 0, locals := 323 }).room s m ([.ref (ad (279)), .int a, .int b] : List Value).toArray below meth c H locs 0 0 (MQ below (va_Qi (fun (r : Int32) (z : Nat → Int32) => (r, z) = f7_tickUntilStanding u a b ∧ okM z) (fun (z : Nat → Int32) => Ho D G ad (va_up σ 16 z)) (AA B0)) ([.ref (ad (279)), .int a, .int b] : List Value).toArray s 0 0 (AA B0)) (F0 m 56 ls []) := by
            intro  H locs ls hP hS hl hF
            rw [f7_tickUntilStanding_b56] at hF
            refine lv_aload_n hx hb dX7_tickUntilStanding_56 rfl (lv_at hl 1 rfl) ?_
            refine lv_aload_n hx hb dX7_tickUntilStanding_57 rfl (lv_at hl 1 rfl) ?_
            refine lv_iload_n hx hb dX7_tickUntilStanding_58 rfl (lv_at hl 2 rfl) ?_
            refine va_calli (va_runV (As := [.int a]) (rest := [.ref (ad (279))]) ⟨hx, hb, hml, hown, hts⟩ (c7_doesStand l hA σ u_32 a hO hba) (cwV 1 hts gX7_tickUntilStanding_X7_doesStand rfl rfl rfl hd_X7_doesStandV ⟨Nat.le_of_ble_eq_true rfl, Nat.le_of_ble_eq_true rfl⟩) ⟨hp_blind, va_recv hK hP (ci := 9) (q0 := 279) rfl c_279, hp_pre hK hN hP⟩ rfl rfl hl.1 rfl (lv_room (Nat.le_of_ble_eq_true rfl)) dX7_tickUntilStanding_59 ⟨Nat.zero_le _, Nat.zero_le _⟩) hS (fun _ _ h => h) (fun _ h => h) (fun r59 _ t H locs ht hvm hw9 hB hz1 hk1 hS => ?_)
            have hP := ho_at ht hB
            obtain ⟨eq59, hb_r59⟩ := hw9
            have hF := bnd_s eq59 hF
            have J70 : ∀ (t0_70 : Int32) (H : Heap) (locs : List Loc) (ls : Array Slot), va_P D vwCl (pool G ad (va_up σ 16 u_32)) H → va_S (AA B0) s.heap H locs → lv_has ls 4 [(3, .int w3_32), (0, .ref (ad (279)))] → f7_tickUntilStanding_b70 w3_32 u_32 t0_70 = FF → W p l e (headSpec wsX7_tickUntilStanding { frames := 14, cells := 0, slots := 0, locals := 323 }).room s m ([.ref (ad (279)), .int a, .int b] : List Value).toArray below meth c H locs 0 0 (MQ below (va_Qi (fun (r : Int32) (z : Nat → Int32) => (r, z) = f7_tickUntilStanding u a b ∧ okM z) (fun (z : Nat → Int32) => Ho D G ad (va_up σ 16 z)) (AA B0)) ([.ref (ad (279)), .int a, .int b] : List Value).toArray s 0 0 (AA B0)) (F0 m 70 ls [.int t0_70, .ref (ad (279))]) := by
              intro t0_70 H locs ls hP hS hl hF
              rw [f7_tickUntilStanding_b70] at hF
              refine pput16 hx hb hts inX7 tyX7 tyX7_ok nmX7 hown hK hP hA hS (j := 279) (by decide) (by decide) rfl rfl 0 (by decide) (hts (.fieldLink RX7 45 "TileRunnersModel" "thrown" "I") (List.mem_of_getElem? (i := 1) rfl)) (fun _ h9 => h9) rfl (tyX7_ok 0 (by decide)) rfl rfl (Nat.le_of_ble_eq_true rfl) (490) (by decide) (setM_0) dX7_tickUntilStanding_70 (fun u9 H locs eu9 hP hS => ?_)
              obtain ⟨u70, e_u70⟩ : ∃ z, z = u9 := ⟨_, rfl⟩
              rw [← e_u70] at hP eu9
              have hF := bnd_s eu9 hF
              have hO := okM_up eu9 hO (by omega) (by omega) (by omega)
              refine lv_aload_n hx hb dX7_tickUntilStanding_73 rfl (lv_at hl 1 rfl) ?_
              refine va_get (D := D) (ci := 9) (C := RX7) (T := TX7) (N := 17) hx hb hts inX7 hown hK hP (279) c_279 rfl 0 (by decide) (hts (.fieldLink RX7 45 "TileRunnersModel" "thrown" "I") (List.mem_of_getElem? (i := 1) rfl)) (fun _ h9 => h9) rfl dX7_tickUntilStanding_74 ?_
              refine lv_if_ne (tgt := 84) hx hb dX7_tickUntilStanding_77 (by decide) (fun c77 => ?_) (fun c77 => ?_)
              · have hF := iff_ c77 hF
                refine lv_iconst (v := 0) hx hb dX7_tickUntilStanding_84 (by decide) ?_
                exact W.iret (v := 0) hx hb hr (fun t ht hW => ⟨⟨0, u70, rfl, ⟨hF.trans hFF, hO⟩, ho_of ht hP⟩, hS.F ht⟩) hS.2.2 dX7_tickUntilStanding_85
              · have hF := ift c77 hF
                refine lv_iload_n hx hb dX7_tickUntilStanding_80 rfl (lv_at hl 0 rfl) ?_
                refine lv_goto (tgt := 85) hx hb dX7_tickUntilStanding_81 (by decide) ?_
                exact W.iret (v := w3_32) hx hb hr (fun t ht hW => ⟨⟨w3_32, u70, rfl, ⟨hF.trans hFF, hO⟩, ho_of ht hP⟩, hS.F ht⟩) hS.2.2 dX7_tickUntilStanding_85
            refine lv_if_eq (tgt := 69) hx hb dX7_tickUntilStanding_62 (by decide) (fun c62 => ?_) (fun c62 => ?_)
            · have hF := ift c62 hF
              refine lv_iconst (v := 3) hx hb dX7_tickUntilStanding_69 (by decide) ?_
              exact J70 3 _ _ ls hP hS (lv_sub hl [0, 1] rfl) hF
            · have hF := iff_ c62 hF
              refine lv_iconst (v := 0) hx hb dX7_tickUntilStanding_65 (by decide) ?_
              refine lv_goto (tgt := 70) hx hb dX7_tickUntilStanding_66 (by decide) ?_
              exact J70 0 _ _ ls hP hS (lv_sub hl [0, 1] rfl) hF
          refine lv_icmp_ge (tgt := 56) hx hb dX7_tickUntilStanding_34 (by decide) (fun c34 => ?_) (fun c34 => ?_)
          · have hF := ift c34 hF
            exact J56  _ _ ls hP hS (lv_sub hl [0, 1, 2] rfl) hF
          · have hF := iff_ c34 hF
            refine lv_aload_n hx hb dX7_tickUntilStanding_37 rfl (lv_at hl 1 rfl) ?_
            refine lv_iload_n hx hb dX7_tickUntilStanding_38 rfl (lv_at hl 2 rfl) ?_
            refine va_calli (va_runV (As := [.int a]) (rest := []) ⟨hx, hb, hml, hown, hts⟩ (c7_doesStand l hA σ u_32 a hO hba) (cwV 1 hts gX7_tickUntilStanding_X7_doesStand rfl rfl rfl hd_X7_doesStandV ⟨Nat.le_of_ble_eq_true rfl, Nat.le_of_ble_eq_true rfl⟩) ⟨hp_blind, va_recv hK hP (ci := 9) (q0 := 279) rfl c_279, hp_pre hK hN hP⟩ rfl rfl hl.1 rfl (lv_room (Nat.le_of_ble_eq_true rfl)) dX7_tickUntilStanding_39 ⟨Nat.zero_le _, Nat.zero_le _⟩) hS (fun _ _ h => h) (fun _ h => h) (fun r39 _ t H locs ht hvm hw9 hB hz1 hk1 hS => ?_)
            have hP := ho_at ht hB
            obtain ⟨eq39, hb_r39⟩ := hw9
            have hF := bnd_s eq39 hF
            refine lv_if_ne (tgt := 56) hx hb dX7_tickUntilStanding_42 (by decide) (fun c42 => ?_) (fun c42 => ?_)
            · have hF := iff_ c42 hF
              exact J56  _ _ ls hP hS (lv_sub hl [0, 1, 2] rfl) hF
            · have hF := ift c42 hF
              refine lv_aload_n hx hb dX7_tickUntilStanding_45 rfl (lv_at hl 1 rfl) ?_
              refine lv_iconst (v := 1) hx hb dX7_tickUntilStanding_46 (by decide) ?_
              refine va_callv (va_runV (As := [.int 1]) (rest := []) ⟨hx, hb, hml, hown, hts⟩ (c7_ticks l hA σ u_32 1 hO) (cwV 1 hts gX7_tickUntilStanding_X7_ticks rfl rfl rfl hd_X7_ticksV ⟨Nat.le_of_ble_eq_true rfl, Nat.le_of_ble_eq_true rfl⟩) ⟨hp_blind, va_recv hK hP (ci := 9) (q0 := 279) rfl c_279, hp_pre hK hN hP⟩ rfl rfl hl.1 rfl (lv_room (Nat.le_of_ble_eq_true rfl)) dX7_tickUntilStanding_47 ⟨Nat.zero_le _, Nat.zero_le _⟩) hS (fun _ _ h => h) (fun _ h => h) (fun u9 t H locs ht hvm hw9 hB hz1 hk1 hS => ?_)
              have hP := ho_at ht hB
              obtain ⟨eq47, ok9⟩ := hw9
              obtain ⟨u47, e_u47⟩ : ∃ z, z = u9 := ⟨_, rfl⟩
              rw [← e_u47] at hP eq47 ok9
              have hO := ok9
              have hF := bnd_s eq47 hF
              obtain ⟨v3_50, e_v3_50⟩ : ∃ z : Int32, z = w3_32 + 1 := ⟨_, rfl⟩
              have hF := bnd_s e_v3_50 hF
              refine lv_iinc (v := v3_50) (lv' := [(3, .int v3_50), (0, .ref (ad (279))), (1, .int a), (2, .int b)]) hx hb dX7_tickUntilStanding_50 hl (k := 0) rfl (by rw [e_v3_50]; rfl) (by decide) rfl (fun ls hl => ?_)
              refine lv_goto (tgt := 32) hx hb dX7_tickUntilStanding_53 (by decide) ?_
              exact ih32 v3_50 u47 _ _ ls (ms_s (dec_up (nle_lt c34) e_v3_50) hm32) hO hP hS (lv_sub hl [0, 1, 2, 3] rfl) hF
      exact L32 BIG 0 u _ _ ls (big_up _ _) hO hP hS (lv_sub hl [0, 1, 2, 3] rfl) hF
    · have hF := ift c21 hF
      refine lv_aload_n hx hb dX7_tickUntilStanding_24 rfl (lv_at hl 0 rfl) ?_
      refine lv_iconst (v := 2) hx hb dX7_tickUntilStanding_25 (by decide) ?_
      refine va_calli (va_runV (As := [.int 2]) (rest := []) ⟨hx, hb, hml, hown, hts⟩ (c7_fails l hA σ u 2 hO) (cwV 1 hts gX7_tickUntilStanding_X7_fails rfl rfl rfl hd_X7_failsV ⟨Nat.le_of_ble_eq_true rfl, Nat.le_of_ble_eq_true rfl⟩) ⟨hp_blind, va_recv hK hP (ci := 9) (q0 := 279) rfl c_279, hp_pre hK hN hP⟩ rfl rfl hl.1 rfl (lv_room (Nat.le_of_ble_eq_true rfl)) dX7_tickUntilStanding_26 ⟨Nat.zero_le _, Nat.zero_le _⟩) hS (fun _ _ h => h) (fun _ h => h) (fun r26 u9 t H locs ht hvm hw9 hB hz1 hk1 hS => ?_)
      have hP := ho_at ht hB
      obtain ⟨eq26, ok9⟩ := hw9
      obtain ⟨u26, e_u26⟩ : ∃ z, z = u9 := ⟨_, rfl⟩
      rw [← e_u26] at hP eq26 ok9
      have hO := ok9
      have hF := bnd2_s eq26 hF
      exact W.iret (v := r26) hx hb hr (fun t ht hW => ⟨⟨r26, u26, rfl, ⟨hF.trans hFF, hO⟩, ho_of ht hP⟩, hS.F ht⟩) hS.2.2 dX7_tickUntilStanding_29
  · have hF := ift c5 hF
    refine lv_aload_n hx hb dX7_tickUntilStanding_8 rfl (lv_at hl 0 rfl) ?_
    refine lv_iconst (v := 1) hx hb dX7_tickUntilStanding_9 (by decide) ?_
    refine va_calli (va_runV (As := [.int 1]) (rest := []) ⟨hx, hb, hml, hown, hts⟩ (c7_fails l hA σ u 1 hO) (cwV 1 hts gX7_tickUntilStanding_X7_fails rfl rfl rfl hd_X7_failsV ⟨Nat.le_of_ble_eq_true rfl, Nat.le_of_ble_eq_true rfl⟩) ⟨hp_blind, va_recv hK hP (ci := 9) (q0 := 279) rfl c_279, hp_pre hK hN hP⟩ rfl rfl hl.1 rfl (lv_room (Nat.le_of_ble_eq_true rfl)) dX7_tickUntilStanding_10 ⟨Nat.zero_le _, Nat.zero_le _⟩) hS (fun _ _ h => h) (fun _ h => h) (fun r10 u9 t H locs ht hvm hw9 hB hz1 hk1 hS => ?_)
    have hP := ho_at ht hB
    obtain ⟨eq10, ok9⟩ := hw9
    obtain ⟨u10, e_u10⟩ : ∃ z, z = u9 := ⟨_, rfl⟩
    rw [← e_u10] at hP eq10 ok9
    have hO := ok9
    have hF := bnd2_s eq10 hF
    exact W.iret (v := r10) hx hb hr (fun t ht hW => ⟨⟨r10, u10, rfl, ⟨hF.trans hFF, hO⟩, ho_of ht hP⟩, hS.F ht⟩) hS.2.2 dX7_tickUntilStanding_13
theorem hd_X7_tickUntilStandingV : yX7_tickUntilStanding.cls = RX7 ∧ yX7_tickUntilStanding.cls ≠ "java/lang/invoke/MethodHandle" ∧ yX7_tickUntilStanding.cls ≠ "java/lang/invoke/VarHandle" ∧ (parseMethodDescriptor yX7_tickUntilStanding.desc).map (fun d => d.parameters.length) = some 2 := by decide +kernel
set_option maxHeartbeats 4000000 in
set_option maxRecDepth 100000 in
theorem c7_undo (l : Launch) {D : va_G} {G : CY} {ad : Nat → Nat} {B0 : Nat} (hA : adOK B0 ad) (σ : Nat → Nat → Int32) (u : Nat → Int32)  (hO : okM u) : Met l yX7_undo wsX7_undo { frames := 1, cells := 0, slots := 0, locals := 24 } (va_Pc [.ref (ad (279))] (Hp D G ad (va_up σ 16 u))) (va_Qi (fun (r : Int32) (z : Nat → Int32) => (r, z) = f7_undo u ∧ okM z) (fun (z : Nat → Int32) => Ho D G ad (va_up σ 16 z)) (AA B0)) 0 0 (AA B0) := by
  refine Met.ofW (cc := cX7_undo) (maxL := 1) (ret := (some .int)) (by decide) rfl ?_
  intro p e s m args below meth c s₁ B hml hv
  obtain ⟨rfl, hP, hK, hN⟩ := hv
  have hx := B.exec
  have hb := B.bytes
  have hr := B.returns
  have hts := atoms_spec (ws := wsX7_undo) B.pre
  have hown : s.vm.findClass RX7 = some m.cls := findClass_of_methodNamed B.named
  have hlocks := B.notSynchronized
  have inX7 : ∀ w ∈ wsX70, w ∈ wsX7_undo := (fun w h => List.mem_cons_of_mem _ (List.mem_append_left _ (List.mem_append_right _ h)))
  have hP : va_P D vwCl (pool G ad (va_up σ 16 u)) s.heap := hP
  have hS : va_S (AA B0) s.heap s.heap [] := va_S.rf
  have hl := lv_entry ([.ref (ad (279))]) (n := 1) (Nat.le_of_ble_eq_true rfl)
  rw [lg_entry_eq]
  generalize (lg_sl ([.ref (ad (279))]) ++ List.replicate (1 - (lg_sl ([.ref (ad (279))])).length) Slot.unset).toArray = ls at hl ⊢
  have hl : lv_has ls 1 [(0, .ref (ad (279)))] := hl
  obtain ⟨FF, hFF⟩ : ∃ z, z = f7_undo u := ⟨_, rfl⟩
  have hF := hFF.symm
  rw [f7_undo] at hF
  refine lv_aload_n hx hb dX7_undo_0 rfl (lv_at hl 0 rfl) ?_
  refine va_get (D := D) (ci := 9) (C := RX7) (T := TX7) (N := 17) hx hb hts inX7 hown hK hP (279) c_279 rfl 8 (by decide) (hts (.fieldLink RX7 208 "TileRunnersModel" "kept" "I") (List.mem_of_getElem? (i := 1) rfl)) (fun _ h9 => h9) rfl dX7_undo_1 ?_
  refine lv_if_ne (tgt := 13) hx hb dX7_undo_4 (by decide) (fun c4 => ?_) (fun c4 => ?_)
  · have hF := iff_ c4 hF
    have hk0 := kept_pos hO c4
    refine lv_aload_n hx hb dX7_undo_13 rfl (lv_at hl 0 rfl) ?_
    refine lv_iconst (v := 0) hx hb dX7_undo_14 (by decide) ?_
    refine pput16 hx hb hts inX7 tyX7 tyX7_ok nmX7 hown hK hP hA hS (j := 279) (by decide) (by decide) rfl rfl 0 (by decide) (hts (.fieldLink RX7 45 "TileRunnersModel" "thrown" "I") (List.mem_of_getElem? (i := 2) rfl)) (fun _ h9 => h9) rfl (tyX7_ok 0 (by decide)) rfl rfl (Nat.le_of_ble_eq_true rfl) (490) (by decide) (setM_0) dX7_undo_15 (fun u9 H locs eu9 hP hS => ?_)
    obtain ⟨u15, e_u15⟩ : ∃ z, z = u9 := ⟨_, rfl⟩
    rw [← e_u15] at hP eu9
    have hF := bnd_s eu9 hF
    have eq15 := eu9
    have hO := okM_up eu9 hO (by omega) (by omega) (by omega)
    have hk : 1 ≤ (u15 491).toInt := by rw [eq15, va_up_ne _ _ (by decide)]; exact hk0
    have hkb := hO.2.1.2
    refine lv_aload_n hx hb dX7_undo_18 rfl (lv_at hl 0 rfl) ?_
    refine lv_dup hx hb dX7_undo_19 rfl ?_
    refine va_get (D := D) (ci := 9) (C := RX7) (T := TX7) (N := 17) hx hb hts inX7 hown hK hP (279) c_279 rfl 8 (by decide) (hts (.fieldLink RX7 208 "TileRunnersModel" "kept" "I") (List.mem_of_getElem? (i := 1) rfl)) (fun _ h9 => h9) rfl dX7_undo_20 ?_
    refine lv_iconst (v := 1) hx hb dX7_undo_23 (by decide) ?_
    refine lv_isub hx hb dX7_undo_24 ?_
    refine pput16 hx hb hts inX7 tyX7 tyX7_ok nmX7 hown hK hP hA hS (j := 279) (by decide) (by decide) rfl rfl 8 (by decide) (hts (.fieldLink RX7 208 "TileRunnersModel" "kept" "I") (List.mem_of_getElem? (i := 1) rfl)) (fun _ h9 => h9) rfl (tyX7_ok 8 (by decide)) rfl rfl (Nat.le_of_ble_eq_true rfl) (491) (by decide) (setM_8) dX7_undo_25 (fun u9 H locs eu9 hP hS => ?_)
    obtain ⟨u25, e_u25⟩ : ∃ z, z = u9 := ⟨_, rfl⟩
    rw [← e_u25] at hP eu9
    have hF := bnd_s eu9 hF
    have eq25 := eu9
    have hO := okM_491 eu9 hO ⟨(kept_dec hk hkb).1, Int.le_trans (kept_dec hk hkb).2 (by decide)⟩
    have hk2 : 0 ≤ (u25 491).toInt ∧ (u25 491).toInt ≤ 11 := by rw [eq25, va_up_self]; exact kept_dec hk hkb
    refine lv_aload_n hx hb dX7_undo_28 rfl (lv_at hl 0 rfl) ?_
    refine va_get (D := D) (ci := 9) (C := RX7) (T := TX7) (N := 17) hx hb hts inX7 hown hK hP (279) c_279 rfl 4 (by decide) (hts (.fieldLink RX7 19 "TileRunnersModel" "earlier" "[I") (List.mem_of_getElem? (i := 3) rfl)) (fun _ h9 => h9) rfl dX7_undo_29 ?_
    refine lv_sipush (v := 480) hx hb dX7_undo_32 (by decide) ?_
    refine lv_aload_n hx hb dX7_undo_35 rfl (lv_at hl 0 rfl) ?_
    refine va_get (D := D) (ci := 9) (C := RX7) (T := TX7) (N := 17) hx hb hts inX7 hown hK hP (279) c_279 rfl 8 (by decide) (hts (.fieldLink RX7 208 "TileRunnersModel" "kept" "I") (List.mem_of_getElem? (i := 1) rfl)) (fun _ h9 => h9) rfl dX7_undo_36 ?_
    refine lv_imul hx hb dX7_undo_39 ?_
    refine lv_aload_n hx hb dX7_undo_40 rfl (lv_at hl 0 rfl) ?_
    refine va_get (D := D) (ci := 9) (C := RX7) (T := TX7) (N := 17) hx hb hts inX7 hown hK hP (279) c_279 rfl 1 (by decide) (hts (.fieldLink RX7 7 "TileRunnersModel" "world" "[I") (List.mem_of_getElem? (i := 4) rfl)) (fun _ h9 => h9) rfl dX7_undo_41 ?_
    refine lv_iconst (v := 0) hx hb dX7_undo_44 (by decide) ?_
    refine va_callv (va_runS (As := [.ref (ad (283)), .int (480 * (u25 491)), .ref (ad (280)), .int 0]) (rest := []) ⟨hx, hb, hml, hown, hts⟩ (c7_copies l hA σ u25 283 5760 2000 (by decide) (fun _ _ => rfl) (fun k9 hk9 => by unfold own16; repeat first | rw [if_pos (by omega)] | rw [if_neg (by omega)]) (480 * (u25 491)) 280 480 0 (by decide) (fun _ _ => rfl) (fun k9 hk9 => by unfold own16; repeat first | rw [if_pos (by omega)] | rw [if_neg (by omega)]) 0 (k480 hk2.1 hk2.2) c480) (va_cwS 4 hts gX7_undo_X7_copies rfl rfl rfl hd_X7_copiesS ⟨Nat.le_of_ble_eq_true rfl, Nat.le_of_ble_eq_true rfl⟩) ⟨hp_blind, hp_pre hK hN hP⟩ rfl rfl hl.1 rfl (lv_room (Nat.le_of_ble_eq_true rfl)) dX7_undo_45 ⟨Nat.zero_le _, Nat.zero_le _⟩) hS (fun _ _ h => h) (fun _ h => h) (fun u9 t H locs ht hvm hw9 hB hz1 hk1 hS => ?_)
    have hP := ho_at ht hB
    have eq45 := hw9
    obtain ⟨u45, e_u45⟩ : ∃ z, z = u9 := ⟨_, rfl⟩
    rw [← e_u45] at hP eq45
    have hO := ok_ew hk2.1 hk2.2 eq45 hO
    have hF := bnd_s eq45 hF
    refine lv_aload_n hx hb dX7_undo_48 rfl (lv_at hl 0 rfl) ?_
    refine va_get (D := D) (ci := 9) (C := RX7) (T := TX7) (N := 17) hx hb hts inX7 hown hK hP (279) c_279 rfl 1 (by decide) (hts (.fieldLink RX7 7 "TileRunnersModel" "world" "[I") (List.mem_of_getElem? (i := 4) rfl)) (fun _ h9 => h9) rfl dX7_undo_49 ?_
    refine lv_sipush (v := 466) hx hb dX7_undo_52 (by decide) ?_
    refine pald (n := 480) (o := 0) (t := 466) (i := 466) hx hb hK hP c_280 (vp_in_iff.mpr (by decide)) rfl dX7_undo_55 ?_
    exact W.iret (v := (u45 466)) hx hb hr (fun t ht hW => ⟨⟨(u45 466), u45, rfl, ⟨hF.trans hFF, hO⟩, ho_of ht hP⟩, hS.F ht⟩) hS.2.2 dX7_undo_56
  · have hF := ift c4 hF
    refine lv_aload_n hx hb dX7_undo_7 rfl (lv_at hl 0 rfl) ?_
    refine lv_iconst (v := 1) hx hb dX7_undo_8 (by decide) ?_
    refine va_calli (va_runV (As := [.int 1]) (rest := []) ⟨hx, hb, hml, hown, hts⟩ (c7_fails l hA σ u 1 hO) (cwV 1 hts gX7_undo_X7_fails rfl rfl rfl hd_X7_failsV ⟨Nat.le_of_ble_eq_true rfl, Nat.le_of_ble_eq_true rfl⟩) ⟨hp_blind, va_recv hK hP (ci := 9) (q0 := 279) rfl c_279, hp_pre hK hN hP⟩ rfl rfl hl.1 rfl (lv_room (Nat.le_of_ble_eq_true rfl)) dX7_undo_9 ⟨Nat.zero_le _, Nat.zero_le _⟩) hS (fun _ _ h => h) (fun _ h => h) (fun r9 u9 t H locs ht hvm hw9 hB hz1 hk1 hS => ?_)
    have hP := ho_at ht hB
    obtain ⟨eq9, ok9⟩ := hw9
    obtain ⟨u9, e_u9⟩ : ∃ z, z = u9 := ⟨_, rfl⟩
    rw [← e_u9] at hP eq9 ok9
    have hO := ok9
    have hF := bnd2_s eq9 hF
    exact W.iret (v := r9) hx hb hr (fun t ht hW => ⟨⟨r9, u9, rfl, ⟨hF.trans hFF, hO⟩, ho_of ht hP⟩, hS.F ht⟩) hS.2.2 dX7_undo_12
theorem hd_X7_undoV : yX7_undo.cls = RX7 ∧ yX7_undo.cls ≠ "java/lang/invoke/MethodHandle" ∧ yX7_undo.cls ≠ "java/lang/invoke/VarHandle" ∧ (parseMethodDescriptor yX7_undo.desc).map (fun d => d.parameters.length) = some 0 := by decide +kernel
set_option maxHeartbeats 4000000 in
set_option maxRecDepth 100000 in
theorem c7_clock (l : Launch) {D : va_G} {G : CY} {ad : Nat → Nat} {B0 : Nat} (hA : adOK B0 ad) (σ : Nat → Nat → Int32) (u : Nat → Int32)  (hO : okM u) : Met l yX7_clock wsX7_clock { frames := 0, cells := 0, slots := 0, locals := 0 } (va_Pc [.ref (ad (279))] (Hp D G ad (va_up σ 16 u))) (va_Qi (fun (r : Int32) (z : Nat → Int32) => (r, z) = f7_clock u ∧ okM z) (fun (z : Nat → Int32) => Ho D G ad (va_up σ 16 z)) (AA B0)) 0 0 (AA B0) := by
  refine Met.ofW (cc := cX7_clock) (maxL := 1) (ret := (some .int)) (by decide) rfl ?_
  intro p e s m args below meth c s₁ B hml hv
  obtain ⟨rfl, hP, hK, hN⟩ := hv
  have hx := B.exec
  have hb := B.bytes
  have hr := B.returns
  have hts := atoms_spec (ws := wsX7_clock) B.pre
  have hown : s.vm.findClass RX7 = some m.cls := findClass_of_methodNamed B.named
  have hlocks := B.notSynchronized
  have inX7 : ∀ w ∈ wsX70, w ∈ wsX7_clock := (fun w h => List.mem_cons_of_mem _ (List.mem_append_left _ (List.mem_append_right _ h)))
  have hP : va_P D vwCl (pool G ad (va_up σ 16 u)) s.heap := hP
  have hS : va_S (AA B0) s.heap s.heap [] := va_S.rf
  have hl := lv_entry ([.ref (ad (279))]) (n := 1) (Nat.le_of_ble_eq_true rfl)
  rw [lg_entry_eq]
  generalize (lg_sl ([.ref (ad (279))]) ++ List.replicate (1 - (lg_sl ([.ref (ad (279))])).length) Slot.unset).toArray = ls at hl ⊢
  have hl : lv_has ls 1 [(0, .ref (ad (279)))] := hl
  obtain ⟨FF, hFF⟩ : ∃ z, z = f7_clock u := ⟨_, rfl⟩
  have hF := hFF.symm
  rw [f7_clock] at hF
  refine lv_aload_n hx hb dX7_clock_0 rfl (lv_at hl 0 rfl) ?_
  refine lv_iconst (v := 0) hx hb dX7_clock_1 (by decide) ?_
  refine pput16 hx hb hts inX7 tyX7 tyX7_ok nmX7 hown hK hP hA hS (j := 279) (by decide) (by decide) rfl rfl 0 (by decide) (hts (.fieldLink RX7 45 "TileRunnersModel" "thrown" "I") (List.mem_of_getElem? (i := 1) rfl)) (fun _ h9 => h9) rfl (tyX7_ok 0 (by decide)) rfl rfl (Nat.le_of_ble_eq_true rfl) (490) (by decide) (setM_0) dX7_clock_2 (fun u9 H locs eu9 hP hS => ?_)
  obtain ⟨u2, e_u2⟩ : ∃ z, z = u9 := ⟨_, rfl⟩
  rw [← e_u2] at hP eu9
  have hF := bnd_s eu9 hF
  have hO := okM_up eu9 hO (by omega) (by omega) (by omega)
  refine lv_aload_n hx hb dX7_clock_5 rfl (lv_at hl 0 rfl) ?_
  refine va_get (D := D) (ci := 9) (C := RX7) (T := TX7) (N := 17) hx hb hts inX7 hown hK hP (279) c_279 rfl 1 (by decide) (hts (.fieldLink RX7 7 "TileRunnersModel" "world" "[I") (List.mem_of_getElem? (i := 2) rfl)) (fun _ h9 => h9) rfl dX7_clock_6 ?_
  refine lv_sipush (v := 466) hx hb dX7_clock_9 (by decide) ?_
  refine pald (n := 480) (o := 0) (t := 466) (i := 466) hx hb hK hP c_280 (vp_in_iff.mpr (by decide)) rfl dX7_clock_12 ?_
  exact W.iret (v := (u2 466)) hx hb hr (fun t ht hW => ⟨⟨(u2 466), u2, rfl, ⟨hF.trans hFF, hO⟩, ho_of ht hP⟩, hS.F ht⟩) hS.2.2 dX7_clock_13
theorem hd_X7_clockV : yX7_clock.cls = RX7 ∧ yX7_clock.cls ≠ "java/lang/invoke/MethodHandle" ∧ yX7_clock.cls ≠ "java/lang/invoke/VarHandle" ∧ (parseMethodDescriptor yX7_clock.desc).map (fun d => d.parameters.length) = some 0 := by decide +kernel
set_option maxHeartbeats 4000000 in
set_option maxRecDepth 100000 in
theorem c7_isAnyBlocked (l : Launch) {D : va_G} {G : CY} {ad : Nat → Nat} {B0 : Nat} (hA : adOK B0 ad) (σ : Nat → Nat → Int32) (u : Nat → Int32)  (hO : okM u) : Met l yX7_isAnyBlocked wsX7_isAnyBlocked { frames := 5, cells := 0, slots := 0, locals := 113 } (va_Pc [.ref (ad (279))] (Hp D G ad (va_up σ 16 u))) (va_Qi (fun (r : Int32) (_ : Unit) => r = f7_isAnyBlocked u ∧ bl r) (fun (_ : Unit) => Ho D G ad (va_up σ 16 u)) (AA B0)) 0 0 (AA B0) := by
  refine Met.ofW (cc := cX7_isAnyBlocked) (maxL := 2) (ret := (some .boolean)) (by decide) rfl ?_
  intro p e s m args below meth c s₁ B hml hv
  obtain ⟨rfl, hP, hK, hN⟩ := hv
  have hx := B.exec
  have hb := B.bytes
  have hr := B.returns
  have hts := atoms_spec (ws := wsX7_isAnyBlocked) B.pre
  have hown : s.vm.findClass RX7 = some m.cls := findClass_of_methodNamed B.named
  have hlocks := B.notSynchronized
  have inX7 : ∀ w ∈ wsX70, w ∈ wsX7_isAnyBlocked := (fun w h => List.mem_cons_of_mem _ (List.mem_append_left _ (List.mem_append_right _ h)))
  have hP : va_P D vwCl (pool G ad (va_up σ 16 u)) s.heap := hP
  have hS : va_S (AA B0) s.heap s.heap [] := va_S.rf
  have hl := lv_entry ([.ref (ad (279))]) (n := 2) (Nat.le_of_ble_eq_true rfl)
  rw [lg_entry_eq]
  generalize (lg_sl ([.ref (ad (279))]) ++ List.replicate (2 - (lg_sl ([.ref (ad (279))])).length) Slot.unset).toArray = ls at hl ⊢
  have hl : lv_has ls 2 [(0, .ref (ad (279)))] := hl
  obtain ⟨FF, hFF⟩ : ∃ z, z = f7_isAnyBlocked u := ⟨_, rfl⟩
  have hF := hFF.symm
  rw [f7_isAnyBlocked] at hF
  refine lv_iconst (v := 0) hx hb dX7_isAnyBlocked_0 (by decide) ?_
  refine lv_istore_n (lv' := [(1, .int 0), (0, .ref (ad (279)))]) hx hb dX7_isAnyBlocked_1 rfl hl (by decide) rfl (fun ls hl => ?_)
  have L2 : ∀ (n2 : Nat) (w1_2 : Int32) (H : Heap) (locs : List Loc) (ls : Array Slot), (4 - w1_2.toInt).toNat < n2 → 0 ≤ w1_2 → va_P D vwCl (pool G ad (va_up σ 16 u)) H → va_S (AA B0) s.heap H locs → lv_has ls 2 [(1, .int w1_2), (0, .ref (ad (279)))] → f7_isAnyBlocked_L2 u n2 w1_2 = FF → W p l e (headSpec wsX7_isAnyBlocked { frames := 5, cells := 0, slots := 0, locals := 113 }).room s m ([.ref (ad (279))] : List Value).toArray below meth c H locs 0 0 (MQ below (va_Qi (fun (r : Int32) (_ : Unit) => r = f7_isAnyBlocked u ∧ bl r) (fun (_ : Unit) => Ho D G ad (va_up σ 16 u)) (AA B0)) ([.ref (ad (279))] : List Value).toArray s 0 0 (AA B0)) (F0 m 2 ls []) := by
    intro n2
    induction n2 with
    | zero => intro w1_2 H locs ls hm; exact absurd hm (Nat.not_lt_zero _)
    | succ n2 ih2 =>
      intro w1_2 H locs ls hm2 h1 hP hS hl hF
      rw [f7_isAnyBlocked_L2] at hF
      refine lv_iload_n hx hb dX7_isAnyBlocked_2 rfl (lv_at hl 0 rfl) ?_
      refine lv_aload_n hx hb dX7_isAnyBlocked_3 rfl (lv_at hl 1 rfl) ?_
      refine va_get (D := D) (ci := 9) (C := RX7) (T := TX7) (N := 17) hx hb hts inX7 hown hK hP (279) c_279 rfl 1 (by decide) (hts (.fieldLink RX7 7 "TileRunnersModel" "world" "[I") (List.mem_of_getElem? (i := 1) rfl)) (fun _ h9 => h9) rfl dX7_isAnyBlocked_4 ?_
      refine lv_sipush (v := 464) hx hb dX7_isAnyBlocked_7 (by decide) ?_
      refine pald (n := 480) (o := 0) (t := 464) (i := 464) hx hb hK hP c_280 (vp_in_iff.mpr (by decide)) rfl dX7_isAnyBlocked_10 ?_
      refine lv_icmp_ge (tgt := 42) hx hb dX7_isAnyBlocked_11 (by decide) (fun c11 => ?_) (fun c11 => ?_)
      · have hF := ift c11 hF
        refine lv_iconst (v := 0) hx hb dX7_isAnyBlocked_42 (by decide) ?_
        exact W.zret (v := 0) hx hb hr (bl_nar bl0) (fun t ht hW => ⟨⟨0, (), rfl, ⟨hF.trans hFF, bl0⟩, ho_of ht hP⟩, hS.F ht⟩) hS.2.2 dX7_isAnyBlocked_43
      · have hF := iff_ c11 hF
        have hbw1_2 : vp_in w1_2 4 := in_n h1 (nle_lt c11) hO.1.2.1
        refine lv_aload_n hx hb dX7_isAnyBlocked_14 rfl (lv_at hl 1 rfl) ?_
        refine lv_iload_n hx hb dX7_isAnyBlocked_15 rfl (lv_at hl 0 rfl) ?_
        refine lv_aload_n hx hb dX7_isAnyBlocked_16 rfl (lv_at hl 1 rfl) ?_
        refine lv_iload_n hx hb dX7_isAnyBlocked_17 rfl (lv_at hl 0 rfl) ?_
        refine lv_iconst (v := 0) hx hb dX7_isAnyBlocked_18 (by decide) ?_
        refine va_calli (va_runV (As := [.int w1_2, .int 0]) (rest := [.int w1_2, .ref (ad (279))]) ⟨hx, hb, hml, hown, hts⟩ (c7_of l hA σ u w1_2 0 (vp_in_iff.mpr (by decide)) hbw1_2) (cwV 2 hts gX7_isAnyBlocked_X7_of rfl rfl rfl hd_X7_ofV ⟨Nat.le_of_ble_eq_true rfl, Nat.le_of_ble_eq_true rfl⟩) ⟨hp_blind, va_recv hK hP (ci := 9) (q0 := 279) rfl c_279, hp_pre hK hN hP⟩ rfl rfl hl.1 rfl (lv_room (Nat.le_of_ble_eq_true rfl)) dX7_isAnyBlocked_19 ⟨Nat.zero_le _, Nat.zero_le _⟩) hS (fun _ _ h => h) (fun _ h => h) (fun r19 _ t H locs ht hvm hw9 hB hz1 hk1 hS => ?_)
        have hP := ho_at ht hB
        have eq19 := hw9
        have hF := bnd_s eq19 hF
        refine lv_aload_n hx hb dX7_isAnyBlocked_22 rfl (lv_at hl 1 rfl) ?_
        refine lv_iload_n hx hb dX7_isAnyBlocked_23 rfl (lv_at hl 0 rfl) ?_
        refine lv_iconst (v := 1) hx hb dX7_isAnyBlocked_24 (by decide) ?_
        refine va_calli (va_runV (As := [.int w1_2, .int 1]) (rest := [.int r19, .int w1_2, .ref (ad (279))]) ⟨hx, hb, hml, hown, hts⟩ (c7_of l hA σ u w1_2 1 (vp_in_iff.mpr (by decide)) hbw1_2) (cwV 2 hts gX7_isAnyBlocked_X7_of rfl rfl rfl hd_X7_ofV ⟨Nat.le_of_ble_eq_true rfl, Nat.le_of_ble_eq_true rfl⟩) ⟨hp_blind, va_recv hK hP (ci := 9) (q0 := 279) rfl c_279, hp_pre hK hN hP⟩ rfl rfl hl.1 rfl (lv_room (Nat.le_of_ble_eq_true rfl)) dX7_isAnyBlocked_25 ⟨Nat.zero_le _, Nat.zero_le _⟩) hS (fun _ _ h => h) (fun _ h => h) (fun r25 _ t H locs ht hvm hw9 hB hz1 hk1 hS => ?_)
        have hP := ho_at ht hB
        have eq25 := hw9
        have hF := bnd_s eq25 hF
        refine va_calli (va_runV (As := [.int w1_2, .int r19, .int r25]) (rest := []) ⟨hx, hb, hml, hown, hts⟩ (c7_blocks l hA σ u w1_2 r19 r25 hbw1_2) (cwV 3 hts gX7_isAnyBlocked_X7_blocks rfl rfl rfl hd_X7_blocksV ⟨Nat.le_of_ble_eq_true rfl, Nat.le_of_ble_eq_true rfl⟩) ⟨hp_blind, va_recv hK hP (ci := 9) (q0 := 279) rfl c_279, hp_pre hK hN hP⟩ rfl rfl hl.1 rfl (lv_room (Nat.le_of_ble_eq_true rfl)) dX7_isAnyBlocked_28 ⟨Nat.zero_le _, Nat.zero_le _⟩) hS (fun _ _ h => h) (fun _ h => h) (fun r28 _ t H locs ht hvm hw9 hB hz1 hk1 hS => ?_)
        have hP := ho_at ht hB
        obtain ⟨eq28, hb_r28⟩ := hw9
        have hF := bnd_s eq28 hF
        refine lv_if_eq (tgt := 36) hx hb dX7_isAnyBlocked_31 (by decide) (fun c31 => ?_) (fun c31 => ?_)
        · have hF := ift c31 hF
          obtain ⟨v1_36, e_v1_36⟩ : ∃ z : Int32, z = w1_2 + 1 := ⟨_, rfl⟩
          have hF := bnd_s e_v1_36 hF
          refine lv_iinc (v := v1_36) (lv' := [(1, .int v1_36), (0, .ref (ad (279)))]) hx hb dX7_isAnyBlocked_36 hl (k := 0) rfl (by rw [e_v1_36]; rfl) (by decide) rfl (fun ls hl => ?_)
          refine lv_goto (tgt := 2) hx hb dX7_isAnyBlocked_39 (by decide) ?_
          exact ih2 v1_36 _ _ ls (ms_s (dec_i4 hbw1_2 e_v1_36) hm2) (ge0_i4 hbw1_2 e_v1_36) hP hS (lv_sub hl [0, 1] rfl) hF
        · have hF := iff_ c31 hF
          refine lv_iconst (v := 1) hx hb dX7_isAnyBlocked_34 (by decide) ?_
          exact W.zret (v := 1) hx hb hr (bl_nar bl1) (fun t ht hW => ⟨⟨1, (), rfl, ⟨hF.trans hFF, bl1⟩, ho_of ht hP⟩, hS.F ht⟩) hS.2.2 dX7_isAnyBlocked_35
  exact L2 BIG 0 _ _ ls (big_i4 _) le0 hP hS (lv_sub hl [0, 1] rfl) hF
theorem hd_X7_isAnyBlockedV : yX7_isAnyBlocked.cls = RX7 ∧ yX7_isAnyBlocked.cls ≠ "java/lang/invoke/MethodHandle" ∧ yX7_isAnyBlocked.cls ≠ "java/lang/invoke/VarHandle" ∧ (parseMethodDescriptor yX7_isAnyBlocked.desc).map (fun d => d.parameters.length) = some 0 := by decide +kernel
set_option maxHeartbeats 4000000 in
set_option maxRecDepth 100000 in
theorem c7_setTile (l : Launch) {D : va_G} {G : CY} {ad : Nat → Nat} {B0 : Nat} (hA : adOK B0 ad) (σ : Nat → Nat → Int32) (u : Nat → Int32) (a : Int32) (b : Int32) (c1 : Int32) (hO : okM u) : Met l yX7_setTile wsX7_setTile { frames := 6, cells := 0, slots := 0, locals := 134 } (va_Pc [.ref (ad (279)), .int a, .int b, .int c1] (Hp D G ad (va_up σ 16 u))) (va_Qi (fun (r : Int32) (z : Nat → Int32) => (r, z) = f7_setTile u a b c1 ∧ okM z) (fun (z : Nat → Int32) => Ho D G ad (va_up σ 16 z)) (AA B0)) 0 0 (AA B0) := by
  refine Met.ofW (cc := cX7_setTile) (maxL := 6) (ret := (some .int)) (by decide) rfl ?_
  intro p e s m args below meth c s₁ B hml hv
  obtain ⟨rfl, hP, hK, hN⟩ := hv
  have hx := B.exec
  have hb := B.bytes
  have hr := B.returns
  have hts := atoms_spec (ws := wsX7_setTile) B.pre
  have hown : s.vm.findClass RX7 = some m.cls := findClass_of_methodNamed B.named
  have hlocks := B.notSynchronized
  have inX7 : ∀ w ∈ wsX70, w ∈ wsX7_setTile := (fun w h => List.mem_cons_of_mem _ (List.mem_append_left _ (List.mem_append_right _ h)))
  have hP : va_P D vwCl (pool G ad (va_up σ 16 u)) s.heap := hP
  have hS : va_S (AA B0) s.heap s.heap [] := va_S.rf
  have hl := lv_entry ([.ref (ad (279)), .int a, .int b, .int c1]) (n := 6) (Nat.le_of_ble_eq_true rfl)
  rw [lg_entry_eq]
  generalize (lg_sl ([.ref (ad (279)), .int a, .int b, .int c1]) ++ List.replicate (6 - (lg_sl ([.ref (ad (279)), .int a, .int b, .int c1])).length) Slot.unset).toArray = ls at hl ⊢
  have hl : lv_has ls 6 [(0, .ref (ad (279))), (1, .int a), (2, .int b), (3, .int c1)] := hl
  obtain ⟨FF, hFF⟩ : ∃ z, z = f7_setTile u a b c1 := ⟨_, rfl⟩
  have hF := hFF.symm
  rw [f7_setTile] at hF
  refine lv_iload_n hx hb dX7_setTile_0 rfl (lv_at hl 1 rfl) ?_
  refine lv_iload_n hx hb dX7_setTile_1 rfl (lv_at hl 2 rfl) ?_
  refine va_calli (va_runS (As := [.int a, .int b]) (rest := []) ⟨hx, hb, hml, hown, hts⟩ (c7_isTile l hA (va_up σ 16 u) a b ) (va_cwS 2 hts gX7_setTile_X7_isTile rfl rfl rfl hd_X7_isTileS ⟨Nat.le_of_ble_eq_true rfl, Nat.le_of_ble_eq_true rfl⟩) ⟨hp_blind, hp_pre hK hN hP⟩ rfl rfl hl.1 rfl (lv_room (Nat.le_of_ble_eq_true rfl)) dX7_setTile_2 ⟨Nat.zero_le _, Nat.zero_le _⟩) hS (fun _ _ h => h) (fun _ h => h) (fun r2 _ t H locs ht hvm hw9 hB hz1 hk1 hS => ?_)
  have hP := ho_at ht hB
  obtain ⟨eq2, hb_r2⟩ := hw9
  have hF := bnd_s eq2 hF
  refine lv_if_ne (tgt := 14) hx hb dX7_setTile_5 (by decide) (fun c5 => ?_) (fun c5 => ?_)
  · have hF := iff_ c5 hF
    refine lv_iload_n hx hb dX7_setTile_14 rfl (lv_at hl 3 rfl) ?_
    refine lv_iconst (v := 0) hx hb dX7_setTile_15 (by decide) ?_
    refine lv_bipush (v := 10) hx hb dX7_setTile_16 (by decide) ?_
    refine va_calli (va_runS (As := [.int c1, .int 0, .int 10]) (rest := []) ⟨hx, hb, hml, hown, hts⟩ (c7_isBetween l hA (va_up σ 16 u) c1 0 10 ) (va_cwS 3 hts gX7_setTile_X7_isBetween rfl rfl rfl hd_X7_isBetweenS ⟨Nat.le_of_ble_eq_true rfl, Nat.le_of_ble_eq_true rfl⟩) ⟨hp_blind, hp_pre hK hN hP⟩ rfl rfl hl.1 rfl (lv_room (Nat.le_of_ble_eq_true rfl)) dX7_setTile_18 ⟨Nat.zero_le _, Nat.zero_le _⟩) hS (fun _ _ h => h) (fun _ h => h) (fun r18 _ t H locs ht hvm hw9 hB hz1 hk1 hS => ?_)
    have hP := ho_at ht hB
    obtain ⟨eq18, hb_r18⟩ := hw9
    have hF := bnd_s eq18 hF
    refine lv_if_ne (tgt := 30) hx hb dX7_setTile_21 (by decide) (fun c21 => ?_) (fun c21 => ?_)
    · have hF := iff_ c21 hF
      have htl := tile_in eq2 c5
      refine lv_bipush (v := 24) hx hb dX7_setTile_30 (by decide) ?_
      refine lv_iload_n hx hb dX7_setTile_32 rfl (lv_at hl 2 rfl) ?_
      refine lv_imul hx hb dX7_setTile_33 ?_
      refine lv_iload_n hx hb dX7_setTile_34 rfl (lv_at hl 1 rfl) ?_
      refine lv_iadd hx hb dX7_setTile_35 ?_
      refine lv_topi (fun v4_36 e_v4_36 => ?_)
      have hF := bnd_s e_v4_36 hF
      refine lv_istore (lv' := [(4, .int v4_36), (0, .ref (ad (279))), (1, .int a), (2, .int b), (3, .int c1)]) hx hb dX7_setTile_36 hl (by decide) rfl (fun ls hl => ?_)
      have hlt4 : v4_36.toNatClampNeg < 336 := by rw [e_v4_36]; exact tile_lt htl
      refine lv_aload_n hx hb dX7_setTile_38 rfl (lv_at hl 1 rfl) ?_
      refine va_get (D := D) (ci := 9) (C := RX7) (T := TX7) (N := 17) hx hb hts inX7 hown hK hP (279) c_279 rfl 1 (by decide) (hts (.fieldLink RX7 7 "TileRunnersModel" "world" "[I") (List.mem_of_getElem? (i := 1) rfl)) (fun _ h9 => h9) rfl dX7_setTile_39 ?_
      refine lv_iload hx hb dX7_setTile_42 (lv_at hl 0 rfl) ?_
      refine pald (n := 480) (o := 0) (t := v4_36.toNatClampNeg) (i := v4_36) hx hb hK hP c_280 (by rw [e_v4_36]; exact tile_vp htl) (Nat.zero_add _) dX7_setTile_44 ?_
      refine lv_topi (fun v5_45 e_v5_45 => ?_)
      have hF := bnd_s e_v5_45 hF
      refine lv_istore (lv' := [(5, .int v5_45), (4, .int v4_36), (0, .ref (ad (279))), (1, .int a), (2, .int b), (3, .int c1)]) hx hb dX7_setTile_45 hl (by decide) rfl (fun ls hl => ?_)
      refine lv_aload_n hx hb dX7_setTile_47 rfl (lv_at hl 2 rfl) ?_
      refine va_get (D := D) (ci := 9) (C := RX7) (T := TX7) (N := 17) hx hb hts inX7 hown hK hP (279) c_279 rfl 1 (by decide) (hts (.fieldLink RX7 7 "TileRunnersModel" "world" "[I") (List.mem_of_getElem? (i := 1) rfl)) (fun _ h9 => h9) rfl dX7_setTile_48 ?_
      refine lv_iload hx hb dX7_setTile_51 (lv_at hl 1 rfl) ?_
      refine lv_iload_n hx hb dX7_setTile_53 rfl (lv_at hl 5 rfl) ?_
      have hin9 : vp_in v4_36 480 := (by rw [e_v4_36]; exact tile_vp htl)
      refine past16 (n := 480) (o := 0) (t := v4_36.toNatClampNeg) hx hb hK hP hA hS (j := 280) (by decide) (by decide) (fun _ _ => rfl) (fun k9 hk9 => by unfold own16; repeat first | rw [if_pos (by omega)] | rw [if_neg (by omega)]) hin9 (Nat.zero_add _) dX7_setTile_54 (fun u9 H locs eu9 hP hS => ?_)
      have hlt9 := in_lt hin9
      obtain ⟨u54, e_u54⟩ : ∃ z, z = u9 := ⟨_, rfl⟩
      rw [← e_u54] at hP eu9
      have hF := bnd_s eu9 hF
      have hO := okM_up eu9 hO (by omega) (by omega) (by omega)
      refine lv_aload_n hx hb dX7_setTile_55 rfl (lv_at hl 2 rfl) ?_
      refine va_calli (va_runV (As := []) (rest := []) ⟨hx, hb, hml, hown, hts⟩ (c7_isAnyBlocked l hA σ u54  hO) (cwV 0 hts gX7_setTile_X7_isAnyBlocked rfl rfl rfl hd_X7_isAnyBlockedV ⟨Nat.le_of_ble_eq_true rfl, Nat.le_of_ble_eq_true rfl⟩) ⟨hp_blind, va_recv hK hP (ci := 9) (q0 := 279) rfl c_279, hp_pre hK hN hP⟩ rfl rfl hl.1 rfl (lv_room (Nat.le_of_ble_eq_true rfl)) dX7_setTile_56 ⟨Nat.zero_le _, Nat.zero_le _⟩) hS (fun _ _ h => h) (fun _ h => h) (fun r56 _ t H locs ht hvm hw9 hB hz1 hk1 hS => ?_)
      have hP := ho_at ht hB
      obtain ⟨eq56, hb_r56⟩ := hw9
      have hF := bnd_s eq56 hF
      refine lv_if_eq (tgt := 77) hx hb dX7_setTile_59 (by decide) (fun c59 => ?_) (fun c59 => ?_)
      · have hF := ift c59 hF
        refine lv_aload_n hx hb dX7_setTile_77 rfl (lv_at hl 2 rfl) ?_
        refine lv_iconst (v := 0) hx hb dX7_setTile_78 (by decide) ?_
        refine pput16 hx hb hts inX7 tyX7 tyX7_ok nmX7 hown hK hP hA hS (j := 279) (by decide) (by decide) rfl rfl 0 (by decide) (hts (.fieldLink RX7 45 "TileRunnersModel" "thrown" "I") (List.mem_of_getElem? (i := 2) rfl)) (fun _ h9 => h9) rfl (tyX7_ok 0 (by decide)) rfl rfl (Nat.le_of_ble_eq_true rfl) (490) (by decide) (setM_0) dX7_setTile_79 (fun u9 H locs eu9 hP hS => ?_)
        obtain ⟨u79, e_u79⟩ : ∃ z, z = u9 := ⟨_, rfl⟩
        rw [← e_u79] at hP eu9
        have hF := bnd_s eu9 hF
        have hO := okM_up eu9 hO (by omega) (by omega) (by omega)
        refine lv_aload_n hx hb dX7_setTile_82 rfl (lv_at hl 2 rfl) ?_
        refine lv_iconst (v := 0) hx hb dX7_setTile_83 (by decide) ?_
        refine pput16 hx hb hts inX7 tyX7 tyX7_ok nmX7 hown hK hP hA hS (j := 279) (by decide) (by decide) rfl rfl 8 (by decide) (hts (.fieldLink RX7 208 "TileRunnersModel" "kept" "I") (List.mem_of_getElem? (i := 3) rfl)) (fun _ h9 => h9) rfl (tyX7_ok 8 (by decide)) rfl rfl (Nat.le_of_ble_eq_true rfl) (491) (by decide) (setM_8) dX7_setTile_84 (fun u9 H locs eu9 hP hS => ?_)
        obtain ⟨u84, e_u84⟩ : ∃ z, z = u9 := ⟨_, rfl⟩
        rw [← e_u84] at hP eu9
        have hF := bnd_s eu9 hF
        have hO := okM_491 eu9 hO (by decide)
        refine lv_iload hx hb dX7_setTile_87 (lv_at hl 0 rfl) ?_
        exact W.iret (v := v5_45) hx hb hr (fun t ht hW => ⟨⟨v5_45, u84, rfl, ⟨hF.trans hFF, hO⟩, ho_of ht hP⟩, hS.F ht⟩) hS.2.2 dX7_setTile_89
      · have hF := iff_ c59 hF
        refine lv_aload_n hx hb dX7_setTile_62 rfl (lv_at hl 2 rfl) ?_
        refine va_get (D := D) (ci := 9) (C := RX7) (T := TX7) (N := 17) hx hb hts inX7 hown hK hP (279) c_279 rfl 1 (by decide) (hts (.fieldLink RX7 7 "TileRunnersModel" "world" "[I") (List.mem_of_getElem? (i := 1) rfl)) (fun _ h9 => h9) rfl dX7_setTile_63 ?_
        refine lv_iload hx hb dX7_setTile_66 (lv_at hl 1 rfl) ?_
        refine lv_iload hx hb dX7_setTile_68 (lv_at hl 0 rfl) ?_
        have hin9 : vp_in v4_36 480 := (by rw [e_v4_36]; exact tile_vp htl)
        refine past16 (n := 480) (o := 0) (t := v4_36.toNatClampNeg) hx hb hK hP hA hS (j := 280) (by decide) (by decide) (fun _ _ => rfl) (fun k9 hk9 => by unfold own16; repeat first | rw [if_pos (by omega)] | rw [if_neg (by omega)]) hin9 (Nat.zero_add _) dX7_setTile_70 (fun u9 H locs eu9 hP hS => ?_)
        have hlt9 := in_lt hin9
        obtain ⟨u70, e_u70⟩ : ∃ z, z = u9 := ⟨_, rfl⟩
        rw [← e_u70] at hP eu9
        have hF := bnd_s eu9 hF
        have hO := okM_up eu9 hO (by omega) (by omega) (by omega)
        refine lv_aload_n hx hb dX7_setTile_71 rfl (lv_at hl 2 rfl) ?_
        refine lv_iconst (v := 3) hx hb dX7_setTile_72 (by decide) ?_
        refine va_calli (va_runV (As := [.int 3]) (rest := []) ⟨hx, hb, hml, hown, hts⟩ (c7_fails l hA σ u70 3 hO) (cwV 1 hts gX7_setTile_X7_fails rfl rfl rfl hd_X7_failsV ⟨Nat.le_of_ble_eq_true rfl, Nat.le_of_ble_eq_true rfl⟩) ⟨hp_blind, va_recv hK hP (ci := 9) (q0 := 279) rfl c_279, hp_pre hK hN hP⟩ rfl rfl hl.1 rfl (lv_room (Nat.le_of_ble_eq_true rfl)) dX7_setTile_73 ⟨Nat.zero_le _, Nat.zero_le _⟩) hS (fun _ _ h => h) (fun _ h => h) (fun r73 u9 t H locs ht hvm hw9 hB hz1 hk1 hS => ?_)
        have hP := ho_at ht hB
        obtain ⟨eq73, ok9⟩ := hw9
        obtain ⟨u73, e_u73⟩ : ∃ z, z = u9 := ⟨_, rfl⟩
        rw [← e_u73] at hP eq73 ok9
        have hO := ok9
        have hF := bnd2_s eq73 hF
        exact W.iret (v := r73) hx hb hr (fun t ht hW => ⟨⟨r73, u73, rfl, ⟨hF.trans hFF, hO⟩, ho_of ht hP⟩, hS.F ht⟩) hS.2.2 dX7_setTile_76
    · have hF := ift c21 hF
      refine lv_aload_n hx hb dX7_setTile_24 rfl (lv_at hl 0 rfl) ?_
      refine lv_iconst (v := 2) hx hb dX7_setTile_25 (by decide) ?_
      refine va_calli (va_runV (As := [.int 2]) (rest := []) ⟨hx, hb, hml, hown, hts⟩ (c7_fails l hA σ u 2 hO) (cwV 1 hts gX7_setTile_X7_fails rfl rfl rfl hd_X7_failsV ⟨Nat.le_of_ble_eq_true rfl, Nat.le_of_ble_eq_true rfl⟩) ⟨hp_blind, va_recv hK hP (ci := 9) (q0 := 279) rfl c_279, hp_pre hK hN hP⟩ rfl rfl hl.1 rfl (lv_room (Nat.le_of_ble_eq_true rfl)) dX7_setTile_26 ⟨Nat.zero_le _, Nat.zero_le _⟩) hS (fun _ _ h => h) (fun _ h => h) (fun r26 u9 t H locs ht hvm hw9 hB hz1 hk1 hS => ?_)
      have hP := ho_at ht hB
      obtain ⟨eq26, ok9⟩ := hw9
      obtain ⟨u26, e_u26⟩ : ∃ z, z = u9 := ⟨_, rfl⟩
      rw [← e_u26] at hP eq26 ok9
      have hO := ok9
      have hF := bnd2_s eq26 hF
      exact W.iret (v := r26) hx hb hr (fun t ht hW => ⟨⟨r26, u26, rfl, ⟨hF.trans hFF, hO⟩, ho_of ht hP⟩, hS.F ht⟩) hS.2.2 dX7_setTile_29
  · have hF := ift c5 hF
    refine lv_aload_n hx hb dX7_setTile_8 rfl (lv_at hl 0 rfl) ?_
    refine lv_iconst (v := 1) hx hb dX7_setTile_9 (by decide) ?_
    refine va_calli (va_runV (As := [.int 1]) (rest := []) ⟨hx, hb, hml, hown, hts⟩ (c7_fails l hA σ u 1 hO) (cwV 1 hts gX7_setTile_X7_fails rfl rfl rfl hd_X7_failsV ⟨Nat.le_of_ble_eq_true rfl, Nat.le_of_ble_eq_true rfl⟩) ⟨hp_blind, va_recv hK hP (ci := 9) (q0 := 279) rfl c_279, hp_pre hK hN hP⟩ rfl rfl hl.1 rfl (lv_room (Nat.le_of_ble_eq_true rfl)) dX7_setTile_10 ⟨Nat.zero_le _, Nat.zero_le _⟩) hS (fun _ _ h => h) (fun _ h => h) (fun r10 u9 t H locs ht hvm hw9 hB hz1 hk1 hS => ?_)
    have hP := ho_at ht hB
    obtain ⟨eq10, ok9⟩ := hw9
    obtain ⟨u10, e_u10⟩ : ∃ z, z = u9 := ⟨_, rfl⟩
    rw [← e_u10] at hP eq10 ok9
    have hO := ok9
    have hF := bnd2_s eq10 hF
    exact W.iret (v := r10) hx hb hr (fun t ht hW => ⟨⟨r10, u10, rfl, ⟨hF.trans hFF, hO⟩, ho_of ht hP⟩, hS.F ht⟩) hS.2.2 dX7_setTile_13
theorem hd_X7_setTileV : yX7_setTile.cls = RX7 ∧ yX7_setTile.cls ≠ "java/lang/invoke/MethodHandle" ∧ yX7_setTile.cls ≠ "java/lang/invoke/VarHandle" ∧ (parseMethodDescriptor yX7_setTile.desc).map (fun d => d.parameters.length) = some 3 := by decide +kernel
set_option maxHeartbeats 4000000 in
set_option maxRecDepth 100000 in
theorem c7_tile (l : Launch) {D : va_G} {G : CY} {ad : Nat → Nat} {B0 : Nat} (hA : adOK B0 ad) (σ : Nat → Nat → Int32) (u : Nat → Int32) (a : Int32) (b : Int32) (hO : okM u) : Met l yX7_tile wsX7_tile { frames := 1, cells := 0, slots := 0, locals := 21 } (va_Pc [.ref (ad (279)), .int a, .int b] (Hp D G ad (va_up σ 16 u))) (va_Qi (fun (r : Int32) (z : Nat → Int32) => (r, z) = f7_tile u a b ∧ okM z) (fun (z : Nat → Int32) => Ho D G ad (va_up σ 16 z)) (AA B0)) 0 0 (AA B0) := by
  refine Met.ofW (cc := cX7_tile) (maxL := 3) (ret := (some .int)) (by decide) rfl ?_
  intro p e s m args below meth c s₁ B hml hv
  obtain ⟨rfl, hP, hK, hN⟩ := hv
  have hx := B.exec
  have hb := B.bytes
  have hr := B.returns
  have hts := atoms_spec (ws := wsX7_tile) B.pre
  have hown : s.vm.findClass RX7 = some m.cls := findClass_of_methodNamed B.named
  have hlocks := B.notSynchronized
  have inX7 : ∀ w ∈ wsX70, w ∈ wsX7_tile := (fun w h => List.mem_cons_of_mem _ (List.mem_append_left _ (List.mem_append_right _ h)))
  have hP : va_P D vwCl (pool G ad (va_up σ 16 u)) s.heap := hP
  have hS : va_S (AA B0) s.heap s.heap [] := va_S.rf
  have hl := lv_entry ([.ref (ad (279)), .int a, .int b]) (n := 3) (Nat.le_of_ble_eq_true rfl)
  rw [lg_entry_eq]
  generalize (lg_sl ([.ref (ad (279)), .int a, .int b]) ++ List.replicate (3 - (lg_sl ([.ref (ad (279)), .int a, .int b])).length) Slot.unset).toArray = ls at hl ⊢
  have hl : lv_has ls 3 [(0, .ref (ad (279))), (1, .int a), (2, .int b)] := hl
  obtain ⟨FF, hFF⟩ : ∃ z, z = f7_tile u a b := ⟨_, rfl⟩
  have hF := hFF.symm
  rw [f7_tile] at hF
  refine lv_iload_n hx hb dX7_tile_0 rfl (lv_at hl 1 rfl) ?_
  refine lv_iload_n hx hb dX7_tile_1 rfl (lv_at hl 2 rfl) ?_
  refine va_calli (va_runS (As := [.int a, .int b]) (rest := []) ⟨hx, hb, hml, hown, hts⟩ (c7_isTile l hA (va_up σ 16 u) a b ) (va_cwS 2 hts gX7_tile_X7_isTile rfl rfl rfl hd_X7_isTileS ⟨Nat.le_of_ble_eq_true rfl, Nat.le_of_ble_eq_true rfl⟩) ⟨hp_blind, hp_pre hK hN hP⟩ rfl rfl hl.1 rfl (lv_room (Nat.le_of_ble_eq_true rfl)) dX7_tile_2 ⟨Nat.zero_le _, Nat.zero_le _⟩) hS (fun _ _ h => h) (fun _ h => h) (fun r2 _ t H locs ht hvm hw9 hB hz1 hk1 hS => ?_)
  have hP := ho_at ht hB
  obtain ⟨eq2, hb_r2⟩ := hw9
  have hF := bnd_s eq2 hF
  refine lv_if_ne (tgt := 14) hx hb dX7_tile_5 (by decide) (fun c5 => ?_) (fun c5 => ?_)
  · have hF := iff_ c5 hF
    refine lv_aload_n hx hb dX7_tile_14 rfl (lv_at hl 0 rfl) ?_
    refine lv_iconst (v := 0) hx hb dX7_tile_15 (by decide) ?_
    refine pput16 hx hb hts inX7 tyX7 tyX7_ok nmX7 hown hK hP hA hS (j := 279) (by decide) (by decide) rfl rfl 0 (by decide) (hts (.fieldLink RX7 45 "TileRunnersModel" "thrown" "I") (List.mem_of_getElem? (i := 1) rfl)) (fun _ h9 => h9) rfl (tyX7_ok 0 (by decide)) rfl rfl (Nat.le_of_ble_eq_true rfl) (490) (by decide) (setM_0) dX7_tile_16 (fun u9 H locs eu9 hP hS => ?_)
    obtain ⟨u16, e_u16⟩ : ∃ z, z = u9 := ⟨_, rfl⟩
    rw [← e_u16] at hP eu9
    have hF := bnd_s eu9 hF
    have hO := okM_up eu9 hO (by omega) (by omega) (by omega)
    refine lv_aload_n hx hb dX7_tile_19 rfl (lv_at hl 0 rfl) ?_
    refine va_get (D := D) (ci := 9) (C := RX7) (T := TX7) (N := 17) hx hb hts inX7 hown hK hP (279) c_279 rfl 1 (by decide) (hts (.fieldLink RX7 7 "TileRunnersModel" "world" "[I") (List.mem_of_getElem? (i := 2) rfl)) (fun _ h9 => h9) rfl dX7_tile_20 ?_
    refine lv_bipush (v := 24) hx hb dX7_tile_23 (by decide) ?_
    refine lv_iload_n hx hb dX7_tile_25 rfl (lv_at hl 2 rfl) ?_
    refine lv_imul hx hb dX7_tile_26 ?_
    refine lv_iload_n hx hb dX7_tile_27 rfl (lv_at hl 1 rfl) ?_
    refine lv_iadd hx hb dX7_tile_28 ?_
    refine pald (n := 480) (o := 0) (t := ((24 * b) + a).toNatClampNeg) (i := ((24 * b) + a)) hx hb hK hP c_280 (tile_vp (tile_in eq2 c5)) (Nat.zero_add _) dX7_tile_29 ?_
    exact W.iret (v := (u16 (((24 * b) + a).toNatClampNeg))) hx hb hr (fun t ht hW => ⟨⟨(u16 (((24 * b) + a).toNatClampNeg)), u16, rfl, ⟨hF.trans hFF, hO⟩, ho_of ht hP⟩, hS.F ht⟩) hS.2.2 dX7_tile_30
  · have hF := ift c5 hF
    refine lv_aload_n hx hb dX7_tile_8 rfl (lv_at hl 0 rfl) ?_
    refine lv_iconst (v := 1) hx hb dX7_tile_9 (by decide) ?_
    refine va_calli (va_runV (As := [.int 1]) (rest := []) ⟨hx, hb, hml, hown, hts⟩ (c7_fails l hA σ u 1 hO) (cwV 1 hts gX7_tile_X7_fails rfl rfl rfl hd_X7_failsV ⟨Nat.le_of_ble_eq_true rfl, Nat.le_of_ble_eq_true rfl⟩) ⟨hp_blind, va_recv hK hP (ci := 9) (q0 := 279) rfl c_279, hp_pre hK hN hP⟩ rfl rfl hl.1 rfl (lv_room (Nat.le_of_ble_eq_true rfl)) dX7_tile_10 ⟨Nat.zero_le _, Nat.zero_le _⟩) hS (fun _ _ h => h) (fun _ h => h) (fun r10 u9 t H locs ht hvm hw9 hB hz1 hk1 hS => ?_)
    have hP := ho_at ht hB
    obtain ⟨eq10, ok9⟩ := hw9
    obtain ⟨u10, e_u10⟩ : ∃ z, z = u9 := ⟨_, rfl⟩
    rw [← e_u10] at hP eq10 ok9
    have hO := ok9
    have hF := bnd2_s eq10 hF
    exact W.iret (v := r10) hx hb hr (fun t ht hW => ⟨⟨r10, u10, rfl, ⟨hF.trans hFF, hO⟩, ho_of ht hP⟩, hS.F ht⟩) hS.2.2 dX7_tile_13
theorem hd_X7_tileV : yX7_tile.cls = RX7 ∧ yX7_tile.cls ≠ "java/lang/invoke/MethodHandle" ∧ yX7_tile.cls ≠ "java/lang/invoke/VarHandle" ∧ (parseMethodDescriptor yX7_tile.desc).map (fun d => d.parameters.length) = some 2 := by decide +kernel
set_option maxHeartbeats 4000000 in
set_option maxRecDepth 100000 in
theorem c7_addBody (l : Launch) {D : va_G} {G : CY} {ad : Nat → Nat} {B0 : Nat} (hA : adOK B0 ad) (σ : Nat → Nat → Int32) (u : Nat → Int32) (a : Int32) (b : Int32) (c1 : Int32) (d : Int32) (hO : okM u) : Met l yX7_addBody wsX7_addBody { frames := 5, cells := 0, slots := 0, locals := 113 } (va_Pc [.ref (ad (279)), .int a, .int b, .int c1, .int d] (Hp D G ad (va_up σ 16 u))) (va_Qi (fun (r : Int32) (z : Nat → Int32) => (r, z) = f7_addBody u a b c1 d ∧ okM z) (fun (z : Nat → Int32) => Ho D G ad (va_up σ 16 z)) (AA B0)) 0 0 (AA B0) := by
  refine Met.ofW (cc := cX7_addBody) (maxL := 7) (ret := (some .int)) (by decide) rfl ?_
  intro p e s m args below meth c s₁ B hml hv
  obtain ⟨rfl, hP, hK, hN⟩ := hv
  have hx := B.exec
  have hb := B.bytes
  have hr := B.returns
  have hts := atoms_spec (ws := wsX7_addBody) B.pre
  have hown : s.vm.findClass RX7 = some m.cls := findClass_of_methodNamed B.named
  have hlocks := B.notSynchronized
  have inX7 : ∀ w ∈ wsX70, w ∈ wsX7_addBody := (fun w h => List.mem_cons_of_mem _ (List.mem_append_left _ (List.mem_append_right _ h)))
  have hP : va_P D vwCl (pool G ad (va_up σ 16 u)) s.heap := hP
  have hS : va_S (AA B0) s.heap s.heap [] := va_S.rf
  have hl := lv_entry ([.ref (ad (279)), .int a, .int b, .int c1, .int d]) (n := 7) (Nat.le_of_ble_eq_true rfl)
  rw [lg_entry_eq]
  generalize (lg_sl ([.ref (ad (279)), .int a, .int b, .int c1, .int d]) ++ List.replicate (7 - (lg_sl ([.ref (ad (279)), .int a, .int b, .int c1, .int d])).length) Slot.unset).toArray = ls at hl ⊢
  have hl : lv_has ls 7 [(0, .ref (ad (279))), (1, .int a), (2, .int b), (3, .int c1), (4, .int d)] := hl
  obtain ⟨FF, hFF⟩ : ∃ z, z = f7_addBody u a b c1 d := ⟨_, rfl⟩
  have hF := hFF.symm
  rw [f7_addBody] at hF
  refine lv_iload_n hx hb dX7_addBody_0 rfl (lv_at hl 1 rfl) ?_
  refine lv_iconst (v := 0) hx hb dX7_addBody_1 (by decide) ?_
  refine lv_sipush (v := 383) hx hb dX7_addBody_2 (by decide) ?_
  refine va_calli (va_runS (As := [.int a, .int 0, .int 383]) (rest := []) ⟨hx, hb, hml, hown, hts⟩ (c7_isBetween l hA (va_up σ 16 u) a 0 383 ) (va_cwS 3 hts gX7_addBody_X7_isBetween rfl rfl rfl hd_X7_isBetweenS ⟨Nat.le_of_ble_eq_true rfl, Nat.le_of_ble_eq_true rfl⟩) ⟨hp_blind, hp_pre hK hN hP⟩ rfl rfl hl.1 rfl (lv_room (Nat.le_of_ble_eq_true rfl)) dX7_addBody_5 ⟨Nat.zero_le _, Nat.zero_le _⟩) hS (fun _ _ h => h) (fun _ h => h) (fun r5 _ t H locs ht hvm hw9 hB hz1 hk1 hS => ?_)
  have hP := ho_at ht hB
  obtain ⟨eq5, hb_r5⟩ := hw9
  have hF := bnd_s eq5 hF
  refine lv_if_eq (tgt := 43) hx hb dX7_addBody_8 (by decide) (fun c8 => ?_) (fun c8 => ?_)
  · have hF := ift c8 hF
    refine lv_aload_n hx hb dX7_addBody_43 rfl (lv_at hl 0 rfl) ?_
    refine lv_iconst (v := 1) hx hb dX7_addBody_44 (by decide) ?_
    refine va_calli (va_runV (As := [.int 1]) (rest := []) ⟨hx, hb, hml, hown, hts⟩ (c7_fails l hA σ u 1 hO) (cwV 1 hts gX7_addBody_X7_fails rfl rfl rfl hd_X7_failsV ⟨Nat.le_of_ble_eq_true rfl, Nat.le_of_ble_eq_true rfl⟩) ⟨hp_blind, va_recv hK hP (ci := 9) (q0 := 279) rfl c_279, hp_pre hK hN hP⟩ rfl rfl hl.1 rfl (lv_room (Nat.le_of_ble_eq_true rfl)) dX7_addBody_45 ⟨Nat.zero_le _, Nat.zero_le _⟩) hS (fun _ _ h => h) (fun _ h => h) (fun r45 u9 t H locs ht hvm hw9 hB hz1 hk1 hS => ?_)
    have hP := ho_at ht hB
    obtain ⟨eq45, ok9⟩ := hw9
    obtain ⟨u45, e_u45⟩ : ∃ z, z = u9 := ⟨_, rfl⟩
    rw [← e_u45] at hP eq45 ok9
    have hO := ok9
    have hF := bnd2_s eq45 hF
    exact W.iret (v := r45) hx hb hr (fun t ht hW => ⟨⟨r45, u45, rfl, ⟨hF.trans hFF, hO⟩, ho_of ht hP⟩, hS.F ht⟩) hS.2.2 dX7_addBody_48
  · have hF := iff_ c8 hF
    refine lv_iload_n hx hb dX7_addBody_11 rfl (lv_at hl 2 rfl) ?_
    refine lv_iconst (v := 0) hx hb dX7_addBody_12 (by decide) ?_
    refine lv_sipush (v := 223) hx hb dX7_addBody_13 (by decide) ?_
    refine va_calli (va_runS (As := [.int b, .int 0, .int 223]) (rest := []) ⟨hx, hb, hml, hown, hts⟩ (c7_isBetween l hA (va_up σ 16 u) b 0 223 ) (va_cwS 3 hts gX7_addBody_X7_isBetween rfl rfl rfl hd_X7_isBetweenS ⟨Nat.le_of_ble_eq_true rfl, Nat.le_of_ble_eq_true rfl⟩) ⟨hp_blind, hp_pre hK hN hP⟩ rfl rfl hl.1 rfl (lv_room (Nat.le_of_ble_eq_true rfl)) dX7_addBody_16 ⟨Nat.zero_le _, Nat.zero_le _⟩) hS (fun _ _ h => h) (fun _ h => h) (fun r16 _ t H locs ht hvm hw9 hB hz1 hk1 hS => ?_)
    have hP := ho_at ht hB
    obtain ⟨eq16, hb_r16⟩ := hw9
    have hF := bnd_s eq16 hF
    refine lv_if_eq (tgt := 43) hx hb dX7_addBody_19 (by decide) (fun c19 => ?_) (fun c19 => ?_)
    · have hF := ift c19 hF
      refine lv_aload_n hx hb dX7_addBody_43 rfl (lv_at hl 0 rfl) ?_
      refine lv_iconst (v := 1) hx hb dX7_addBody_44 (by decide) ?_
      refine va_calli (va_runV (As := [.int 1]) (rest := []) ⟨hx, hb, hml, hown, hts⟩ (c7_fails l hA σ u 1 hO) (cwV 1 hts gX7_addBody_X7_fails rfl rfl rfl hd_X7_failsV ⟨Nat.le_of_ble_eq_true rfl, Nat.le_of_ble_eq_true rfl⟩) ⟨hp_blind, va_recv hK hP (ci := 9) (q0 := 279) rfl c_279, hp_pre hK hN hP⟩ rfl rfl hl.1 rfl (lv_room (Nat.le_of_ble_eq_true rfl)) dX7_addBody_45 ⟨Nat.zero_le _, Nat.zero_le _⟩) hS (fun _ _ h => h) (fun _ h => h) (fun r45 u9 t H locs ht hvm hw9 hB hz1 hk1 hS => ?_)
      have hP := ho_at ht hB
      obtain ⟨eq45, ok9⟩ := hw9
      obtain ⟨u45, e_u45⟩ : ∃ z, z = u9 := ⟨_, rfl⟩
      rw [← e_u45] at hP eq45 ok9
      have hO := ok9
      have hF := bnd2_s eq45 hF
      exact W.iret (v := r45) hx hb hr (fun t ht hW => ⟨⟨r45, u45, rfl, ⟨hF.trans hFF, hO⟩, ho_of ht hP⟩, hS.F ht⟩) hS.2.2 dX7_addBody_48
    · have hF := iff_ c19 hF
      refine lv_iload_n hx hb dX7_addBody_22 rfl (lv_at hl 3 rfl) ?_
      refine lv_iconst (v := 4) hx hb dX7_addBody_23 (by decide) ?_
      refine lv_bipush (v := 16) hx hb dX7_addBody_24 (by decide) ?_
      refine va_calli (va_runS (As := [.int c1, .int 4, .int 16]) (rest := []) ⟨hx, hb, hml, hown, hts⟩ (c7_isBetween l hA (va_up σ 16 u) c1 4 16 ) (va_cwS 3 hts gX7_addBody_X7_isBetween rfl rfl rfl hd_X7_isBetweenS ⟨Nat.le_of_ble_eq_true rfl, Nat.le_of_ble_eq_true rfl⟩) ⟨hp_blind, hp_pre hK hN hP⟩ rfl rfl hl.1 rfl (lv_room (Nat.le_of_ble_eq_true rfl)) dX7_addBody_26 ⟨Nat.zero_le _, Nat.zero_le _⟩) hS (fun _ _ h => h) (fun _ h => h) (fun r26 _ t H locs ht hvm hw9 hB hz1 hk1 hS => ?_)
      have hP := ho_at ht hB
      obtain ⟨eq26, hb_r26⟩ := hw9
      have hF := bnd_s eq26 hF
      refine lv_if_eq (tgt := 43) hx hb dX7_addBody_29 (by decide) (fun c29 => ?_) (fun c29 => ?_)
      · have hF := ift c29 hF
        refine lv_aload_n hx hb dX7_addBody_43 rfl (lv_at hl 0 rfl) ?_
        refine lv_iconst (v := 1) hx hb dX7_addBody_44 (by decide) ?_
        refine va_calli (va_runV (As := [.int 1]) (rest := []) ⟨hx, hb, hml, hown, hts⟩ (c7_fails l hA σ u 1 hO) (cwV 1 hts gX7_addBody_X7_fails rfl rfl rfl hd_X7_failsV ⟨Nat.le_of_ble_eq_true rfl, Nat.le_of_ble_eq_true rfl⟩) ⟨hp_blind, va_recv hK hP (ci := 9) (q0 := 279) rfl c_279, hp_pre hK hN hP⟩ rfl rfl hl.1 rfl (lv_room (Nat.le_of_ble_eq_true rfl)) dX7_addBody_45 ⟨Nat.zero_le _, Nat.zero_le _⟩) hS (fun _ _ h => h) (fun _ h => h) (fun r45 u9 t H locs ht hvm hw9 hB hz1 hk1 hS => ?_)
        have hP := ho_at ht hB
        obtain ⟨eq45, ok9⟩ := hw9
        obtain ⟨u45, e_u45⟩ : ∃ z, z = u9 := ⟨_, rfl⟩
        rw [← e_u45] at hP eq45 ok9
        have hO := ok9
        have hF := bnd2_s eq45 hF
        exact W.iret (v := r45) hx hb hr (fun t ht hW => ⟨⟨r45, u45, rfl, ⟨hF.trans hFF, hO⟩, ho_of ht hP⟩, hS.F ht⟩) hS.2.2 dX7_addBody_48
      · have hF := iff_ c29 hF
        refine lv_iload hx hb dX7_addBody_32 (lv_at hl 4 rfl) ?_
        refine lv_iconst (v := 4) hx hb dX7_addBody_34 (by decide) ?_
        refine lv_bipush (v := 28) hx hb dX7_addBody_35 (by decide) ?_
        refine va_calli (va_runS (As := [.int d, .int 4, .int 28]) (rest := []) ⟨hx, hb, hml, hown, hts⟩ (c7_isBetween l hA (va_up σ 16 u) d 4 28 ) (va_cwS 3 hts gX7_addBody_X7_isBetween rfl rfl rfl hd_X7_isBetweenS ⟨Nat.le_of_ble_eq_true rfl, Nat.le_of_ble_eq_true rfl⟩) ⟨hp_blind, hp_pre hK hN hP⟩ rfl rfl hl.1 rfl (lv_room (Nat.le_of_ble_eq_true rfl)) dX7_addBody_37 ⟨Nat.zero_le _, Nat.zero_le _⟩) hS (fun _ _ h => h) (fun _ h => h) (fun r37 _ t H locs ht hvm hw9 hB hz1 hk1 hS => ?_)
        have hP := ho_at ht hB
        obtain ⟨eq37, hb_r37⟩ := hw9
        have hF := bnd_s eq37 hF
        refine lv_if_ne (tgt := 49) hx hb dX7_addBody_40 (by decide) (fun c40 => ?_) (fun c40 => ?_)
        · have hF := iff_ c40 hF
          refine lv_aload_n hx hb dX7_addBody_49 rfl (lv_at hl 0 rfl) ?_
          refine va_get (D := D) (ci := 9) (C := RX7) (T := TX7) (N := 17) hx hb hts inX7 hown hK hP (279) c_279 rfl 1 (by decide) (hts (.fieldLink RX7 7 "TileRunnersModel" "world" "[I") (List.mem_of_getElem? (i := 1) rfl)) (fun _ h9 => h9) rfl dX7_addBody_50 ?_
          refine lv_sipush (v := 464) hx hb dX7_addBody_53 (by decide) ?_
          refine pald (n := 480) (o := 0) (t := 464) (i := 464) hx hb hK hP c_280 (vp_in_iff.mpr (by decide)) rfl dX7_addBody_56 ?_
          refine lv_topi (fun v5_57 e_v5_57 => ?_)
          have hF := bnd_s e_v5_57 hF
          refine lv_istore (lv' := [(5, .int v5_57), (0, .ref (ad (279))), (1, .int a), (2, .int b), (3, .int c1), (4, .int d)]) hx hb dX7_addBody_57 hl (by decide) rfl (fun ls hl => ?_)
          refine lv_iload hx hb dX7_addBody_59 (lv_at hl 0 rfl) ?_
          refine lv_iconst (v := 4) hx hb dX7_addBody_61 (by decide) ?_
          refine lv_icmp_ne (tgt := 71) hx hb dX7_addBody_62 (by decide) (fun c62 => ?_) (fun c62 => ?_)
          · have hF := iff_ c62 hF
            have hbv5_57 : vp_in v5_57 4 := cnt_in (y := u 464) hO.1.1 hO.1.2.1 e_v5_57 c62
            refine lv_iconst (v := 0) hx hb dX7_addBody_71 (by decide) ?_
            refine lv_istore (lv' := [(6, .int 0), (5, .int v5_57), (0, .ref (ad (279))), (1, .int a), (2, .int b), (3, .int c1), (4, .int d)]) hx hb dX7_addBody_72 hl (by decide) rfl (fun ls hl => ?_)
            have L74 : ∀ (n74 : Nat) (w6_74 : Int32) (u_74 : (Nat → Int32)) (H : Heap) (locs : List Loc) (ls : Array Slot), ((24 : Int32).toInt - w6_74.toInt).toNat < n74 → 0 ≤ w6_74 → u_74 464 = v5_57 → okM u_74 → va_P D vwCl (pool G ad (va_up σ 16 u_74)) H → va_S (AA B0) s.heap H locs → lv_has ls 7 [(6, .int w6_74), (5, .int v5_57), (0, .ref (ad (279))), (1, .int a), (2, .int b), (3, .int c1), (4, .int d)] → f7_addBody_L74 a b c1 d v5_57 n74 w6_74 u_74 = FF → W p l e (headSpec wsX7_addBody { frames := 5, cells := 0, slots := 0, locals := 113 }).room s m ([.ref (ad (279)), .int a, .int b, .int c1, .int d] : List Value).toArray below meth c H locs 0 0 (MQ below (va_Qi (fun (r : Int32) (z : Nat → Int32) => (r, z) = f7_addBody u a b c1 d ∧ okM z) (fun (z : Nat → Int32) => Ho D G ad (va_up σ 16 z)) (AA B0)) ([.ref (ad (279)), .int a, .int b, .int c1, .int d] : List Value).toArray s 0 0 (AA B0)) (F0 m 74 ls []) := by
              intro n74
              induction n74 with
              | zero => intro w6_74 u_74 H locs ls hm; exact absurd hm (Nat.not_lt_zero _)
              | succ n74 ih74 =>
                intro w6_74 u_74 H locs ls hm74 h6 hc hO hP hS hl hF
                rw [f7_addBody_L74] at hF
                refine lv_iload hx hb dX7_addBody_74 (lv_at hl 0 rfl) ?_
                refine lv_bipush (v := 24) hx hb dX7_addBody_76 (by decide) ?_
                refine lv_icmp_ge (tgt := 96) hx hb dX7_addBody_78 (by decide) (fun c78 => ?_) (fun c78 => ?_)
                · have hF := ift c78 hF
                  refine lv_aload_n hx hb dX7_addBody_96 rfl (lv_at hl 2 rfl) ?_
                  refine lv_iload hx hb dX7_addBody_97 (lv_at hl 1 rfl) ?_
                  refine lv_bipush (v := 7) hx hb dX7_addBody_99 (by decide) ?_
                  refine lv_iload_n hx hb dX7_addBody_101 rfl (lv_at hl 5 rfl) ?_
                  refine va_callv (va_runV (As := [.int v5_57, .int 7, .int c1]) (rest := []) ⟨hx, hb, hml, hown, hts⟩ (c7_sets l hA σ u_74 v5_57 7 c1 hO (vp_in_iff.mpr (by decide)) hbv5_57) (cwV 3 hts gX7_addBody_X7_sets rfl rfl rfl hd_X7_setsV ⟨Nat.le_of_ble_eq_true rfl, Nat.le_of_ble_eq_true rfl⟩) ⟨hp_blind, va_recv hK hP (ci := 9) (q0 := 279) rfl c_279, hp_pre hK hN hP⟩ rfl rfl hl.1 rfl (lv_room (Nat.le_of_ble_eq_true rfl)) dX7_addBody_102 ⟨Nat.zero_le _, Nat.zero_le _⟩) hS (fun _ _ h => h) (fun _ h => h) (fun u9 t H locs ht hvm hw9 hB hz1 hk1 hS => ?_)
                  have hP := ho_at ht hB
                  obtain ⟨eq102, ok9⟩ := hw9
                  obtain ⟨u102, e_u102⟩ : ∃ z, z = u9 := ⟨_, rfl⟩
                  rw [← e_u102] at hP eq102 ok9
                  have hO := ok9
                  have hF := bnd_s eq102 hF
                  refine lv_aload_n hx hb dX7_addBody_105 rfl (lv_at hl 2 rfl) ?_
                  refine lv_iload hx hb dX7_addBody_106 (lv_at hl 1 rfl) ?_
                  refine lv_bipush (v := 8) hx hb dX7_addBody_108 (by decide) ?_
                  refine lv_iload hx hb dX7_addBody_110 (lv_at hl 6 rfl) ?_
                  refine va_callv (va_runV (As := [.int v5_57, .int 8, .int d]) (rest := []) ⟨hx, hb, hml, hown, hts⟩ (c7_sets l hA σ u102 v5_57 8 d hO (vp_in_iff.mpr (by decide)) hbv5_57) (cwV 3 hts gX7_addBody_X7_sets rfl rfl rfl hd_X7_setsV ⟨Nat.le_of_ble_eq_true rfl, Nat.le_of_ble_eq_true rfl⟩) ⟨hp_blind, va_recv hK hP (ci := 9) (q0 := 279) rfl c_279, hp_pre hK hN hP⟩ rfl rfl hl.1 rfl (lv_room (Nat.le_of_ble_eq_true rfl)) dX7_addBody_112 ⟨Nat.zero_le _, Nat.zero_le _⟩) hS (fun _ _ h => h) (fun _ h => h) (fun u9 t H locs ht hvm hw9 hB hz1 hk1 hS => ?_)
                  have hP := ho_at ht hB
                  obtain ⟨eq112, ok9⟩ := hw9
                  obtain ⟨u112, e_u112⟩ : ∃ z, z = u9 := ⟨_, rfl⟩
                  rw [← e_u112] at hP eq112 ok9
                  have hO := ok9
                  have hF := bnd_s eq112 hF
                  refine lv_aload_n hx hb dX7_addBody_115 rfl (lv_at hl 2 rfl) ?_
                  refine lv_iload hx hb dX7_addBody_116 (lv_at hl 1 rfl) ?_
                  refine lv_iload_n hx hb dX7_addBody_118 rfl (lv_at hl 3 rfl) ?_
                  refine lv_iload_n hx hb dX7_addBody_119 rfl (lv_at hl 4 rfl) ?_
                  refine va_calli (va_runV (As := [.int v5_57, .int a, .int b]) (rest := []) ⟨hx, hb, hml, hown, hts⟩ (c7_blocks l hA σ u112 v5_57 a b hbv5_57) (cwV 3 hts gX7_addBody_X7_blocks rfl rfl rfl hd_X7_blocksV ⟨Nat.le_of_ble_eq_true rfl, Nat.le_of_ble_eq_true rfl⟩) ⟨hp_blind, va_recv hK hP (ci := 9) (q0 := 279) rfl c_279, hp_pre hK hN hP⟩ rfl rfl hl.1 rfl (lv_room (Nat.le_of_ble_eq_true rfl)) dX7_addBody_120 ⟨Nat.zero_le _, Nat.zero_le _⟩) hS (fun _ _ h => h) (fun _ h => h) (fun r120 _ t H locs ht hvm hw9 hB hz1 hk1 hS => ?_)
                  have hP := ho_at ht hB
                  obtain ⟨eq120, hb_r120⟩ := hw9
                  have hF := bnd_s eq120 hF
                  refine lv_if_eq (tgt := 132) hx hb dX7_addBody_123 (by decide) (fun c123 => ?_) (fun c123 => ?_)
                  · have hF := ift c123 hF
                    refine lv_aload_n hx hb dX7_addBody_132 rfl (lv_at hl 2 rfl) ?_
                    refine lv_iconst (v := 0) hx hb dX7_addBody_133 (by decide) ?_
                    refine pput16 hx hb hts inX7 tyX7 tyX7_ok nmX7 hown hK hP hA hS (j := 279) (by decide) (by decide) rfl rfl 0 (by decide) (hts (.fieldLink RX7 45 "TileRunnersModel" "thrown" "I") (List.mem_of_getElem? (i := 2) rfl)) (fun _ h9 => h9) rfl (tyX7_ok 0 (by decide)) rfl rfl (Nat.le_of_ble_eq_true rfl) (490) (by decide) (setM_0) dX7_addBody_134 (fun u9 H locs eu9 hP hS => ?_)
                    obtain ⟨u134, e_u134⟩ : ∃ z, z = u9 := ⟨_, rfl⟩
                    rw [← e_u134] at hP eu9
                    have hF := bnd_s eu9 hF
                    have eq134 := eu9
                    have hO := okM_up eu9 hO (by omega) (by omega) (by omega)
                    refine lv_aload_n hx hb dX7_addBody_137 rfl (lv_at hl 2 rfl) ?_
                    refine lv_iconst (v := 0) hx hb dX7_addBody_138 (by decide) ?_
                    refine pput16 hx hb hts inX7 tyX7 tyX7_ok nmX7 hown hK hP hA hS (j := 279) (by decide) (by decide) rfl rfl 8 (by decide) (hts (.fieldLink RX7 208 "TileRunnersModel" "kept" "I") (List.mem_of_getElem? (i := 3) rfl)) (fun _ h9 => h9) rfl (tyX7_ok 8 (by decide)) rfl rfl (Nat.le_of_ble_eq_true rfl) (491) (by decide) (setM_8) dX7_addBody_139 (fun u9 H locs eu9 hP hS => ?_)
                    obtain ⟨u139, e_u139⟩ : ∃ z, z = u9 := ⟨_, rfl⟩
                    rw [← e_u139] at hP eu9
                    have hF := bnd_s eu9 hF
                    have eq139 := eu9
                    have hO := okM_491 eu9 hO (by decide)
                    refine lv_aload_n hx hb dX7_addBody_142 rfl (lv_at hl 2 rfl) ?_
                    refine lv_iload hx hb dX7_addBody_143 (lv_at hl 1 rfl) ?_
                    refine lv_iconst (v := 0) hx hb dX7_addBody_145 (by decide) ?_
                    refine lv_iload_n hx hb dX7_addBody_146 rfl (lv_at hl 3 rfl) ?_
                    refine va_callv (va_runV (As := [.int v5_57, .int 0, .int a]) (rest := []) ⟨hx, hb, hml, hown, hts⟩ (c7_sets l hA σ u139 v5_57 0 a hO (vp_in_iff.mpr (by decide)) hbv5_57) (cwV 3 hts gX7_addBody_X7_sets rfl rfl rfl hd_X7_setsV ⟨Nat.le_of_ble_eq_true rfl, Nat.le_of_ble_eq_true rfl⟩) ⟨hp_blind, va_recv hK hP (ci := 9) (q0 := 279) rfl c_279, hp_pre hK hN hP⟩ rfl rfl hl.1 rfl (lv_room (Nat.le_of_ble_eq_true rfl)) dX7_addBody_147 ⟨Nat.zero_le _, Nat.zero_le _⟩) hS (fun _ _ h => h) (fun _ h => h) (fun u9 t H locs ht hvm hw9 hB hz1 hk1 hS => ?_)
                    have hP := ho_at ht hB
                    obtain ⟨eq147, ok9⟩ := hw9
                    obtain ⟨u147, e_u147⟩ : ∃ z, z = u9 := ⟨_, rfl⟩
                    rw [← e_u147] at hP eq147 ok9
                    have hO := ok9
                    have hF := bnd_s eq147 hF
                    refine lv_aload_n hx hb dX7_addBody_150 rfl (lv_at hl 2 rfl) ?_
                    refine lv_iload hx hb dX7_addBody_151 (lv_at hl 1 rfl) ?_
                    refine lv_iconst (v := 1) hx hb dX7_addBody_153 (by decide) ?_
                    refine lv_iload_n hx hb dX7_addBody_154 rfl (lv_at hl 4 rfl) ?_
                    refine va_callv (va_runV (As := [.int v5_57, .int 1, .int b]) (rest := []) ⟨hx, hb, hml, hown, hts⟩ (c7_sets l hA σ u147 v5_57 1 b hO (vp_in_iff.mpr (by decide)) hbv5_57) (cwV 3 hts gX7_addBody_X7_sets rfl rfl rfl hd_X7_setsV ⟨Nat.le_of_ble_eq_true rfl, Nat.le_of_ble_eq_true rfl⟩) ⟨hp_blind, va_recv hK hP (ci := 9) (q0 := 279) rfl c_279, hp_pre hK hN hP⟩ rfl rfl hl.1 rfl (lv_room (Nat.le_of_ble_eq_true rfl)) dX7_addBody_155 ⟨Nat.zero_le _, Nat.zero_le _⟩) hS (fun _ _ h => h) (fun _ h => h) (fun u9 t H locs ht hvm hw9 hB hz1 hk1 hS => ?_)
                    have hP := ho_at ht hB
                    obtain ⟨eq155, ok9⟩ := hw9
                    obtain ⟨u155, e_u155⟩ : ∃ z, z = u9 := ⟨_, rfl⟩
                    rw [← e_u155] at hP eq155 ok9
                    have hO := ok9
                    have hF := bnd_s eq155 hF
                    refine lv_aload_n hx hb dX7_addBody_158 rfl (lv_at hl 2 rfl) ?_
                    refine lv_iload hx hb dX7_addBody_159 (lv_at hl 1 rfl) ?_
                    refine lv_bipush (v := 12) hx hb dX7_addBody_161 (by decide) ?_
                    refine lv_iload_n hx hb dX7_addBody_163 rfl (lv_at hl 3 rfl) ?_
                    refine va_callv (va_runV (As := [.int v5_57, .int 12, .int a]) (rest := []) ⟨hx, hb, hml, hown, hts⟩ (c7_sets l hA σ u155 v5_57 12 a hO (vp_in_iff.mpr (by decide)) hbv5_57) (cwV 3 hts gX7_addBody_X7_sets rfl rfl rfl hd_X7_setsV ⟨Nat.le_of_ble_eq_true rfl, Nat.le_of_ble_eq_true rfl⟩) ⟨hp_blind, va_recv hK hP (ci := 9) (q0 := 279) rfl c_279, hp_pre hK hN hP⟩ rfl rfl hl.1 rfl (lv_room (Nat.le_of_ble_eq_true rfl)) dX7_addBody_164 ⟨Nat.zero_le _, Nat.zero_le _⟩) hS (fun _ _ h => h) (fun _ h => h) (fun u9 t H locs ht hvm hw9 hB hz1 hk1 hS => ?_)
                    have hP := ho_at ht hB
                    obtain ⟨eq164, ok9⟩ := hw9
                    obtain ⟨u164, e_u164⟩ : ∃ z, z = u9 := ⟨_, rfl⟩
                    rw [← e_u164] at hP eq164 ok9
                    have hO := ok9
                    have hF := bnd_s eq164 hF
                    refine lv_aload_n hx hb dX7_addBody_167 rfl (lv_at hl 2 rfl) ?_
                    refine lv_iload hx hb dX7_addBody_168 (lv_at hl 1 rfl) ?_
                    refine lv_bipush (v := 13) hx hb dX7_addBody_170 (by decide) ?_
                    refine lv_iload_n hx hb dX7_addBody_172 rfl (lv_at hl 4 rfl) ?_
                    refine va_callv (va_runV (As := [.int v5_57, .int 13, .int b]) (rest := []) ⟨hx, hb, hml, hown, hts⟩ (c7_sets l hA σ u164 v5_57 13 b hO (vp_in_iff.mpr (by decide)) hbv5_57) (cwV 3 hts gX7_addBody_X7_sets rfl rfl rfl hd_X7_setsV ⟨Nat.le_of_ble_eq_true rfl, Nat.le_of_ble_eq_true rfl⟩) ⟨hp_blind, va_recv hK hP (ci := 9) (q0 := 279) rfl c_279, hp_pre hK hN hP⟩ rfl rfl hl.1 rfl (lv_room (Nat.le_of_ble_eq_true rfl)) dX7_addBody_173 ⟨Nat.zero_le _, Nat.zero_le _⟩) hS (fun _ _ h => h) (fun _ h => h) (fun u9 t H locs ht hvm hw9 hB hz1 hk1 hS => ?_)
                    have hP := ho_at ht hB
                    obtain ⟨eq173, ok9⟩ := hw9
                    obtain ⟨u173, e_u173⟩ : ∃ z, z = u9 := ⟨_, rfl⟩
                    rw [← e_u173] at hP eq173 ok9
                    have hO := ok9
                    have hF := bnd_s eq173 hF
                    refine lv_aload_n hx hb dX7_addBody_176 rfl (lv_at hl 2 rfl) ?_
                    refine lv_iload hx hb dX7_addBody_177 (lv_at hl 1 rfl) ?_
                    refine lv_bipush (v := 20) hx hb dX7_addBody_179 (by decide) ?_
                    refine lv_iload_n hx hb dX7_addBody_181 rfl (lv_at hl 4 rfl) ?_
                    refine va_callv (va_runV (As := [.int v5_57, .int 20, .int b]) (rest := []) ⟨hx, hb, hml, hown, hts⟩ (c7_sets l hA σ u173 v5_57 20 b hO (vp_in_iff.mpr (by decide)) hbv5_57) (cwV 3 hts gX7_addBody_X7_sets rfl rfl rfl hd_X7_setsV ⟨Nat.le_of_ble_eq_true rfl, Nat.le_of_ble_eq_true rfl⟩) ⟨hp_blind, va_recv hK hP (ci := 9) (q0 := 279) rfl c_279, hp_pre hK hN hP⟩ rfl rfl hl.1 rfl (lv_room (Nat.le_of_ble_eq_true rfl)) dX7_addBody_182 ⟨Nat.zero_le _, Nat.zero_le _⟩) hS (fun _ _ h => h) (fun _ h => h) (fun u9 t H locs ht hvm hw9 hB hz1 hk1 hS => ?_)
                    have hP := ho_at ht hB
                    obtain ⟨eq182, ok9⟩ := hw9
                    obtain ⟨u182, e_u182⟩ : ∃ z, z = u9 := ⟨_, rfl⟩
                    rw [← e_u182] at hP eq182 ok9
                    have hO := ok9
                    have hF := bnd_s eq182 hF
                    refine lv_aload_n hx hb dX7_addBody_185 rfl (lv_at hl 2 rfl) ?_
                    refine va_get (D := D) (ci := 9) (C := RX7) (T := TX7) (N := 17) hx hb hts inX7 hown hK hP (279) c_279 rfl 1 (by decide) (hts (.fieldLink RX7 7 "TileRunnersModel" "world" "[I") (List.mem_of_getElem? (i := 1) rfl)) (fun _ h9 => h9) rfl dX7_addBody_186 ?_
                    refine lv_sipush (v := 464) hx hb dX7_addBody_189 (by decide) ?_
                    refine lv_dup2_11 hx hb dX7_addBody_192 rfl rfl ?_
                    refine pald (n := 480) (o := 0) (t := 464) (i := 464) hx hb hK hP c_280 (vp_in_iff.mpr (by decide)) rfl dX7_addBody_193 ?_
                    refine lv_iconst (v := 1) hx hb dX7_addBody_194 (by decide) ?_
                    refine lv_iadd hx hb dX7_addBody_195 ?_
                    have hin9 : vp_in 464 480 := (vp_in_iff.mpr (by decide))
                    refine past16 (n := 480) (o := 0) (t := 464) hx hb hK hP hA hS (j := 280) (by decide) (by decide) (fun _ _ => rfl) (fun k9 hk9 => by unfold own16; repeat first | rw [if_pos (by omega)] | rw [if_neg (by omega)]) hin9 rfl dX7_addBody_196 (fun u9 H locs eu9 hP hS => ?_)
                    have hlt9 := in_lt hin9
                    obtain ⟨u196, e_u196⟩ : ∃ z, z = u9 := ⟨_, rfl⟩
                    rw [← e_u196] at hP eu9
                    have hF := bnd_s eu9 hF
                    have eq196 := eu9
                    have hO := okM_464 eu9 hO (by rw [eq182, sets_ne hbv5_57 (vp_in_iff.mpr (by decide)) (Or.inr (by decide)), eq173, sets_ne hbv5_57 (vp_in_iff.mpr (by decide)) (Or.inr (by decide)), eq164, sets_ne hbv5_57 (vp_in_iff.mpr (by decide)) (Or.inr (by decide)), eq155, sets_ne hbv5_57 (vp_in_iff.mpr (by decide)) (Or.inr (by decide)), eq147, sets_ne hbv5_57 (vp_in_iff.mpr (by decide)) (Or.inr (by decide)), eq139, va_up_ne _ _ (by decide), eq134, va_up_ne _ _ (by decide), eq112, sets_ne hbv5_57 (vp_in_iff.mpr (by decide)) (Or.inr (by decide)), eq102, sets_ne hbv5_57 (vp_in_iff.mpr (by decide)) (Or.inr (by decide)), hc]; exact cnt_inc hbv5_57)
                    refine lv_iload hx hb dX7_addBody_197 (lv_at hl 1 rfl) ?_
                    exact W.iret (v := v5_57) hx hb hr (fun t ht hW => ⟨⟨v5_57, u196, rfl, ⟨hF.trans hFF, hO⟩, ho_of ht hP⟩, hS.F ht⟩) hS.2.2 dX7_addBody_199
                  · have hF := iff_ c123 hF
                    refine lv_aload_n hx hb dX7_addBody_126 rfl (lv_at hl 2 rfl) ?_
                    refine lv_iconst (v := 2) hx hb dX7_addBody_127 (by decide) ?_
                    refine va_calli (va_runV (As := [.int 2]) (rest := []) ⟨hx, hb, hml, hown, hts⟩ (c7_fails l hA σ u112 2 hO) (cwV 1 hts gX7_addBody_X7_fails rfl rfl rfl hd_X7_failsV ⟨Nat.le_of_ble_eq_true rfl, Nat.le_of_ble_eq_true rfl⟩) ⟨hp_blind, va_recv hK hP (ci := 9) (q0 := 279) rfl c_279, hp_pre hK hN hP⟩ rfl rfl hl.1 rfl (lv_room (Nat.le_of_ble_eq_true rfl)) dX7_addBody_128 ⟨Nat.zero_le _, Nat.zero_le _⟩) hS (fun _ _ h => h) (fun _ h => h) (fun r128 u9 t H locs ht hvm hw9 hB hz1 hk1 hS => ?_)
                    have hP := ho_at ht hB
                    obtain ⟨eq128, ok9⟩ := hw9
                    obtain ⟨u128, e_u128⟩ : ∃ z, z = u9 := ⟨_, rfl⟩
                    rw [← e_u128] at hP eq128 ok9
                    have hO := ok9
                    have hF := bnd2_s eq128 hF
                    exact W.iret (v := r128) hx hb hr (fun t ht hW => ⟨⟨r128, u128, rfl, ⟨hF.trans hFF, hO⟩, ho_of ht hP⟩, hS.F ht⟩) hS.2.2 dX7_addBody_131
                · have hF := iff_ c78 hF
                  have hww6_74 : vp_in w6_74 24 := in_n h6 (nle_lt c78) (by decide)
                  refine lv_aload_n hx hb dX7_addBody_81 rfl (lv_at hl 2 rfl) ?_
                  refine lv_iload hx hb dX7_addBody_82 (lv_at hl 1 rfl) ?_
                  refine lv_iload hx hb dX7_addBody_84 (lv_at hl 0 rfl) ?_
                  refine lv_iconst (v := 0) hx hb dX7_addBody_86 (by decide) ?_
                  refine va_callv (va_runV (As := [.int v5_57, .int w6_74, .int 0]) (rest := []) ⟨hx, hb, hml, hown, hts⟩ (c7_sets l hA σ u_74 v5_57 w6_74 0 hO hww6_74 hbv5_57) (cwV 3 hts gX7_addBody_X7_sets rfl rfl rfl hd_X7_setsV ⟨Nat.le_of_ble_eq_true rfl, Nat.le_of_ble_eq_true rfl⟩) ⟨hp_blind, va_recv hK hP (ci := 9) (q0 := 279) rfl c_279, hp_pre hK hN hP⟩ rfl rfl hl.1 rfl (lv_room (Nat.le_of_ble_eq_true rfl)) dX7_addBody_87 ⟨Nat.zero_le _, Nat.zero_le _⟩) hS (fun _ _ h => h) (fun _ h => h) (fun u9 t H locs ht hvm hw9 hB hz1 hk1 hS => ?_)
                  have hP := ho_at ht hB
                  obtain ⟨eq87, ok9⟩ := hw9
                  obtain ⟨u87, e_u87⟩ : ∃ z, z = u9 := ⟨_, rfl⟩
                  rw [← e_u87] at hP eq87 ok9
                  have hO := ok9
                  have hF := bnd_s eq87 hF
                  obtain ⟨v6_90, e_v6_90⟩ : ∃ z : Int32, z = w6_74 + 1 := ⟨_, rfl⟩
                  have hF := bnd_s e_v6_90 hF
                  refine lv_iinc (v := v6_90) (lv' := [(6, .int v6_90), (5, .int v5_57), (0, .ref (ad (279))), (1, .int a), (2, .int b), (3, .int c1), (4, .int d)]) hx hb dX7_addBody_90 hl (k := 0) rfl (by rw [e_v6_90]; rfl) (by decide) rfl (fun ls hl => ?_)
                  refine lv_goto (tgt := 74) hx hb dX7_addBody_93 (by decide) ?_
                  exact ih74 v6_90 u87 _ _ ls (ms_s (dec_up (nle_lt c78) e_v6_90) hm74) (ge0_in hww6_74 (by decide) e_v6_90) (by rw [eq87]; exact (sets_ne hbv5_57 hww6_74 (Or.inr (by decide))).trans hc) hO hP hS (lv_sub hl [0, 1, 2, 3, 4, 5, 6] rfl) hF
            exact L74 BIG 0 u _ _ ls (big_up _ _) le0 e_v5_57.symm hO hP hS (lv_sub hl [0, 1, 2, 3, 4, 5, 6] rfl) hF
          · have hF := ift c62 hF
            refine lv_aload_n hx hb dX7_addBody_65 rfl (lv_at hl 1 rfl) ?_
            refine lv_iconst (v := 2) hx hb dX7_addBody_66 (by decide) ?_
            refine va_calli (va_runV (As := [.int 2]) (rest := []) ⟨hx, hb, hml, hown, hts⟩ (c7_fails l hA σ u 2 hO) (cwV 1 hts gX7_addBody_X7_fails rfl rfl rfl hd_X7_failsV ⟨Nat.le_of_ble_eq_true rfl, Nat.le_of_ble_eq_true rfl⟩) ⟨hp_blind, va_recv hK hP (ci := 9) (q0 := 279) rfl c_279, hp_pre hK hN hP⟩ rfl rfl hl.1 rfl (lv_room (Nat.le_of_ble_eq_true rfl)) dX7_addBody_67 ⟨Nat.zero_le _, Nat.zero_le _⟩) hS (fun _ _ h => h) (fun _ h => h) (fun r67 u9 t H locs ht hvm hw9 hB hz1 hk1 hS => ?_)
            have hP := ho_at ht hB
            obtain ⟨eq67, ok9⟩ := hw9
            obtain ⟨u67, e_u67⟩ : ∃ z, z = u9 := ⟨_, rfl⟩
            rw [← e_u67] at hP eq67 ok9
            have hO := ok9
            have hF := bnd2_s eq67 hF
            exact W.iret (v := r67) hx hb hr (fun t ht hW => ⟨⟨r67, u67, rfl, ⟨hF.trans hFF, hO⟩, ho_of ht hP⟩, hS.F ht⟩) hS.2.2 dX7_addBody_70
        · have hF := ift c40 hF
          refine lv_aload_n hx hb dX7_addBody_43 rfl (lv_at hl 0 rfl) ?_
          refine lv_iconst (v := 1) hx hb dX7_addBody_44 (by decide) ?_
          refine va_calli (va_runV (As := [.int 1]) (rest := []) ⟨hx, hb, hml, hown, hts⟩ (c7_fails l hA σ u 1 hO) (cwV 1 hts gX7_addBody_X7_fails rfl rfl rfl hd_X7_failsV ⟨Nat.le_of_ble_eq_true rfl, Nat.le_of_ble_eq_true rfl⟩) ⟨hp_blind, va_recv hK hP (ci := 9) (q0 := 279) rfl c_279, hp_pre hK hN hP⟩ rfl rfl hl.1 rfl (lv_room (Nat.le_of_ble_eq_true rfl)) dX7_addBody_45 ⟨Nat.zero_le _, Nat.zero_le _⟩) hS (fun _ _ h => h) (fun _ h => h) (fun r45 u9 t H locs ht hvm hw9 hB hz1 hk1 hS => ?_)
          have hP := ho_at ht hB
          obtain ⟨eq45, ok9⟩ := hw9
          obtain ⟨u45, e_u45⟩ : ∃ z, z = u9 := ⟨_, rfl⟩
          rw [← e_u45] at hP eq45 ok9
          have hO := ok9
          have hF := bnd2_s eq45 hF
          exact W.iret (v := r45) hx hb hr (fun t ht hW => ⟨⟨r45, u45, rfl, ⟨hF.trans hFF, hO⟩, ho_of ht hP⟩, hS.F ht⟩) hS.2.2 dX7_addBody_48
theorem hd_X7_addBodyV : yX7_addBody.cls = RX7 ∧ yX7_addBody.cls ≠ "java/lang/invoke/MethodHandle" ∧ yX7_addBody.cls ≠ "java/lang/invoke/VarHandle" ∧ (parseMethodDescriptor yX7_addBody.desc).map (fun d => d.parameters.length) = some 4 := by decide +kernel
set_option maxHeartbeats 4000000 in
set_option maxRecDepth 100000 in
theorem c7_removeBody (l : Launch) {D : va_G} {G : CY} {ad : Nat → Nat} {B0 : Nat} (hA : adOK B0 ad) (σ : Nat → Nat → Int32) (u : Nat → Int32) (a : Int32) (hO : okM u) : Met l yX7_removeBody wsX7_removeBody { frames := 1, cells := 0, slots := 0, locals := 23 } (va_Pc [.ref (ad (279)), .int a] (Hp D G ad (va_up σ 16 u))) (va_Qi (fun (r : Int32) (z : Nat → Int32) => (r, z) = f7_removeBody u a ∧ okM z) (fun (z : Nat → Int32) => Ho D G ad (va_up σ 16 z)) (AA B0)) 0 0 (AA B0) := by
  refine Met.ofW (cc := cX7_removeBody) (maxL := 4) (ret := (some .int)) (by decide) rfl ?_
  intro p e s m args below meth c s₁ B hml hv
  obtain ⟨rfl, hP, hK, hN⟩ := hv
  have hx := B.exec
  have hb := B.bytes
  have hr := B.returns
  have hts := atoms_spec (ws := wsX7_removeBody) B.pre
  have hown : s.vm.findClass RX7 = some m.cls := findClass_of_methodNamed B.named
  have hlocks := B.notSynchronized
  have inX7 : ∀ w ∈ wsX70, w ∈ wsX7_removeBody := (fun w h => List.mem_cons_of_mem _ (List.mem_append_left _ (List.mem_append_right _ h)))
  have hP : va_P D vwCl (pool G ad (va_up σ 16 u)) s.heap := hP
  have hS : va_S (AA B0) s.heap s.heap [] := va_S.rf
  have hl := lv_entry ([.ref (ad (279)), .int a]) (n := 4) (Nat.le_of_ble_eq_true rfl)
  rw [lg_entry_eq]
  generalize (lg_sl ([.ref (ad (279)), .int a]) ++ List.replicate (4 - (lg_sl ([.ref (ad (279)), .int a])).length) Slot.unset).toArray = ls at hl ⊢
  have hl : lv_has ls 4 [(0, .ref (ad (279))), (1, .int a)] := hl
  obtain ⟨FF, hFF⟩ : ∃ z, z = f7_removeBody u a := ⟨_, rfl⟩
  have hF := hFF.symm
  rw [f7_removeBody] at hF
  refine lv_aload_n hx hb dX7_removeBody_0 rfl (lv_at hl 0 rfl) ?_
  refine lv_iload_n hx hb dX7_removeBody_1 rfl (lv_at hl 1 rfl) ?_
  refine va_calli (va_runV (As := [.int a]) (rest := []) ⟨hx, hb, hml, hown, hts⟩ (c7_isBody l hA σ u a ) (cwV 1 hts gX7_removeBody_X7_isBody rfl rfl rfl hd_X7_isBodyV ⟨Nat.le_of_ble_eq_true rfl, Nat.le_of_ble_eq_true rfl⟩) ⟨hp_blind, va_recv hK hP (ci := 9) (q0 := 279) rfl c_279, hp_pre hK hN hP⟩ rfl rfl hl.1 rfl (lv_room (Nat.le_of_ble_eq_true rfl)) dX7_removeBody_2 ⟨Nat.zero_le _, Nat.zero_le _⟩) hS (fun _ _ h => h) (fun _ h => h) (fun r2 _ t H locs ht hvm hw9 hB hz1 hk1 hS => ?_)
  have hP := ho_at ht hB
  obtain ⟨eq2, hb_r2⟩ := hw9
  have hF := bnd_s eq2 hF
  refine lv_if_ne (tgt := 14) hx hb dX7_removeBody_5 (by decide) (fun c5 => ?_) (fun c5 => ?_)
  · have hF := iff_ c5 hF
    have hba := body_in hO.1 eq2 c5
    have hbl := body_lt eq2 c5
    have hc4 := hO.1.2.1
    refine lv_aload_n hx hb dX7_removeBody_14 rfl (lv_at hl 0 rfl) ?_
    refine lv_iconst (v := 0) hx hb dX7_removeBody_15 (by decide) ?_
    refine pput16 hx hb hts inX7 tyX7 tyX7_ok nmX7 hown hK hP hA hS (j := 279) (by decide) (by decide) rfl rfl 0 (by decide) (hts (.fieldLink RX7 45 "TileRunnersModel" "thrown" "I") (List.mem_of_getElem? (i := 1) rfl)) (fun _ h9 => h9) rfl (tyX7_ok 0 (by decide)) rfl rfl (Nat.le_of_ble_eq_true rfl) (490) (by decide) (setM_0) dX7_removeBody_16 (fun u9 H locs eu9 hP hS => ?_)
    obtain ⟨u16, e_u16⟩ : ∃ z, z = u9 := ⟨_, rfl⟩
    rw [← e_u16] at hP eu9
    have hF := bnd_s eu9 hF
    have eq16 := eu9
    have hO := okM_up eu9 hO (by omega) (by omega) (by omega)
    refine lv_aload_n hx hb dX7_removeBody_19 rfl (lv_at hl 0 rfl) ?_
    refine lv_iconst (v := 0) hx hb dX7_removeBody_20 (by decide) ?_
    refine pput16 hx hb hts inX7 tyX7 tyX7_ok nmX7 hown hK hP hA hS (j := 279) (by decide) (by decide) rfl rfl 8 (by decide) (hts (.fieldLink RX7 208 "TileRunnersModel" "kept" "I") (List.mem_of_getElem? (i := 2) rfl)) (fun _ h9 => h9) rfl (tyX7_ok 8 (by decide)) rfl rfl (Nat.le_of_ble_eq_true rfl) (491) (by decide) (setM_8) dX7_removeBody_21 (fun u9 H locs eu9 hP hS => ?_)
    obtain ⟨u21, e_u21⟩ : ∃ z, z = u9 := ⟨_, rfl⟩
    rw [← e_u21] at hP eu9
    have hF := bnd_s eu9 hF
    have eq21 := eu9
    have hO := okM_491 eu9 hO (by decide)
    refine lv_aload_n hx hb dX7_removeBody_24 rfl (lv_at hl 0 rfl) ?_
    refine va_get (D := D) (ci := 9) (C := RX7) (T := TX7) (N := 17) hx hb hts inX7 hown hK hP (279) c_279 rfl 1 (by decide) (hts (.fieldLink RX7 7 "TileRunnersModel" "world" "[I") (List.mem_of_getElem? (i := 3) rfl)) (fun _ h9 => h9) rfl dX7_removeBody_25 ?_
    refine lv_sipush (v := 464) hx hb dX7_removeBody_28 (by decide) ?_
    refine lv_dup2_11 hx hb dX7_removeBody_31 rfl rfl ?_
    refine pald (n := 480) (o := 0) (t := 464) (i := 464) hx hb hK hP c_280 (vp_in_iff.mpr (by decide)) rfl dX7_removeBody_32 ?_
    refine lv_iconst (v := 1) hx hb dX7_removeBody_33 (by decide) ?_
    refine lv_isub hx hb dX7_removeBody_34 ?_
    have hin9 : vp_in 464 480 := (vp_in_iff.mpr (by decide))
    refine past16 (n := 480) (o := 0) (t := 464) hx hb hK hP hA hS (j := 280) (by decide) (by decide) (fun _ _ => rfl) (fun k9 hk9 => by unfold own16; repeat first | rw [if_pos (by omega)] | rw [if_neg (by omega)]) hin9 rfl dX7_removeBody_35 (fun u9 H locs eu9 hP hS => ?_)
    have hlt9 := in_lt hin9
    obtain ⟨u35, e_u35⟩ : ∃ z, z = u9 := ⟨_, rfl⟩
    rw [← e_u35] at hP eu9
    have hF := bnd_s eu9 hF
    have eq35 := eu9
    have hO := okM_464 eu9 hO (by rw [eq21, va_up_ne _ _ (by decide), eq16, va_up_ne _ _ (by decide)]; exact le34 (cnt_dec hbl hc4))
    have hc3 : (u35 464).toInt ≤ 3 := by rw [eq35, va_up_self, eq21, va_up_ne _ _ (by decide), eq16, va_up_ne _ _ (by decide)]; exact (cnt_dec hbl hc4).2
    refine lv_iload_n hx hb dX7_removeBody_36 rfl (lv_at hl 1 rfl) ?_
    refine lv_istore_n (lv' := [(2, .int a), (0, .ref (ad (279))), (1, .int a)]) hx hb dX7_removeBody_37 rfl hl (by decide) rfl (fun ls hl => ?_)
    have L38 : ∀ (n38 : Nat) (w2_38 : Int32) (u_38 : (Nat → Int32)) (H : Heap) (locs : List Loc) (ls : Array Slot), (4 - w2_38.toInt).toNat < n38 → 0 ≤ w2_38 → (u_38 464).toInt ≤ 3 → okM u_38 → va_P D vwCl (pool G ad (va_up σ 16 u_38)) H → va_S (AA B0) s.heap H locs → lv_has ls 4 [(2, .int w2_38), (0, .ref (ad (279)))] → f7_removeBody_L38 n38 w2_38 u_38 = FF → W p l e (headSpec wsX7_removeBody { frames := 1, cells := 0, slots := 0, locals := 23 }).room s m ([.ref (ad (279)), .int a] : List Value).toArray below meth c H locs 0 0 (MQ below (va_Qi (fun (r : Int32) (z : Nat → Int32) => (r, z) = f7_removeBody u a ∧ okM z) (fun (z : Nat → Int32) => Ho D G ad (va_up σ 16 z)) (AA B0)) ([.ref (ad (279)), .int a] : List Value).toArray s 0 0 (AA B0)) (F0 m 38 ls []) := by
      intro n38
      induction n38 with
      | zero => intro w2_38 u_38 H locs ls hm; exact absurd hm (Nat.not_lt_zero _)
      | succ n38 ih38 =>
        intro w2_38 u_38 H locs ls hm38 h2 hc hO hP hS hl hF
        rw [f7_removeBody_L38] at hF
        refine lv_iload_n hx hb dX7_removeBody_38 rfl (lv_at hl 0 rfl) ?_
        refine lv_aload_n hx hb dX7_removeBody_39 rfl (lv_at hl 1 rfl) ?_
        refine va_get (D := D) (ci := 9) (C := RX7) (T := TX7) (N := 17) hx hb hts inX7 hown hK hP (279) c_279 rfl 1 (by decide) (hts (.fieldLink RX7 7 "TileRunnersModel" "world" "[I") (List.mem_of_getElem? (i := 3) rfl)) (fun _ h9 => h9) rfl dX7_removeBody_40 ?_
        refine lv_sipush (v := 464) hx hb dX7_removeBody_43 (by decide) ?_
        refine pald (n := 480) (o := 0) (t := 464) (i := 464) hx hb hK hP c_280 (vp_in_iff.mpr (by decide)) rfl dX7_removeBody_46 ?_
        refine lv_icmp_ge (tgt := 84) hx hb dX7_removeBody_47 (by decide) (fun c47 => ?_) (fun c47 => ?_)
        · have hF := ift c47 hF
          refine lv_aload_n hx hb dX7_removeBody_84 rfl (lv_at hl 1 rfl) ?_
          refine va_get (D := D) (ci := 9) (C := RX7) (T := TX7) (N := 17) hx hb hts inX7 hown hK hP (279) c_279 rfl 1 (by decide) (hts (.fieldLink RX7 7 "TileRunnersModel" "world" "[I") (List.mem_of_getElem? (i := 3) rfl)) (fun _ h9 => h9) rfl dX7_removeBody_85 ?_
          refine lv_sipush (v := 464) hx hb dX7_removeBody_88 (by decide) ?_
          refine pald (n := 480) (o := 0) (t := 464) (i := 464) hx hb hK hP c_280 (vp_in_iff.mpr (by decide)) rfl dX7_removeBody_91 ?_
          exact W.iret (v := (u_38 464)) hx hb hr (fun t ht hW => ⟨⟨(u_38 464), u_38, rfl, ⟨hF.trans hFF, hO⟩, ho_of ht hP⟩, hS.F ht⟩) hS.2.2 dX7_removeBody_92
        · have hF := iff_ c47 hF
          have hbw2_38 : vp_in w2_38 4 := in_n h2 (nle_lt c47) hO.1.2.1
          have hb1 : vp_in (w2_38 + 1) 4 := in_succ h2 (nle_lt c47) hc
          refine lv_iconst (v := 0) hx hb dX7_removeBody_50 (by decide) ?_
          refine lv_istore_n (lv' := [(3, .int 0), (2, .int w2_38), (0, .ref (ad (279)))]) hx hb dX7_removeBody_51 rfl hl (by decide) rfl (fun ls hl => ?_)
          have L52 : ∀ (n52 : Nat) (w3_52 : Int32) (u_52 : (Nat → Int32)) (H : Heap) (locs : List Loc) (ls : Array Slot), ((24 : Int32).toInt - w3_52.toInt).toNat < n52 → 0 ≤ w3_52 → (u_52 464).toInt ≤ 3 → okM u_52 → va_P D vwCl (pool G ad (va_up σ 16 u_52)) H → va_S (AA B0) s.heap H locs → lv_has ls 4 [(3, .int w3_52), (2, .int w2_38), (0, .ref (ad (279)))] → f7_removeBody_L52 (f7_removeBody_L38 n38) w2_38 n52 w3_52 u_52 = FF → W p l e (headSpec wsX7_removeBody { frames := 1, cells := 0, slots := 0, locals := 23 }).room s m ([.ref (ad (279)), .int a] : List Value).toArray below meth c H locs 0 0 (MQ below (va_Qi (fun (r : Int32) (z : Nat → Int32) => (r, z) = f7_removeBody u a ∧ okM z) (fun (z : Nat → Int32) => Ho D G ad (va_up σ 16 z)) (AA B0)) ([.ref (ad (279)), .int a] : List Value).toArray s 0 0 (AA B0)) (F0 m 52 ls []) := by
            intro n52
            induction n52 with
            | zero => intro w3_52 u_52 H locs ls hm; exact absurd hm (Nat.not_lt_zero _)
            | succ n52 ih52 =>
              intro w3_52 u_52 H locs ls hm52 h3 hc2 hO hP hS hl hF
              rw [f7_removeBody_L52] at hF
              refine lv_iload_n hx hb dX7_removeBody_52 rfl (lv_at hl 0 rfl) ?_
              refine lv_bipush (v := 24) hx hb dX7_removeBody_53 (by decide) ?_
              refine lv_icmp_ge (tgt := 78) hx hb dX7_removeBody_55 (by decide) (fun c55 => ?_) (fun c55 => ?_)
              · have hF := ift c55 hF
                obtain ⟨v2_78, e_v2_78⟩ : ∃ z : Int32, z = w2_38 + 1 := ⟨_, rfl⟩
                have hF := bnd_s e_v2_78 hF
                refine lv_iinc (v := v2_78) (lv' := [(2, .int v2_78), (3, .int w3_52), (0, .ref (ad (279)))]) hx hb dX7_removeBody_78 hl (k := 1) rfl (by rw [e_v2_78]; rfl) (by decide) rfl (fun ls hl => ?_)
                refine lv_goto (tgt := 38) hx hb dX7_removeBody_81 (by decide) ?_
                exact ih38 v2_78 u_52 _ _ ls (ms_s (dec_i4 hbw2_38 e_v2_78) hm38) (ge0_i4 hbw2_38 e_v2_78) hc2 hO hP hS (lv_sub hl [0, 2] rfl) hF
              · have hF := iff_ c55 hF
                have hww3_52 : vp_in w3_52 24 := in_n h3 (nle_lt c55) (by decide)
                refine lv_aload_n hx hb dX7_removeBody_58 rfl (lv_at hl 2 rfl) ?_
                refine lv_iload_n hx hb dX7_removeBody_59 rfl (lv_at hl 1 rfl) ?_
                refine lv_iload_n hx hb dX7_removeBody_60 rfl (lv_at hl 0 rfl) ?_
                refine lv_aload_n hx hb dX7_removeBody_61 rfl (lv_at hl 2 rfl) ?_
                refine lv_iload_n hx hb dX7_removeBody_62 rfl (lv_at hl 1 rfl) ?_
                refine lv_iconst (v := 1) hx hb dX7_removeBody_63 (by decide) ?_
                refine lv_iadd hx hb dX7_removeBody_64 ?_
                refine lv_iload_n hx hb dX7_removeBody_65 rfl (lv_at hl 0 rfl) ?_
                refine va_calli (va_runV (As := [.int (w2_38 + 1), .int w3_52]) (rest := [.int w3_52, .int w2_38, .ref (ad (279))]) ⟨hx, hb, hml, hown, hts⟩ (c7_of l hA σ u_52 (w2_38 + 1) w3_52 hww3_52 hb1) (cwV 2 hts gX7_removeBody_X7_of rfl rfl rfl hd_X7_ofV ⟨Nat.le_of_ble_eq_true rfl, Nat.le_of_ble_eq_true rfl⟩) ⟨hp_blind, va_recv hK hP (ci := 9) (q0 := 279) rfl c_279, hp_pre hK hN hP⟩ rfl rfl hl.1 rfl (lv_room (Nat.le_of_ble_eq_true rfl)) dX7_removeBody_66 ⟨Nat.zero_le _, Nat.zero_le _⟩) hS (fun _ _ h => h) (fun _ h => h) (fun r66 _ t H locs ht hvm hw9 hB hz1 hk1 hS => ?_)
                have hP := ho_at ht hB
                have eq66 := hw9
                have hF := bnd_s eq66 hF
                refine va_callv (va_runV (As := [.int w2_38, .int w3_52, .int r66]) (rest := []) ⟨hx, hb, hml, hown, hts⟩ (c7_sets l hA σ u_52 w2_38 w3_52 r66 hO hww3_52 hbw2_38) (cwV 3 hts gX7_removeBody_X7_sets rfl rfl rfl hd_X7_setsV ⟨Nat.le_of_ble_eq_true rfl, Nat.le_of_ble_eq_true rfl⟩) ⟨hp_blind, va_recv hK hP (ci := 9) (q0 := 279) rfl c_279, hp_pre hK hN hP⟩ rfl rfl hl.1 rfl (lv_room (Nat.le_of_ble_eq_true rfl)) dX7_removeBody_69 ⟨Nat.zero_le _, Nat.zero_le _⟩) hS (fun _ _ h => h) (fun _ h => h) (fun u9 t H locs ht hvm hw9 hB hz1 hk1 hS => ?_)
                have hP := ho_at ht hB
                obtain ⟨eq69, ok9⟩ := hw9
                obtain ⟨u69, e_u69⟩ : ∃ z, z = u9 := ⟨_, rfl⟩
                rw [← e_u69] at hP eq69 ok9
                have hO := ok9
                have hF := bnd_s eq69 hF
                obtain ⟨v3_72, e_v3_72⟩ : ∃ z : Int32, z = w3_52 + 1 := ⟨_, rfl⟩
                have hF := bnd_s e_v3_72 hF
                refine lv_iinc (v := v3_72) (lv' := [(3, .int v3_72), (2, .int w2_38), (0, .ref (ad (279)))]) hx hb dX7_removeBody_72 hl (k := 0) rfl (by rw [e_v3_72]; rfl) (by decide) rfl (fun ls hl => ?_)
                refine lv_goto (tgt := 52) hx hb dX7_removeBody_75 (by decide) ?_
                exact ih52 v3_72 u69 _ _ ls (ms_s (dec_up (nle_lt c55) e_v3_72) hm52) (ge0_in hww3_52 (by decide) e_v3_72) (by rw [eq69, sets_ne hbw2_38 hww3_52 (Or.inr (by decide))]; exact hc2) hO hP hS (lv_sub hl [0, 1, 2] rfl) hF
          exact L52 BIG 0 u_38 _ _ ls (big_up _ _) le0 hc hO hP hS (lv_sub hl [0, 1, 2] rfl) hF
    exact L38 BIG a u35 _ _ ls (big_i4 _) (in_ge0 hba) hc3 hO hP hS (lv_sub hl [0, 1] rfl) hF
  · have hF := ift c5 hF
    refine lv_aload_n hx hb dX7_removeBody_8 rfl (lv_at hl 0 rfl) ?_
    refine lv_iconst (v := 1) hx hb dX7_removeBody_9 (by decide) ?_
    refine va_calli (va_runV (As := [.int 1]) (rest := []) ⟨hx, hb, hml, hown, hts⟩ (c7_fails l hA σ u 1 hO) (cwV 1 hts gX7_removeBody_X7_fails rfl rfl rfl hd_X7_failsV ⟨Nat.le_of_ble_eq_true rfl, Nat.le_of_ble_eq_true rfl⟩) ⟨hp_blind, va_recv hK hP (ci := 9) (q0 := 279) rfl c_279, hp_pre hK hN hP⟩ rfl rfl hl.1 rfl (lv_room (Nat.le_of_ble_eq_true rfl)) dX7_removeBody_10 ⟨Nat.zero_le _, Nat.zero_le _⟩) hS (fun _ _ h => h) (fun _ h => h) (fun r10 u9 t H locs ht hvm hw9 hB hz1 hk1 hS => ?_)
    have hP := ho_at ht hB
    obtain ⟨eq10, ok9⟩ := hw9
    obtain ⟨u10, e_u10⟩ : ∃ z, z = u9 := ⟨_, rfl⟩
    rw [← e_u10] at hP eq10 ok9
    have hO := ok9
    have hF := bnd2_s eq10 hF
    exact W.iret (v := r10) hx hb hr (fun t ht hW => ⟨⟨r10, u10, rfl, ⟨hF.trans hFF, hO⟩, ho_of ht hP⟩, hS.F ht⟩) hS.2.2 dX7_removeBody_13
theorem hd_X7_removeBodyV : yX7_removeBody.cls = RX7 ∧ yX7_removeBody.cls ≠ "java/lang/invoke/MethodHandle" ∧ yX7_removeBody.cls ≠ "java/lang/invoke/VarHandle" ∧ (parseMethodDescriptor yX7_removeBody.desc).map (fun d => d.parameters.length) = some 1 := by decide +kernel
set_option maxHeartbeats 4000000 in
set_option maxRecDepth 100000 in
theorem c7_body (l : Launch) {D : va_G} {G : CY} {ad : Nat → Nat} {B0 : Nat} (hA : adOK B0 ad) (σ : Nat → Nat → Int32) (u : Nat → Int32) (a : Int32) (b : Int32) (hO : okM u) : Met l yX7_body wsX7_body { frames := 1, cells := 0, slots := 0, locals := 22 } (va_Pc [.ref (ad (279)), .int a, .int b] (Hp D G ad (va_up σ 16 u))) (va_Qi (fun (r : Int32) (z : Nat → Int32) => (r, z) = f7_body u a b ∧ okM z) (fun (z : Nat → Int32) => Ho D G ad (va_up σ 16 z)) (AA B0)) 0 0 (AA B0) := by
  refine Met.ofW (cc := cX7_body) (maxL := 3) (ret := (some .int)) (by decide) rfl ?_
  intro p e s m args below meth c s₁ B hml hv
  obtain ⟨rfl, hP, hK, hN⟩ := hv
  have hx := B.exec
  have hb := B.bytes
  have hr := B.returns
  have hts := atoms_spec (ws := wsX7_body) B.pre
  have hown : s.vm.findClass RX7 = some m.cls := findClass_of_methodNamed B.named
  have hlocks := B.notSynchronized
  have inX7 : ∀ w ∈ wsX70, w ∈ wsX7_body := (fun w h => List.mem_cons_of_mem _ (List.mem_append_left _ (List.mem_append_right _ h)))
  have hP : va_P D vwCl (pool G ad (va_up σ 16 u)) s.heap := hP
  have hS : va_S (AA B0) s.heap s.heap [] := va_S.rf
  have hl := lv_entry ([.ref (ad (279)), .int a, .int b]) (n := 3) (Nat.le_of_ble_eq_true rfl)
  rw [lg_entry_eq]
  generalize (lg_sl ([.ref (ad (279)), .int a, .int b]) ++ List.replicate (3 - (lg_sl ([.ref (ad (279)), .int a, .int b])).length) Slot.unset).toArray = ls at hl ⊢
  have hl : lv_has ls 3 [(0, .ref (ad (279))), (1, .int a), (2, .int b)] := hl
  obtain ⟨FF, hFF⟩ : ∃ z, z = f7_body u a b := ⟨_, rfl⟩
  have hF := hFF.symm
  rw [f7_body] at hF
  refine lv_aload_n hx hb dX7_body_0 rfl (lv_at hl 0 rfl) ?_
  refine lv_iload_n hx hb dX7_body_1 rfl (lv_at hl 1 rfl) ?_
  refine va_calli (va_runV (As := [.int a]) (rest := []) ⟨hx, hb, hml, hown, hts⟩ (c7_isBody l hA σ u a ) (cwV 1 hts gX7_body_X7_isBody rfl rfl rfl hd_X7_isBodyV ⟨Nat.le_of_ble_eq_true rfl, Nat.le_of_ble_eq_true rfl⟩) ⟨hp_blind, va_recv hK hP (ci := 9) (q0 := 279) rfl c_279, hp_pre hK hN hP⟩ rfl rfl hl.1 rfl (lv_room (Nat.le_of_ble_eq_true rfl)) dX7_body_2 ⟨Nat.zero_le _, Nat.zero_le _⟩) hS (fun _ _ h => h) (fun _ h => h) (fun r2 _ t H locs ht hvm hw9 hB hz1 hk1 hS => ?_)
  have hP := ho_at ht hB
  obtain ⟨eq2, hb_r2⟩ := hw9
  have hF := bnd_s eq2 hF
  refine lv_if_ne (tgt := 14) hx hb dX7_body_5 (by decide) (fun c5 => ?_) (fun c5 => ?_)
  · have hF := iff_ c5 hF
    have hba := body_in hO.1 eq2 c5
    refine lv_iload_n hx hb dX7_body_14 rfl (lv_at hl 2 rfl) ?_
    refine lv_iconst (v := 0) hx hb dX7_body_15 (by decide) ?_
    refine lv_bipush (v := 9) hx hb dX7_body_16 (by decide) ?_
    refine va_calli (va_runS (As := [.int b, .int 0, .int 9]) (rest := []) ⟨hx, hb, hml, hown, hts⟩ (c7_isBetween l hA (va_up σ 16 u) b 0 9 ) (va_cwS 3 hts gX7_body_X7_isBetween rfl rfl rfl hd_X7_isBetweenS ⟨Nat.le_of_ble_eq_true rfl, Nat.le_of_ble_eq_true rfl⟩) ⟨hp_blind, hp_pre hK hN hP⟩ rfl rfl hl.1 rfl (lv_room (Nat.le_of_ble_eq_true rfl)) dX7_body_18 ⟨Nat.zero_le _, Nat.zero_le _⟩) hS (fun _ _ h => h) (fun _ h => h) (fun r18 _ t H locs ht hvm hw9 hB hz1 hk1 hS => ?_)
    have hP := ho_at ht hB
    obtain ⟨eq18, hb_r18⟩ := hw9
    have hF := bnd_s eq18 hF
    refine lv_if_ne (tgt := 30) hx hb dX7_body_21 (by decide) (fun c21 => ?_) (fun c21 => ?_)
    · have hF := iff_ c21 hF
      have hwb : vp_in b 24 := btw_in eq18 c21 (by decide)
      refine lv_aload_n hx hb dX7_body_30 rfl (lv_at hl 0 rfl) ?_
      refine lv_iconst (v := 0) hx hb dX7_body_31 (by decide) ?_
      refine pput16 hx hb hts inX7 tyX7 tyX7_ok nmX7 hown hK hP hA hS (j := 279) (by decide) (by decide) rfl rfl 0 (by decide) (hts (.fieldLink RX7 45 "TileRunnersModel" "thrown" "I") (List.mem_of_getElem? (i := 1) rfl)) (fun _ h9 => h9) rfl (tyX7_ok 0 (by decide)) rfl rfl (Nat.le_of_ble_eq_true rfl) (490) (by decide) (setM_0) dX7_body_32 (fun u9 H locs eu9 hP hS => ?_)
      obtain ⟨u32, e_u32⟩ : ∃ z, z = u9 := ⟨_, rfl⟩
      rw [← e_u32] at hP eu9
      have hF := bnd_s eu9 hF
      have hO := okM_up eu9 hO (by omega) (by omega) (by omega)
      refine lv_aload_n hx hb dX7_body_35 rfl (lv_at hl 0 rfl) ?_
      refine lv_iload_n hx hb dX7_body_36 rfl (lv_at hl 1 rfl) ?_
      refine lv_iload_n hx hb dX7_body_37 rfl (lv_at hl 2 rfl) ?_
      refine va_calli (va_runV (As := [.int a, .int b]) (rest := []) ⟨hx, hb, hml, hown, hts⟩ (c7_of l hA σ u32 a b hwb hba) (cwV 2 hts gX7_body_X7_of rfl rfl rfl hd_X7_ofV ⟨Nat.le_of_ble_eq_true rfl, Nat.le_of_ble_eq_true rfl⟩) ⟨hp_blind, va_recv hK hP (ci := 9) (q0 := 279) rfl c_279, hp_pre hK hN hP⟩ rfl rfl hl.1 rfl (lv_room (Nat.le_of_ble_eq_true rfl)) dX7_body_38 ⟨Nat.zero_le _, Nat.zero_le _⟩) hS (fun _ _ h => h) (fun _ h => h) (fun r38 _ t H locs ht hvm hw9 hB hz1 hk1 hS => ?_)
      have hP := ho_at ht hB
      have eq38 := hw9
      have hF := bnd_s eq38 hF
      exact W.iret (v := r38) hx hb hr (fun t ht hW => ⟨⟨r38, u32, rfl, ⟨hF.trans hFF, hO⟩, ho_of ht hP⟩, hS.F ht⟩) hS.2.2 dX7_body_41
    · have hF := ift c21 hF
      refine lv_aload_n hx hb dX7_body_24 rfl (lv_at hl 0 rfl) ?_
      refine lv_iconst (v := 2) hx hb dX7_body_25 (by decide) ?_
      refine va_calli (va_runV (As := [.int 2]) (rest := []) ⟨hx, hb, hml, hown, hts⟩ (c7_fails l hA σ u 2 hO) (cwV 1 hts gX7_body_X7_fails rfl rfl rfl hd_X7_failsV ⟨Nat.le_of_ble_eq_true rfl, Nat.le_of_ble_eq_true rfl⟩) ⟨hp_blind, va_recv hK hP (ci := 9) (q0 := 279) rfl c_279, hp_pre hK hN hP⟩ rfl rfl hl.1 rfl (lv_room (Nat.le_of_ble_eq_true rfl)) dX7_body_26 ⟨Nat.zero_le _, Nat.zero_le _⟩) hS (fun _ _ h => h) (fun _ h => h) (fun r26 u9 t H locs ht hvm hw9 hB hz1 hk1 hS => ?_)
      have hP := ho_at ht hB
      obtain ⟨eq26, ok9⟩ := hw9
      obtain ⟨u26, e_u26⟩ : ∃ z, z = u9 := ⟨_, rfl⟩
      rw [← e_u26] at hP eq26 ok9
      have hO := ok9
      have hF := bnd2_s eq26 hF
      exact W.iret (v := r26) hx hb hr (fun t ht hW => ⟨⟨r26, u26, rfl, ⟨hF.trans hFF, hO⟩, ho_of ht hP⟩, hS.F ht⟩) hS.2.2 dX7_body_29
  · have hF := ift c5 hF
    refine lv_aload_n hx hb dX7_body_8 rfl (lv_at hl 0 rfl) ?_
    refine lv_iconst (v := 1) hx hb dX7_body_9 (by decide) ?_
    refine va_calli (va_runV (As := [.int 1]) (rest := []) ⟨hx, hb, hml, hown, hts⟩ (c7_fails l hA σ u 1 hO) (cwV 1 hts gX7_body_X7_fails rfl rfl rfl hd_X7_failsV ⟨Nat.le_of_ble_eq_true rfl, Nat.le_of_ble_eq_true rfl⟩) ⟨hp_blind, va_recv hK hP (ci := 9) (q0 := 279) rfl c_279, hp_pre hK hN hP⟩ rfl rfl hl.1 rfl (lv_room (Nat.le_of_ble_eq_true rfl)) dX7_body_10 ⟨Nat.zero_le _, Nat.zero_le _⟩) hS (fun _ _ h => h) (fun _ h => h) (fun r10 u9 t H locs ht hvm hw9 hB hz1 hk1 hS => ?_)
    have hP := ho_at ht hB
    obtain ⟨eq10, ok9⟩ := hw9
    obtain ⟨u10, e_u10⟩ : ∃ z, z = u9 := ⟨_, rfl⟩
    rw [← e_u10] at hP eq10 ok9
    have hO := ok9
    have hF := bnd2_s eq10 hF
    exact W.iret (v := r10) hx hb hr (fun t ht hW => ⟨⟨r10, u10, rfl, ⟨hF.trans hFF, hO⟩, ho_of ht hP⟩, hS.F ht⟩) hS.2.2 dX7_body_13
theorem hd_X7_bodyV : yX7_body.cls = RX7 ∧ yX7_body.cls ≠ "java/lang/invoke/MethodHandle" ∧ yX7_body.cls ≠ "java/lang/invoke/VarHandle" ∧ (parseMethodDescriptor yX7_body.desc).map (fun d => d.parameters.length) = some 2 := by decide +kernel
set_option maxHeartbeats 4000000 in
set_option maxRecDepth 100000 in
theorem c7_press (l : Launch) {D : va_G} {G : CY} {ad : Nat → Nat} {B0 : Nat} (hA : adOK B0 ad) (σ : Nat → Nat → Int32) (u : Nat → Int32) (a : Int32) (b : Int32) (hO : okM u) : Met l yX7_press wsX7_press { frames := 1, cells := 0, slots := 0, locals := 23 } (va_Pc [.ref (ad (279)), .int a, .int b] (Hp D G ad (va_up σ 16 u))) (va_Qi (fun (r : Int32) (z : Nat → Int32) => (r, z) = f7_press u a b ∧ okM z) (fun (z : Nat → Int32) => Ho D G ad (va_up σ 16 z)) (AA B0)) 0 0 (AA B0) := by
  refine Met.ofW (cc := cX7_press) (maxL := 4) (ret := (some .int)) (by decide) rfl ?_
  intro p e s m args below meth c s₁ B hml hv
  obtain ⟨rfl, hP, hK, hN⟩ := hv
  have hx := B.exec
  have hb := B.bytes
  have hr := B.returns
  have hts := atoms_spec (ws := wsX7_press) B.pre
  have hown : s.vm.findClass RX7 = some m.cls := findClass_of_methodNamed B.named
  have hlocks := B.notSynchronized
  have inX7 : ∀ w ∈ wsX70, w ∈ wsX7_press := (fun w h => List.mem_cons_of_mem _ (List.mem_append_left _ (List.mem_append_right _ h)))
  have hP : va_P D vwCl (pool G ad (va_up σ 16 u)) s.heap := hP
  have hS : va_S (AA B0) s.heap s.heap [] := va_S.rf
  have hl := lv_entry ([.ref (ad (279)), .int a, .int b]) (n := 4) (Nat.le_of_ble_eq_true rfl)
  rw [lg_entry_eq]
  generalize (lg_sl ([.ref (ad (279)), .int a, .int b]) ++ List.replicate (4 - (lg_sl ([.ref (ad (279)), .int a, .int b])).length) Slot.unset).toArray = ls at hl ⊢
  have hl : lv_has ls 4 [(0, .ref (ad (279))), (1, .int a), (2, .int b)] := hl
  obtain ⟨FF, hFF⟩ : ∃ z, z = f7_press u a b := ⟨_, rfl⟩
  have hF := hFF.symm
  rw [f7_press] at hF
  refine lv_aload_n hx hb dX7_press_0 rfl (lv_at hl 0 rfl) ?_
  refine lv_iload_n hx hb dX7_press_1 rfl (lv_at hl 1 rfl) ?_
  refine va_calli (va_runV (As := [.int a]) (rest := []) ⟨hx, hb, hml, hown, hts⟩ (c7_isBody l hA σ u a ) (cwV 1 hts gX7_press_X7_isBody rfl rfl rfl hd_X7_isBodyV ⟨Nat.le_of_ble_eq_true rfl, Nat.le_of_ble_eq_true rfl⟩) ⟨hp_blind, va_recv hK hP (ci := 9) (q0 := 279) rfl c_279, hp_pre hK hN hP⟩ rfl rfl hl.1 rfl (lv_room (Nat.le_of_ble_eq_true rfl)) dX7_press_2 ⟨Nat.zero_le _, Nat.zero_le _⟩) hS (fun _ _ h => h) (fun _ h => h) (fun r2 _ t H locs ht hvm hw9 hB hz1 hk1 hS => ?_)
  have hP := ho_at ht hB
  obtain ⟨eq2, hb_r2⟩ := hw9
  have hF := bnd_s eq2 hF
  refine lv_if_ne (tgt := 14) hx hb dX7_press_5 (by decide) (fun c5 => ?_) (fun c5 => ?_)
  · have hF := iff_ c5 hF
    have hba := body_in hO.1 eq2 c5
    refine lv_iload_n hx hb dX7_press_14 rfl (lv_at hl 2 rfl) ?_
    refine lv_iconst (v := 0) hx hb dX7_press_15 (by decide) ?_
    refine lv_bipush (v := 15) hx hb dX7_press_16 (by decide) ?_
    refine va_calli (va_runS (As := [.int b, .int 0, .int 15]) (rest := []) ⟨hx, hb, hml, hown, hts⟩ (c7_isBetween l hA (va_up σ 16 u) b 0 15 ) (va_cwS 3 hts gX7_press_X7_isBetween rfl rfl rfl hd_X7_isBetweenS ⟨Nat.le_of_ble_eq_true rfl, Nat.le_of_ble_eq_true rfl⟩) ⟨hp_blind, hp_pre hK hN hP⟩ rfl rfl hl.1 rfl (lv_room (Nat.le_of_ble_eq_true rfl)) dX7_press_18 ⟨Nat.zero_le _, Nat.zero_le _⟩) hS (fun _ _ h => h) (fun _ h => h) (fun r18 _ t H locs ht hvm hw9 hB hz1 hk1 hS => ?_)
    have hP := ho_at ht hB
    obtain ⟨eq18, hb_r18⟩ := hw9
    have hF := bnd_s eq18 hF
    refine lv_if_ne (tgt := 30) hx hb dX7_press_21 (by decide) (fun c21 => ?_) (fun c21 => ?_)
    · have hF := iff_ c21 hF
      refine lv_aload_n hx hb dX7_press_30 rfl (lv_at hl 0 rfl) ?_
      refine lv_iconst (v := 0) hx hb dX7_press_31 (by decide) ?_
      refine pput16 hx hb hts inX7 tyX7 tyX7_ok nmX7 hown hK hP hA hS (j := 279) (by decide) (by decide) rfl rfl 0 (by decide) (hts (.fieldLink RX7 45 "TileRunnersModel" "thrown" "I") (List.mem_of_getElem? (i := 1) rfl)) (fun _ h9 => h9) rfl (tyX7_ok 0 (by decide)) rfl rfl (Nat.le_of_ble_eq_true rfl) (490) (by decide) (setM_0) dX7_press_32 (fun u9 H locs eu9 hP hS => ?_)
      obtain ⟨u32, e_u32⟩ : ∃ z, z = u9 := ⟨_, rfl⟩
      rw [← e_u32] at hP eu9
      have hF := bnd_s eu9 hF
      have hO := okM_up eu9 hO (by omega) (by omega) (by omega)
      refine lv_aload_n hx hb dX7_press_35 rfl (lv_at hl 0 rfl) ?_
      refine lv_iload_n hx hb dX7_press_36 rfl (lv_at hl 1 rfl) ?_
      refine lv_bipush (v := 9) hx hb dX7_press_37 (by decide) ?_
      refine va_calli (va_runV (As := [.int a, .int 9]) (rest := []) ⟨hx, hb, hml, hown, hts⟩ (c7_of l hA σ u32 a 9 (vp_in_iff.mpr (by decide)) hba) (cwV 2 hts gX7_press_X7_of rfl rfl rfl hd_X7_ofV ⟨Nat.le_of_ble_eq_true rfl, Nat.le_of_ble_eq_true rfl⟩) ⟨hp_blind, va_recv hK hP (ci := 9) (q0 := 279) rfl c_279, hp_pre hK hN hP⟩ rfl rfl hl.1 rfl (lv_room (Nat.le_of_ble_eq_true rfl)) dX7_press_39 ⟨Nat.zero_le _, Nat.zero_le _⟩) hS (fun _ _ h => h) (fun _ h => h) (fun r39 _ t H locs ht hvm hw9 hB hz1 hk1 hS => ?_)
      have hP := ho_at ht hB
      have eq39 := hw9
      have hF := bnd_s eq39 hF
      refine lv_istore_n (lv' := [(3, .int r39), (0, .ref (ad (279))), (1, .int a), (2, .int b)]) hx hb dX7_press_42 rfl hl (by decide) rfl (fun ls hl => ?_)
      refine lv_aload_n hx hb dX7_press_43 rfl (lv_at hl 1 rfl) ?_
      refine lv_iload_n hx hb dX7_press_44 rfl (lv_at hl 2 rfl) ?_
      refine lv_bipush (v := 9) hx hb dX7_press_45 (by decide) ?_
      refine lv_iload_n hx hb dX7_press_47 rfl (lv_at hl 3 rfl) ?_
      refine va_callv (va_runV (As := [.int a, .int 9, .int b]) (rest := []) ⟨hx, hb, hml, hown, hts⟩ (c7_sets l hA σ u32 a 9 b hO (vp_in_iff.mpr (by decide)) hba) (cwV 3 hts gX7_press_X7_sets rfl rfl rfl hd_X7_setsV ⟨Nat.le_of_ble_eq_true rfl, Nat.le_of_ble_eq_true rfl⟩) ⟨hp_blind, va_recv hK hP (ci := 9) (q0 := 279) rfl c_279, hp_pre hK hN hP⟩ rfl rfl hl.1 rfl (lv_room (Nat.le_of_ble_eq_true rfl)) dX7_press_48 ⟨Nat.zero_le _, Nat.zero_le _⟩) hS (fun _ _ h => h) (fun _ h => h) (fun u9 t H locs ht hvm hw9 hB hz1 hk1 hS => ?_)
      have hP := ho_at ht hB
      obtain ⟨eq48, ok9⟩ := hw9
      obtain ⟨u48, e_u48⟩ : ∃ z, z = u9 := ⟨_, rfl⟩
      rw [← e_u48] at hP eq48 ok9
      have hO := ok9
      have hF := bnd_s eq48 hF
      refine lv_iload_n hx hb dX7_press_51 rfl (lv_at hl 0 rfl) ?_
      exact W.iret (v := r39) hx hb hr (fun t ht hW => ⟨⟨r39, u48, rfl, ⟨hF.trans hFF, hO⟩, ho_of ht hP⟩, hS.F ht⟩) hS.2.2 dX7_press_52
    · have hF := ift c21 hF
      refine lv_aload_n hx hb dX7_press_24 rfl (lv_at hl 0 rfl) ?_
      refine lv_iconst (v := 2) hx hb dX7_press_25 (by decide) ?_
      refine va_calli (va_runV (As := [.int 2]) (rest := []) ⟨hx, hb, hml, hown, hts⟩ (c7_fails l hA σ u 2 hO) (cwV 1 hts gX7_press_X7_fails rfl rfl rfl hd_X7_failsV ⟨Nat.le_of_ble_eq_true rfl, Nat.le_of_ble_eq_true rfl⟩) ⟨hp_blind, va_recv hK hP (ci := 9) (q0 := 279) rfl c_279, hp_pre hK hN hP⟩ rfl rfl hl.1 rfl (lv_room (Nat.le_of_ble_eq_true rfl)) dX7_press_26 ⟨Nat.zero_le _, Nat.zero_le _⟩) hS (fun _ _ h => h) (fun _ h => h) (fun r26 u9 t H locs ht hvm hw9 hB hz1 hk1 hS => ?_)
      have hP := ho_at ht hB
      obtain ⟨eq26, ok9⟩ := hw9
      obtain ⟨u26, e_u26⟩ : ∃ z, z = u9 := ⟨_, rfl⟩
      rw [← e_u26] at hP eq26 ok9
      have hO := ok9
      have hF := bnd2_s eq26 hF
      exact W.iret (v := r26) hx hb hr (fun t ht hW => ⟨⟨r26, u26, rfl, ⟨hF.trans hFF, hO⟩, ho_of ht hP⟩, hS.F ht⟩) hS.2.2 dX7_press_29
  · have hF := ift c5 hF
    refine lv_aload_n hx hb dX7_press_8 rfl (lv_at hl 0 rfl) ?_
    refine lv_iconst (v := 1) hx hb dX7_press_9 (by decide) ?_
    refine va_calli (va_runV (As := [.int 1]) (rest := []) ⟨hx, hb, hml, hown, hts⟩ (c7_fails l hA σ u 1 hO) (cwV 1 hts gX7_press_X7_fails rfl rfl rfl hd_X7_failsV ⟨Nat.le_of_ble_eq_true rfl, Nat.le_of_ble_eq_true rfl⟩) ⟨hp_blind, va_recv hK hP (ci := 9) (q0 := 279) rfl c_279, hp_pre hK hN hP⟩ rfl rfl hl.1 rfl (lv_room (Nat.le_of_ble_eq_true rfl)) dX7_press_10 ⟨Nat.zero_le _, Nat.zero_le _⟩) hS (fun _ _ h => h) (fun _ h => h) (fun r10 u9 t H locs ht hvm hw9 hB hz1 hk1 hS => ?_)
    have hP := ho_at ht hB
    obtain ⟨eq10, ok9⟩ := hw9
    obtain ⟨u10, e_u10⟩ : ∃ z, z = u9 := ⟨_, rfl⟩
    rw [← e_u10] at hP eq10 ok9
    have hO := ok9
    have hF := bnd2_s eq10 hF
    exact W.iret (v := r10) hx hb hr (fun t ht hW => ⟨⟨r10, u10, rfl, ⟨hF.trans hFF, hO⟩, ho_of ht hP⟩, hS.F ht⟩) hS.2.2 dX7_press_13
theorem hd_X7_pressV : yX7_press.cls = RX7 ∧ yX7_press.cls ≠ "java/lang/invoke/MethodHandle" ∧ yX7_press.cls ≠ "java/lang/invoke/VarHandle" ∧ (parseMethodDescriptor yX7_press.desc).map (fun d => d.parameters.length) = some 2 := by decide +kernel
set_option maxHeartbeats 4000000 in
set_option maxRecDepth 100000 in
theorem c7_push (l : Launch) {D : va_G} {G : CY} {ad : Nat → Nat} {B0 : Nat} (hA : adOK B0 ad) (σ : Nat → Nat → Int32) (u : Nat → Int32) (a : Int32) (b : Int32) (c1 : Int32) (hO : okM u) : Met l yX7_push wsX7_push { frames := 1, cells := 0, slots := 0, locals := 23 } (va_Pc [.ref (ad (279)), .int a, .int b, .int c1] (Hp D G ad (va_up σ 16 u))) (va_Qi (fun (r : Int32) (z : Nat → Int32) => (r, z) = f7_push u a b c1 ∧ okM z) (fun (z : Nat → Int32) => Ho D G ad (va_up σ 16 z)) (AA B0)) 0 0 (AA B0) := by
  refine Met.ofW (cc := cX7_push) (maxL := 5) (ret := (some .int)) (by decide) rfl ?_
  intro p e s m args below meth c s₁ B hml hv
  obtain ⟨rfl, hP, hK, hN⟩ := hv
  have hx := B.exec
  have hb := B.bytes
  have hr := B.returns
  have hts := atoms_spec (ws := wsX7_push) B.pre
  have hown : s.vm.findClass RX7 = some m.cls := findClass_of_methodNamed B.named
  have hlocks := B.notSynchronized
  have inX7 : ∀ w ∈ wsX70, w ∈ wsX7_push := (fun w h => List.mem_cons_of_mem _ (List.mem_append_left _ (List.mem_append_right _ h)))
  have hP : va_P D vwCl (pool G ad (va_up σ 16 u)) s.heap := hP
  have hS : va_S (AA B0) s.heap s.heap [] := va_S.rf
  have hl := lv_entry ([.ref (ad (279)), .int a, .int b, .int c1]) (n := 5) (Nat.le_of_ble_eq_true rfl)
  rw [lg_entry_eq]
  generalize (lg_sl ([.ref (ad (279)), .int a, .int b, .int c1]) ++ List.replicate (5 - (lg_sl ([.ref (ad (279)), .int a, .int b, .int c1])).length) Slot.unset).toArray = ls at hl ⊢
  have hl : lv_has ls 5 [(0, .ref (ad (279))), (1, .int a), (2, .int b), (3, .int c1)] := hl
  obtain ⟨FF, hFF⟩ : ∃ z, z = f7_push u a b c1 := ⟨_, rfl⟩
  have hF := hFF.symm
  rw [f7_push] at hF
  refine lv_aload_n hx hb dX7_push_0 rfl (lv_at hl 0 rfl) ?_
  refine lv_iload_n hx hb dX7_push_1 rfl (lv_at hl 1 rfl) ?_
  refine va_calli (va_runV (As := [.int a]) (rest := []) ⟨hx, hb, hml, hown, hts⟩ (c7_isBody l hA σ u a ) (cwV 1 hts gX7_push_X7_isBody rfl rfl rfl hd_X7_isBodyV ⟨Nat.le_of_ble_eq_true rfl, Nat.le_of_ble_eq_true rfl⟩) ⟨hp_blind, va_recv hK hP (ci := 9) (q0 := 279) rfl c_279, hp_pre hK hN hP⟩ rfl rfl hl.1 rfl (lv_room (Nat.le_of_ble_eq_true rfl)) dX7_push_2 ⟨Nat.zero_le _, Nat.zero_le _⟩) hS (fun _ _ h => h) (fun _ h => h) (fun r2 _ t H locs ht hvm hw9 hB hz1 hk1 hS => ?_)
  have hP := ho_at ht hB
  obtain ⟨eq2, hb_r2⟩ := hw9
  have hF := bnd_s eq2 hF
  refine lv_if_ne (tgt := 14) hx hb dX7_push_5 (by decide) (fun c5 => ?_) (fun c5 => ?_)
  · have hF := iff_ c5 hF
    have hba := body_in hO.1 eq2 c5
    refine lv_iload_n hx hb dX7_push_14 rfl (lv_at hl 2 rfl) ?_
    refine lv_bipush (v := (-16)) hx hb dX7_push_15 (by decide) ?_
    refine lv_bipush (v := 16) hx hb dX7_push_17 (by decide) ?_
    refine va_calli (va_runS (As := [.int b, .int (-16), .int 16]) (rest := []) ⟨hx, hb, hml, hown, hts⟩ (c7_isBetween l hA (va_up σ 16 u) b (-16) 16 ) (va_cwS 3 hts gX7_push_X7_isBetween rfl rfl rfl hd_X7_isBetweenS ⟨Nat.le_of_ble_eq_true rfl, Nat.le_of_ble_eq_true rfl⟩) ⟨hp_blind, hp_pre hK hN hP⟩ rfl rfl hl.1 rfl (lv_room (Nat.le_of_ble_eq_true rfl)) dX7_push_19 ⟨Nat.zero_le _, Nat.zero_le _⟩) hS (fun _ _ h => h) (fun _ h => h) (fun r19 _ t H locs ht hvm hw9 hB hz1 hk1 hS => ?_)
    have hP := ho_at ht hB
    obtain ⟨eq19, hb_r19⟩ := hw9
    have hF := bnd_s eq19 hF
    refine lv_if_eq (tgt := 36) hx hb dX7_push_22 (by decide) (fun c22 => ?_) (fun c22 => ?_)
    · have hF := ift c22 hF
      refine lv_aload_n hx hb dX7_push_36 rfl (lv_at hl 0 rfl) ?_
      refine lv_iconst (v := 2) hx hb dX7_push_37 (by decide) ?_
      refine va_calli (va_runV (As := [.int 2]) (rest := []) ⟨hx, hb, hml, hown, hts⟩ (c7_fails l hA σ u 2 hO) (cwV 1 hts gX7_push_X7_fails rfl rfl rfl hd_X7_failsV ⟨Nat.le_of_ble_eq_true rfl, Nat.le_of_ble_eq_true rfl⟩) ⟨hp_blind, va_recv hK hP (ci := 9) (q0 := 279) rfl c_279, hp_pre hK hN hP⟩ rfl rfl hl.1 rfl (lv_room (Nat.le_of_ble_eq_true rfl)) dX7_push_38 ⟨Nat.zero_le _, Nat.zero_le _⟩) hS (fun _ _ h => h) (fun _ h => h) (fun r38 u9 t H locs ht hvm hw9 hB hz1 hk1 hS => ?_)
      have hP := ho_at ht hB
      obtain ⟨eq38, ok9⟩ := hw9
      obtain ⟨u38, e_u38⟩ : ∃ z, z = u9 := ⟨_, rfl⟩
      rw [← e_u38] at hP eq38 ok9
      have hO := ok9
      have hF := bnd2_s eq38 hF
      exact W.iret (v := r38) hx hb hr (fun t ht hW => ⟨⟨r38, u38, rfl, ⟨hF.trans hFF, hO⟩, ho_of ht hP⟩, hS.F ht⟩) hS.2.2 dX7_push_41
    · have hF := iff_ c22 hF
      refine lv_iload_n hx hb dX7_push_25 rfl (lv_at hl 3 rfl) ?_
      refine lv_bipush (v := (-12)) hx hb dX7_push_26 (by decide) ?_
      refine lv_bipush (v := 16) hx hb dX7_push_28 (by decide) ?_
      refine va_calli (va_runS (As := [.int c1, .int (-12), .int 16]) (rest := []) ⟨hx, hb, hml, hown, hts⟩ (c7_isBetween l hA (va_up σ 16 u) c1 (-12) 16 ) (va_cwS 3 hts gX7_push_X7_isBetween rfl rfl rfl hd_X7_isBetweenS ⟨Nat.le_of_ble_eq_true rfl, Nat.le_of_ble_eq_true rfl⟩) ⟨hp_blind, hp_pre hK hN hP⟩ rfl rfl hl.1 rfl (lv_room (Nat.le_of_ble_eq_true rfl)) dX7_push_30 ⟨Nat.zero_le _, Nat.zero_le _⟩) hS (fun _ _ h => h) (fun _ h => h) (fun r30 _ t H locs ht hvm hw9 hB hz1 hk1 hS => ?_)
      have hP := ho_at ht hB
      obtain ⟨eq30, hb_r30⟩ := hw9
      have hF := bnd_s eq30 hF
      refine lv_if_ne (tgt := 42) hx hb dX7_push_33 (by decide) (fun c33 => ?_) (fun c33 => ?_)
      · have hF := iff_ c33 hF
        refine lv_aload_n hx hb dX7_push_42 rfl (lv_at hl 0 rfl) ?_
        refine lv_iconst (v := 0) hx hb dX7_push_43 (by decide) ?_
        refine pput16 hx hb hts inX7 tyX7 tyX7_ok nmX7 hown hK hP hA hS (j := 279) (by decide) (by decide) rfl rfl 0 (by decide) (hts (.fieldLink RX7 45 "TileRunnersModel" "thrown" "I") (List.mem_of_getElem? (i := 1) rfl)) (fun _ h9 => h9) rfl (tyX7_ok 0 (by decide)) rfl rfl (Nat.le_of_ble_eq_true rfl) (490) (by decide) (setM_0) dX7_push_44 (fun u9 H locs eu9 hP hS => ?_)
        obtain ⟨u44, e_u44⟩ : ∃ z, z = u9 := ⟨_, rfl⟩
        rw [← e_u44] at hP eu9
        have hF := bnd_s eu9 hF
        have hO := okM_up eu9 hO (by omega) (by omega) (by omega)
        refine lv_aload_n hx hb dX7_push_47 rfl (lv_at hl 0 rfl) ?_
        refine lv_iload_n hx hb dX7_push_48 rfl (lv_at hl 1 rfl) ?_
        refine lv_iconst (v := 2) hx hb dX7_push_49 (by decide) ?_
        refine va_calli (va_runV (As := [.int a, .int 2]) (rest := []) ⟨hx, hb, hml, hown, hts⟩ (c7_of l hA σ u44 a 2 (vp_in_iff.mpr (by decide)) hba) (cwV 2 hts gX7_push_X7_of rfl rfl rfl hd_X7_ofV ⟨Nat.le_of_ble_eq_true rfl, Nat.le_of_ble_eq_true rfl⟩) ⟨hp_blind, va_recv hK hP (ci := 9) (q0 := 279) rfl c_279, hp_pre hK hN hP⟩ rfl rfl hl.1 rfl (lv_room (Nat.le_of_ble_eq_true rfl)) dX7_push_50 ⟨Nat.zero_le _, Nat.zero_le _⟩) hS (fun _ _ h => h) (fun _ h => h) (fun r50 _ t H locs ht hvm hw9 hB hz1 hk1 hS => ?_)
        have hP := ho_at ht hB
        have eq50 := hw9
        have hF := bnd_s eq50 hF
        refine lv_aload_n hx hb dX7_push_53 rfl (lv_at hl 0 rfl) ?_
        refine lv_iload_n hx hb dX7_push_54 rfl (lv_at hl 1 rfl) ?_
        refine lv_iconst (v := 2) hx hb dX7_push_55 (by decide) ?_
        refine va_calli (va_runV (As := [.int a, .int 2]) (rest := [.int r50]) ⟨hx, hb, hml, hown, hts⟩ (c7_of l hA σ u44 a 2 (vp_in_iff.mpr (by decide)) hba) (cwV 2 hts gX7_push_X7_of rfl rfl rfl hd_X7_ofV ⟨Nat.le_of_ble_eq_true rfl, Nat.le_of_ble_eq_true rfl⟩) ⟨hp_blind, va_recv hK hP (ci := 9) (q0 := 279) rfl c_279, hp_pre hK hN hP⟩ rfl rfl hl.1 rfl (lv_room (Nat.le_of_ble_eq_true rfl)) dX7_push_56 ⟨Nat.zero_le _, Nat.zero_le _⟩) hS (fun _ _ h => h) (fun _ h => h) (fun r56 _ t H locs ht hvm hw9 hB hz1 hk1 hS => ?_)
        have hP := ho_at ht hB
        have eq56 := hw9
        have hF := bnd_s eq56 hF
        refine lv_imul hx hb dX7_push_59 ?_
        refine lv_aload_n hx hb dX7_push_60 rfl (lv_at hl 0 rfl) ?_
        refine lv_iload_n hx hb dX7_push_61 rfl (lv_at hl 1 rfl) ?_
        refine lv_iconst (v := 3) hx hb dX7_push_62 (by decide) ?_
        refine va_calli (va_runV (As := [.int a, .int 3]) (rest := [.int (r50 * r56)]) ⟨hx, hb, hml, hown, hts⟩ (c7_of l hA σ u44 a 3 (vp_in_iff.mpr (by decide)) hba) (cwV 2 hts gX7_push_X7_of rfl rfl rfl hd_X7_ofV ⟨Nat.le_of_ble_eq_true rfl, Nat.le_of_ble_eq_true rfl⟩) ⟨hp_blind, va_recv hK hP (ci := 9) (q0 := 279) rfl c_279, hp_pre hK hN hP⟩ rfl rfl hl.1 rfl (lv_room (Nat.le_of_ble_eq_true rfl)) dX7_push_63 ⟨Nat.zero_le _, Nat.zero_le _⟩) hS (fun _ _ h => h) (fun _ h => h) (fun r63 _ t H locs ht hvm hw9 hB hz1 hk1 hS => ?_)
        have hP := ho_at ht hB
        have eq63 := hw9
        have hF := bnd_s eq63 hF
        refine lv_aload_n hx hb dX7_push_66 rfl (lv_at hl 0 rfl) ?_
        refine lv_iload_n hx hb dX7_push_67 rfl (lv_at hl 1 rfl) ?_
        refine lv_iconst (v := 3) hx hb dX7_push_68 (by decide) ?_
        refine va_calli (va_runV (As := [.int a, .int 3]) (rest := [.int r63, .int (r50 * r56)]) ⟨hx, hb, hml, hown, hts⟩ (c7_of l hA σ u44 a 3 (vp_in_iff.mpr (by decide)) hba) (cwV 2 hts gX7_push_X7_of rfl rfl rfl hd_X7_ofV ⟨Nat.le_of_ble_eq_true rfl, Nat.le_of_ble_eq_true rfl⟩) ⟨hp_blind, va_recv hK hP (ci := 9) (q0 := 279) rfl c_279, hp_pre hK hN hP⟩ rfl rfl hl.1 rfl (lv_room (Nat.le_of_ble_eq_true rfl)) dX7_push_69 ⟨Nat.zero_le _, Nat.zero_le _⟩) hS (fun _ _ h => h) (fun _ h => h) (fun r69 _ t H locs ht hvm hw9 hB hz1 hk1 hS => ?_)
        have hP := ho_at ht hB
        have eq69 := hw9
        have hF := bnd_s eq69 hF
        refine lv_imul hx hb dX7_push_72 ?_
        refine lv_iadd hx hb dX7_push_73 ?_
        refine lv_topi (fun v4_74 e_v4_74 => ?_)
        have hF := bnd_s e_v4_74 hF
        refine lv_istore (lv' := [(4, .int v4_74), (0, .ref (ad (279))), (1, .int a), (2, .int b), (3, .int c1)]) hx hb dX7_push_74 hl (by decide) rfl (fun ls hl => ?_)
        refine lv_aload_n hx hb dX7_push_76 rfl (lv_at hl 1 rfl) ?_
        refine lv_iload_n hx hb dX7_push_77 rfl (lv_at hl 2 rfl) ?_
        refine lv_iconst (v := 2) hx hb dX7_push_78 (by decide) ?_
        refine lv_iload_n hx hb dX7_push_79 rfl (lv_at hl 3 rfl) ?_
        refine va_callv (va_runV (As := [.int a, .int 2, .int b]) (rest := []) ⟨hx, hb, hml, hown, hts⟩ (c7_sets l hA σ u44 a 2 b hO (vp_in_iff.mpr (by decide)) hba) (cwV 3 hts gX7_push_X7_sets rfl rfl rfl hd_X7_setsV ⟨Nat.le_of_ble_eq_true rfl, Nat.le_of_ble_eq_true rfl⟩) ⟨hp_blind, va_recv hK hP (ci := 9) (q0 := 279) rfl c_279, hp_pre hK hN hP⟩ rfl rfl hl.1 rfl (lv_room (Nat.le_of_ble_eq_true rfl)) dX7_push_80 ⟨Nat.zero_le _, Nat.zero_le _⟩) hS (fun _ _ h => h) (fun _ h => h) (fun u9 t H locs ht hvm hw9 hB hz1 hk1 hS => ?_)
        have hP := ho_at ht hB
        obtain ⟨eq80, ok9⟩ := hw9
        obtain ⟨u80, e_u80⟩ : ∃ z, z = u9 := ⟨_, rfl⟩
        rw [← e_u80] at hP eq80 ok9
        have hO := ok9
        have hF := bnd_s eq80 hF
        refine lv_aload_n hx hb dX7_push_83 rfl (lv_at hl 1 rfl) ?_
        refine lv_iload_n hx hb dX7_push_84 rfl (lv_at hl 2 rfl) ?_
        refine lv_iconst (v := 3) hx hb dX7_push_85 (by decide) ?_
        refine lv_iload_n hx hb dX7_push_86 rfl (lv_at hl 4 rfl) ?_
        refine va_callv (va_runV (As := [.int a, .int 3, .int c1]) (rest := []) ⟨hx, hb, hml, hown, hts⟩ (c7_sets l hA σ u80 a 3 c1 hO (vp_in_iff.mpr (by decide)) hba) (cwV 3 hts gX7_push_X7_sets rfl rfl rfl hd_X7_setsV ⟨Nat.le_of_ble_eq_true rfl, Nat.le_of_ble_eq_true rfl⟩) ⟨hp_blind, va_recv hK hP (ci := 9) (q0 := 279) rfl c_279, hp_pre hK hN hP⟩ rfl rfl hl.1 rfl (lv_room (Nat.le_of_ble_eq_true rfl)) dX7_push_87 ⟨Nat.zero_le _, Nat.zero_le _⟩) hS (fun _ _ h => h) (fun _ h => h) (fun u9 t H locs ht hvm hw9 hB hz1 hk1 hS => ?_)
        have hP := ho_at ht hB
        obtain ⟨eq87, ok9⟩ := hw9
        obtain ⟨u87, e_u87⟩ : ∃ z, z = u9 := ⟨_, rfl⟩
        rw [← e_u87] at hP eq87 ok9
        have hO := ok9
        have hF := bnd_s eq87 hF
        refine lv_aload_n hx hb dX7_push_90 rfl (lv_at hl 1 rfl) ?_
        refine lv_iload_n hx hb dX7_push_91 rfl (lv_at hl 2 rfl) ?_
        refine lv_bipush (v := 11) hx hb dX7_push_92 (by decide) ?_
        refine lv_iconst (v := 0) hx hb dX7_push_94 (by decide) ?_
        refine va_callv (va_runV (As := [.int a, .int 11, .int 0]) (rest := []) ⟨hx, hb, hml, hown, hts⟩ (c7_sets l hA σ u87 a 11 0 hO (vp_in_iff.mpr (by decide)) hba) (cwV 3 hts gX7_push_X7_sets rfl rfl rfl hd_X7_setsV ⟨Nat.le_of_ble_eq_true rfl, Nat.le_of_ble_eq_true rfl⟩) ⟨hp_blind, va_recv hK hP (ci := 9) (q0 := 279) rfl c_279, hp_pre hK hN hP⟩ rfl rfl hl.1 rfl (lv_room (Nat.le_of_ble_eq_true rfl)) dX7_push_95 ⟨Nat.zero_le _, Nat.zero_le _⟩) hS (fun _ _ h => h) (fun _ h => h) (fun u9 t H locs ht hvm hw9 hB hz1 hk1 hS => ?_)
        have hP := ho_at ht hB
        obtain ⟨eq95, ok9⟩ := hw9
        obtain ⟨u95, e_u95⟩ : ∃ z, z = u9 := ⟨_, rfl⟩
        rw [← e_u95] at hP eq95 ok9
        have hO := ok9
        have hF := bnd_s eq95 hF
        refine lv_iload hx hb dX7_push_98 (lv_at hl 0 rfl) ?_
        exact W.iret (v := v4_74) hx hb hr (fun t ht hW => ⟨⟨v4_74, u95, rfl, ⟨hF.trans hFF, hO⟩, ho_of ht hP⟩, hS.F ht⟩) hS.2.2 dX7_push_100
      · have hF := ift c33 hF
        refine lv_aload_n hx hb dX7_push_36 rfl (lv_at hl 0 rfl) ?_
        refine lv_iconst (v := 2) hx hb dX7_push_37 (by decide) ?_
        refine va_calli (va_runV (As := [.int 2]) (rest := []) ⟨hx, hb, hml, hown, hts⟩ (c7_fails l hA σ u 2 hO) (cwV 1 hts gX7_push_X7_fails rfl rfl rfl hd_X7_failsV ⟨Nat.le_of_ble_eq_true rfl, Nat.le_of_ble_eq_true rfl⟩) ⟨hp_blind, va_recv hK hP (ci := 9) (q0 := 279) rfl c_279, hp_pre hK hN hP⟩ rfl rfl hl.1 rfl (lv_room (Nat.le_of_ble_eq_true rfl)) dX7_push_38 ⟨Nat.zero_le _, Nat.zero_le _⟩) hS (fun _ _ h => h) (fun _ h => h) (fun r38 u9 t H locs ht hvm hw9 hB hz1 hk1 hS => ?_)
        have hP := ho_at ht hB
        obtain ⟨eq38, ok9⟩ := hw9
        obtain ⟨u38, e_u38⟩ : ∃ z, z = u9 := ⟨_, rfl⟩
        rw [← e_u38] at hP eq38 ok9
        have hO := ok9
        have hF := bnd2_s eq38 hF
        exact W.iret (v := r38) hx hb hr (fun t ht hW => ⟨⟨r38, u38, rfl, ⟨hF.trans hFF, hO⟩, ho_of ht hP⟩, hS.F ht⟩) hS.2.2 dX7_push_41
  · have hF := ift c5 hF
    refine lv_aload_n hx hb dX7_push_8 rfl (lv_at hl 0 rfl) ?_
    refine lv_iconst (v := 1) hx hb dX7_push_9 (by decide) ?_
    refine va_calli (va_runV (As := [.int 1]) (rest := []) ⟨hx, hb, hml, hown, hts⟩ (c7_fails l hA σ u 1 hO) (cwV 1 hts gX7_push_X7_fails rfl rfl rfl hd_X7_failsV ⟨Nat.le_of_ble_eq_true rfl, Nat.le_of_ble_eq_true rfl⟩) ⟨hp_blind, va_recv hK hP (ci := 9) (q0 := 279) rfl c_279, hp_pre hK hN hP⟩ rfl rfl hl.1 rfl (lv_room (Nat.le_of_ble_eq_true rfl)) dX7_push_10 ⟨Nat.zero_le _, Nat.zero_le _⟩) hS (fun _ _ h => h) (fun _ h => h) (fun r10 u9 t H locs ht hvm hw9 hB hz1 hk1 hS => ?_)
    have hP := ho_at ht hB
    obtain ⟨eq10, ok9⟩ := hw9
    obtain ⟨u10, e_u10⟩ : ∃ z, z = u9 := ⟨_, rfl⟩
    rw [← e_u10] at hP eq10 ok9
    have hO := ok9
    have hF := bnd2_s eq10 hF
    exact W.iret (v := r10) hx hb hr (fun t ht hW => ⟨⟨r10, u10, rfl, ⟨hF.trans hFF, hO⟩, ho_of ht hP⟩, hS.F ht⟩) hS.2.2 dX7_push_13
theorem hd_X7_pushV : yX7_push.cls = RX7 ∧ yX7_push.cls ≠ "java/lang/invoke/MethodHandle" ∧ yX7_push.cls ≠ "java/lang/invoke/VarHandle" ∧ (parseMethodDescriptor yX7_push.desc).map (fun d => d.parameters.length) = some 3 := by decide +kernel
set_option maxHeartbeats 4000000 in
set_option maxRecDepth 100000 in
theorem c7_addPlatform (l : Launch) {D : va_G} {G : CY} {ad : Nat → Nat} {B0 : Nat} (hA : adOK B0 ad) (σ : Nat → Nat → Int32) (u : Nat → Int32) (a : Int32) (b : Int32) (c1 : Int32) (d : Int32) (e1 : Int32) (f1 : Int32) (hO : okM u) : Met l yX7_addPlatform wsX7_addPlatform { frames := 1, cells := 0, slots := 0, locals := 23 } (va_Pc [.ref (ad (279)), .int a, .int b, .int c1, .int d, .int e1, .int f1] (Hp D G ad (va_up σ 16 u))) (va_Qi (fun (r : Int32) (z : Nat → Int32) => (r, z) = f7_addPlatform u a b c1 d e1 f1 ∧ okM z) (fun (z : Nat → Int32) => Ho D G ad (va_up σ 16 z)) (AA B0)) 0 0 (AA B0) := by
  refine Met.ofW (cc := cX7_addPlatform) (maxL := 8) (ret := (some .int)) (by decide) rfl ?_
  intro p e s m args below meth c s₁ B hml hv
  obtain ⟨rfl, hP, hK, hN⟩ := hv
  have hx := B.exec
  have hb := B.bytes
  have hr := B.returns
  have hts := atoms_spec (ws := wsX7_addPlatform) B.pre
  have hown : s.vm.findClass RX7 = some m.cls := findClass_of_methodNamed B.named
  have hlocks := B.notSynchronized
  have inX7 : ∀ w ∈ wsX70, w ∈ wsX7_addPlatform := (fun w h => List.mem_cons_of_mem _ (List.mem_append_left _ (List.mem_append_right _ h)))
  have hP : va_P D vwCl (pool G ad (va_up σ 16 u)) s.heap := hP
  have hS : va_S (AA B0) s.heap s.heap [] := va_S.rf
  have hl := lv_entry ([.ref (ad (279)), .int a, .int b, .int c1, .int d, .int e1, .int f1]) (n := 8) (Nat.le_of_ble_eq_true rfl)
  rw [lg_entry_eq]
  generalize (lg_sl ([.ref (ad (279)), .int a, .int b, .int c1, .int d, .int e1, .int f1]) ++ List.replicate (8 - (lg_sl ([.ref (ad (279)), .int a, .int b, .int c1, .int d, .int e1, .int f1])).length) Slot.unset).toArray = ls at hl ⊢
  have hl : lv_has ls 8 [(0, .ref (ad (279))), (1, .int a), (2, .int b), (3, .int c1), (4, .int d), (5, .int e1), (6, .int f1)] := hl
  obtain ⟨FF, hFF⟩ : ∃ z, z = f7_addPlatform u a b c1 d e1 f1 := ⟨_, rfl⟩
  have hF := hFF.symm
  rw [f7_addPlatform] at hF
  refine lv_iload_n hx hb dX7_addPlatform_0 rfl (lv_at hl 1 rfl) ?_
  refine lv_iconst (v := 0) hx hb dX7_addPlatform_1 (by decide) ?_
  refine lv_sipush (v := 383) hx hb dX7_addPlatform_2 (by decide) ?_
  refine va_calli (va_runS (As := [.int a, .int 0, .int 383]) (rest := []) ⟨hx, hb, hml, hown, hts⟩ (c7_isBetween l hA (va_up σ 16 u) a 0 383 ) (va_cwS 3 hts gX7_addPlatform_X7_isBetween rfl rfl rfl hd_X7_isBetweenS ⟨Nat.le_of_ble_eq_true rfl, Nat.le_of_ble_eq_true rfl⟩) ⟨hp_blind, hp_pre hK hN hP⟩ rfl rfl hl.1 rfl (lv_room (Nat.le_of_ble_eq_true rfl)) dX7_addPlatform_5 ⟨Nat.zero_le _, Nat.zero_le _⟩) hS (fun _ _ h => h) (fun _ h => h) (fun r5 _ t H locs ht hvm hw9 hB hz1 hk1 hS => ?_)
  have hP := ho_at ht hB
  obtain ⟨eq5, hb_r5⟩ := hw9
  have hF := bnd_s eq5 hF
  refine lv_if_eq (tgt := 66) hx hb dX7_addPlatform_8 (by decide) (fun c8 => ?_) (fun c8 => ?_)
  · have hF := ift c8 hF
    refine lv_aload_n hx hb dX7_addPlatform_66 rfl (lv_at hl 0 rfl) ?_
    refine lv_iconst (v := 1) hx hb dX7_addPlatform_67 (by decide) ?_
    refine va_calli (va_runV (As := [.int 1]) (rest := []) ⟨hx, hb, hml, hown, hts⟩ (c7_fails l hA σ u 1 hO) (cwV 1 hts gX7_addPlatform_X7_fails rfl rfl rfl hd_X7_failsV ⟨Nat.le_of_ble_eq_true rfl, Nat.le_of_ble_eq_true rfl⟩) ⟨hp_blind, va_recv hK hP (ci := 9) (q0 := 279) rfl c_279, hp_pre hK hN hP⟩ rfl rfl hl.1 rfl (lv_room (Nat.le_of_ble_eq_true rfl)) dX7_addPlatform_68 ⟨Nat.zero_le _, Nat.zero_le _⟩) hS (fun _ _ h => h) (fun _ h => h) (fun r68 u9 t H locs ht hvm hw9 hB hz1 hk1 hS => ?_)
    have hP := ho_at ht hB
    obtain ⟨eq68, ok9⟩ := hw9
    obtain ⟨u68, e_u68⟩ : ∃ z, z = u9 := ⟨_, rfl⟩
    rw [← e_u68] at hP eq68 ok9
    have hO := ok9
    have hF := bnd2_s eq68 hF
    exact W.iret (v := r68) hx hb hr (fun t ht hW => ⟨⟨r68, u68, rfl, ⟨hF.trans hFF, hO⟩, ho_of ht hP⟩, hS.F ht⟩) hS.2.2 dX7_addPlatform_71
  · have hF := iff_ c8 hF
    refine lv_iload_n hx hb dX7_addPlatform_11 rfl (lv_at hl 2 rfl) ?_
    refine lv_iconst (v := 0) hx hb dX7_addPlatform_12 (by decide) ?_
    refine lv_sipush (v := 223) hx hb dX7_addPlatform_13 (by decide) ?_
    refine va_calli (va_runS (As := [.int b, .int 0, .int 223]) (rest := []) ⟨hx, hb, hml, hown, hts⟩ (c7_isBetween l hA (va_up σ 16 u) b 0 223 ) (va_cwS 3 hts gX7_addPlatform_X7_isBetween rfl rfl rfl hd_X7_isBetweenS ⟨Nat.le_of_ble_eq_true rfl, Nat.le_of_ble_eq_true rfl⟩) ⟨hp_blind, hp_pre hK hN hP⟩ rfl rfl hl.1 rfl (lv_room (Nat.le_of_ble_eq_true rfl)) dX7_addPlatform_16 ⟨Nat.zero_le _, Nat.zero_le _⟩) hS (fun _ _ h => h) (fun _ h => h) (fun r16 _ t H locs ht hvm hw9 hB hz1 hk1 hS => ?_)
    have hP := ho_at ht hB
    obtain ⟨eq16, hb_r16⟩ := hw9
    have hF := bnd_s eq16 hF
    refine lv_if_eq (tgt := 66) hx hb dX7_addPlatform_19 (by decide) (fun c19 => ?_) (fun c19 => ?_)
    · have hF := ift c19 hF
      refine lv_aload_n hx hb dX7_addPlatform_66 rfl (lv_at hl 0 rfl) ?_
      refine lv_iconst (v := 1) hx hb dX7_addPlatform_67 (by decide) ?_
      refine va_calli (va_runV (As := [.int 1]) (rest := []) ⟨hx, hb, hml, hown, hts⟩ (c7_fails l hA σ u 1 hO) (cwV 1 hts gX7_addPlatform_X7_fails rfl rfl rfl hd_X7_failsV ⟨Nat.le_of_ble_eq_true rfl, Nat.le_of_ble_eq_true rfl⟩) ⟨hp_blind, va_recv hK hP (ci := 9) (q0 := 279) rfl c_279, hp_pre hK hN hP⟩ rfl rfl hl.1 rfl (lv_room (Nat.le_of_ble_eq_true rfl)) dX7_addPlatform_68 ⟨Nat.zero_le _, Nat.zero_le _⟩) hS (fun _ _ h => h) (fun _ h => h) (fun r68 u9 t H locs ht hvm hw9 hB hz1 hk1 hS => ?_)
      have hP := ho_at ht hB
      obtain ⟨eq68, ok9⟩ := hw9
      obtain ⟨u68, e_u68⟩ : ∃ z, z = u9 := ⟨_, rfl⟩
      rw [← e_u68] at hP eq68 ok9
      have hO := ok9
      have hF := bnd2_s eq68 hF
      exact W.iret (v := r68) hx hb hr (fun t ht hW => ⟨⟨r68, u68, rfl, ⟨hF.trans hFF, hO⟩, ho_of ht hP⟩, hS.F ht⟩) hS.2.2 dX7_addPlatform_71
    · have hF := iff_ c19 hF
      refine lv_iload_n hx hb dX7_addPlatform_22 rfl (lv_at hl 3 rfl) ?_
      refine lv_bipush (v := 16) hx hb dX7_addPlatform_23 (by decide) ?_
      refine lv_bipush (v := 64) hx hb dX7_addPlatform_25 (by decide) ?_
      refine va_calli (va_runS (As := [.int c1, .int 16, .int 64]) (rest := []) ⟨hx, hb, hml, hown, hts⟩ (c7_isBetween l hA (va_up σ 16 u) c1 16 64 ) (va_cwS 3 hts gX7_addPlatform_X7_isBetween rfl rfl rfl hd_X7_isBetweenS ⟨Nat.le_of_ble_eq_true rfl, Nat.le_of_ble_eq_true rfl⟩) ⟨hp_blind, hp_pre hK hN hP⟩ rfl rfl hl.1 rfl (lv_room (Nat.le_of_ble_eq_true rfl)) dX7_addPlatform_27 ⟨Nat.zero_le _, Nat.zero_le _⟩) hS (fun _ _ h => h) (fun _ h => h) (fun r27 _ t H locs ht hvm hw9 hB hz1 hk1 hS => ?_)
      have hP := ho_at ht hB
      obtain ⟨eq27, hb_r27⟩ := hw9
      have hF := bnd_s eq27 hF
      refine lv_if_eq (tgt := 66) hx hb dX7_addPlatform_30 (by decide) (fun c30 => ?_) (fun c30 => ?_)
      · have hF := ift c30 hF
        refine lv_aload_n hx hb dX7_addPlatform_66 rfl (lv_at hl 0 rfl) ?_
        refine lv_iconst (v := 1) hx hb dX7_addPlatform_67 (by decide) ?_
        refine va_calli (va_runV (As := [.int 1]) (rest := []) ⟨hx, hb, hml, hown, hts⟩ (c7_fails l hA σ u 1 hO) (cwV 1 hts gX7_addPlatform_X7_fails rfl rfl rfl hd_X7_failsV ⟨Nat.le_of_ble_eq_true rfl, Nat.le_of_ble_eq_true rfl⟩) ⟨hp_blind, va_recv hK hP (ci := 9) (q0 := 279) rfl c_279, hp_pre hK hN hP⟩ rfl rfl hl.1 rfl (lv_room (Nat.le_of_ble_eq_true rfl)) dX7_addPlatform_68 ⟨Nat.zero_le _, Nat.zero_le _⟩) hS (fun _ _ h => h) (fun _ h => h) (fun r68 u9 t H locs ht hvm hw9 hB hz1 hk1 hS => ?_)
        have hP := ho_at ht hB
        obtain ⟨eq68, ok9⟩ := hw9
        obtain ⟨u68, e_u68⟩ : ∃ z, z = u9 := ⟨_, rfl⟩
        rw [← e_u68] at hP eq68 ok9
        have hO := ok9
        have hF := bnd2_s eq68 hF
        exact W.iret (v := r68) hx hb hr (fun t ht hW => ⟨⟨r68, u68, rfl, ⟨hF.trans hFF, hO⟩, ho_of ht hP⟩, hS.F ht⟩) hS.2.2 dX7_addPlatform_71
      · have hF := iff_ c30 hF
        refine lv_iload hx hb dX7_addPlatform_33 (lv_at hl 4 rfl) ?_
        refine lv_bipush (v := (-2)) hx hb dX7_addPlatform_35 (by decide) ?_
        refine lv_iconst (v := 2) hx hb dX7_addPlatform_37 (by decide) ?_
        refine va_calli (va_runS (As := [.int d, .int (-2), .int 2]) (rest := []) ⟨hx, hb, hml, hown, hts⟩ (c7_isBetween l hA (va_up σ 16 u) d (-2) 2 ) (va_cwS 3 hts gX7_addPlatform_X7_isBetween rfl rfl rfl hd_X7_isBetweenS ⟨Nat.le_of_ble_eq_true rfl, Nat.le_of_ble_eq_true rfl⟩) ⟨hp_blind, hp_pre hK hN hP⟩ rfl rfl hl.1 rfl (lv_room (Nat.le_of_ble_eq_true rfl)) dX7_addPlatform_38 ⟨Nat.zero_le _, Nat.zero_le _⟩) hS (fun _ _ h => h) (fun _ h => h) (fun r38 _ t H locs ht hvm hw9 hB hz1 hk1 hS => ?_)
        have hP := ho_at ht hB
        obtain ⟨eq38, hb_r38⟩ := hw9
        have hF := bnd_s eq38 hF
        refine lv_if_eq (tgt := 66) hx hb dX7_addPlatform_41 (by decide) (fun c41 => ?_) (fun c41 => ?_)
        · have hF := ift c41 hF
          refine lv_aload_n hx hb dX7_addPlatform_66 rfl (lv_at hl 0 rfl) ?_
          refine lv_iconst (v := 1) hx hb dX7_addPlatform_67 (by decide) ?_
          refine va_calli (va_runV (As := [.int 1]) (rest := []) ⟨hx, hb, hml, hown, hts⟩ (c7_fails l hA σ u 1 hO) (cwV 1 hts gX7_addPlatform_X7_fails rfl rfl rfl hd_X7_failsV ⟨Nat.le_of_ble_eq_true rfl, Nat.le_of_ble_eq_true rfl⟩) ⟨hp_blind, va_recv hK hP (ci := 9) (q0 := 279) rfl c_279, hp_pre hK hN hP⟩ rfl rfl hl.1 rfl (lv_room (Nat.le_of_ble_eq_true rfl)) dX7_addPlatform_68 ⟨Nat.zero_le _, Nat.zero_le _⟩) hS (fun _ _ h => h) (fun _ h => h) (fun r68 u9 t H locs ht hvm hw9 hB hz1 hk1 hS => ?_)
          have hP := ho_at ht hB
          obtain ⟨eq68, ok9⟩ := hw9
          obtain ⟨u68, e_u68⟩ : ∃ z, z = u9 := ⟨_, rfl⟩
          rw [← e_u68] at hP eq68 ok9
          have hO := ok9
          have hF := bnd2_s eq68 hF
          exact W.iret (v := r68) hx hb hr (fun t ht hW => ⟨⟨r68, u68, rfl, ⟨hF.trans hFF, hO⟩, ho_of ht hP⟩, hS.F ht⟩) hS.2.2 dX7_addPlatform_71
        · have hF := iff_ c41 hF
          refine lv_iload hx hb dX7_addPlatform_44 (lv_at hl 5 rfl) ?_
          refine lv_bipush (v := (-2)) hx hb dX7_addPlatform_46 (by decide) ?_
          refine lv_iconst (v := 2) hx hb dX7_addPlatform_48 (by decide) ?_
          refine va_calli (va_runS (As := [.int e1, .int (-2), .int 2]) (rest := []) ⟨hx, hb, hml, hown, hts⟩ (c7_isBetween l hA (va_up σ 16 u) e1 (-2) 2 ) (va_cwS 3 hts gX7_addPlatform_X7_isBetween rfl rfl rfl hd_X7_isBetweenS ⟨Nat.le_of_ble_eq_true rfl, Nat.le_of_ble_eq_true rfl⟩) ⟨hp_blind, hp_pre hK hN hP⟩ rfl rfl hl.1 rfl (lv_room (Nat.le_of_ble_eq_true rfl)) dX7_addPlatform_49 ⟨Nat.zero_le _, Nat.zero_le _⟩) hS (fun _ _ h => h) (fun _ h => h) (fun r49 _ t H locs ht hvm hw9 hB hz1 hk1 hS => ?_)
          have hP := ho_at ht hB
          obtain ⟨eq49, hb_r49⟩ := hw9
          have hF := bnd_s eq49 hF
          refine lv_if_eq (tgt := 66) hx hb dX7_addPlatform_52 (by decide) (fun c52 => ?_) (fun c52 => ?_)
          · have hF := ift c52 hF
            refine lv_aload_n hx hb dX7_addPlatform_66 rfl (lv_at hl 0 rfl) ?_
            refine lv_iconst (v := 1) hx hb dX7_addPlatform_67 (by decide) ?_
            refine va_calli (va_runV (As := [.int 1]) (rest := []) ⟨hx, hb, hml, hown, hts⟩ (c7_fails l hA σ u 1 hO) (cwV 1 hts gX7_addPlatform_X7_fails rfl rfl rfl hd_X7_failsV ⟨Nat.le_of_ble_eq_true rfl, Nat.le_of_ble_eq_true rfl⟩) ⟨hp_blind, va_recv hK hP (ci := 9) (q0 := 279) rfl c_279, hp_pre hK hN hP⟩ rfl rfl hl.1 rfl (lv_room (Nat.le_of_ble_eq_true rfl)) dX7_addPlatform_68 ⟨Nat.zero_le _, Nat.zero_le _⟩) hS (fun _ _ h => h) (fun _ h => h) (fun r68 u9 t H locs ht hvm hw9 hB hz1 hk1 hS => ?_)
            have hP := ho_at ht hB
            obtain ⟨eq68, ok9⟩ := hw9
            obtain ⟨u68, e_u68⟩ : ∃ z, z = u9 := ⟨_, rfl⟩
            rw [← e_u68] at hP eq68 ok9
            have hO := ok9
            have hF := bnd2_s eq68 hF
            exact W.iret (v := r68) hx hb hr (fun t ht hW => ⟨⟨r68, u68, rfl, ⟨hF.trans hFF, hO⟩, ho_of ht hP⟩, hS.F ht⟩) hS.2.2 dX7_addPlatform_71
          · have hF := iff_ c52 hF
            refine lv_iload hx hb dX7_addPlatform_55 (lv_at hl 6 rfl) ?_
            refine lv_iconst (v := 1) hx hb dX7_addPlatform_57 (by decide) ?_
            refine lv_bipush (v := 60) hx hb dX7_addPlatform_58 (by decide) ?_
            refine va_calli (va_runS (As := [.int f1, .int 1, .int 60]) (rest := []) ⟨hx, hb, hml, hown, hts⟩ (c7_isBetween l hA (va_up σ 16 u) f1 1 60 ) (va_cwS 3 hts gX7_addPlatform_X7_isBetween rfl rfl rfl hd_X7_isBetweenS ⟨Nat.le_of_ble_eq_true rfl, Nat.le_of_ble_eq_true rfl⟩) ⟨hp_blind, hp_pre hK hN hP⟩ rfl rfl hl.1 rfl (lv_room (Nat.le_of_ble_eq_true rfl)) dX7_addPlatform_60 ⟨Nat.zero_le _, Nat.zero_le _⟩) hS (fun _ _ h => h) (fun _ h => h) (fun r60 _ t H locs ht hvm hw9 hB hz1 hk1 hS => ?_)
            have hP := ho_at ht hB
            obtain ⟨eq60, hb_r60⟩ := hw9
            have hF := bnd_s eq60 hF
            refine lv_if_ne (tgt := 72) hx hb dX7_addPlatform_63 (by decide) (fun c63 => ?_) (fun c63 => ?_)
            · have hF := iff_ c63 hF
              refine lv_aload_n hx hb dX7_addPlatform_72 rfl (lv_at hl 0 rfl) ?_
              refine va_get (D := D) (ci := 9) (C := RX7) (T := TX7) (N := 17) hx hb hts inX7 hown hK hP (279) c_279 rfl 1 (by decide) (hts (.fieldLink RX7 7 "TileRunnersModel" "world" "[I") (List.mem_of_getElem? (i := 1) rfl)) (fun _ h9 => h9) rfl dX7_addPlatform_73 ?_
              refine lv_sipush (v := 465) hx hb dX7_addPlatform_76 (by decide) ?_
              refine pald (n := 480) (o := 0) (t := 465) (i := 465) hx hb hK hP c_280 (vp_in_iff.mpr (by decide)) rfl dX7_addPlatform_79 ?_
              refine lv_topi (fun v7_80 e_v7_80 => ?_)
              have hF := bnd_s e_v7_80 hF
              refine lv_istore (lv' := [(7, .int v7_80), (0, .ref (ad (279))), (1, .int a), (2, .int b), (3, .int c1), (4, .int d), (5, .int e1), (6, .int f1)]) hx hb dX7_addPlatform_80 hl (by decide) rfl (fun ls hl => ?_)
              refine lv_iload hx hb dX7_addPlatform_82 (lv_at hl 0 rfl) ?_
              refine lv_iconst (v := 4) hx hb dX7_addPlatform_84 (by decide) ?_
              refine lv_icmp_ne (tgt := 94) hx hb dX7_addPlatform_85 (by decide) (fun c85 => ?_) (fun c85 => ?_)
              · have hF := iff_ c85 hF
                have hbv7_80 : vp_in v7_80 4 := cnt_in (y := u 465) hO.1.2.2.1 hO.1.2.2.2 e_v7_80 c85
                refine lv_aload_n hx hb dX7_addPlatform_94 rfl (lv_at hl 1 rfl) ?_
                refine lv_iconst (v := 0) hx hb dX7_addPlatform_95 (by decide) ?_
                refine pput16 hx hb hts inX7 tyX7 tyX7_ok nmX7 hown hK hP hA hS (j := 279) (by decide) (by decide) rfl rfl 0 (by decide) (hts (.fieldLink RX7 45 "TileRunnersModel" "thrown" "I") (List.mem_of_getElem? (i := 2) rfl)) (fun _ h9 => h9) rfl (tyX7_ok 0 (by decide)) rfl rfl (Nat.le_of_ble_eq_true rfl) (490) (by decide) (setM_0) dX7_addPlatform_96 (fun u9 H locs eu9 hP hS => ?_)
                obtain ⟨u96, e_u96⟩ : ∃ z, z = u9 := ⟨_, rfl⟩
                rw [← e_u96] at hP eu9
                have hF := bnd_s eu9 hF
                have eq96 := eu9
                have hO := okM_up eu9 hO (by omega) (by omega) (by omega)
                refine lv_aload_n hx hb dX7_addPlatform_99 rfl (lv_at hl 1 rfl) ?_
                refine lv_iconst (v := 0) hx hb dX7_addPlatform_100 (by decide) ?_
                refine pput16 hx hb hts inX7 tyX7 tyX7_ok nmX7 hown hK hP hA hS (j := 279) (by decide) (by decide) rfl rfl 8 (by decide) (hts (.fieldLink RX7 208 "TileRunnersModel" "kept" "I") (List.mem_of_getElem? (i := 3) rfl)) (fun _ h9 => h9) rfl (tyX7_ok 8 (by decide)) rfl rfl (Nat.le_of_ble_eq_true rfl) (491) (by decide) (setM_8) dX7_addPlatform_101 (fun u9 H locs eu9 hP hS => ?_)
                obtain ⟨u101, e_u101⟩ : ∃ z, z = u9 := ⟨_, rfl⟩
                rw [← e_u101] at hP eu9
                have hF := bnd_s eu9 hF
                have eq101 := eu9
                have hO := okM_491 eu9 hO (by decide)
                refine lv_aload_n hx hb dX7_addPlatform_104 rfl (lv_at hl 1 rfl) ?_
                refine lv_iload hx hb dX7_addPlatform_105 (lv_at hl 0 rfl) ?_
                refine lv_iconst (v := 0) hx hb dX7_addPlatform_107 (by decide) ?_
                refine lv_iload_n hx hb dX7_addPlatform_108 rfl (lv_at hl 2 rfl) ?_
                refine va_callv (va_runV (As := [.int v7_80, .int 0, .int a]) (rest := []) ⟨hx, hb, hml, hown, hts⟩ (c7_setsPlate l hA σ u101 v7_80 0 a hO (vp_in_iff.mpr (by decide)) hbv7_80) (cwV 3 hts gX7_addPlatform_X7_setsPlate rfl rfl rfl hd_X7_setsPlateV ⟨Nat.le_of_ble_eq_true rfl, Nat.le_of_ble_eq_true rfl⟩) ⟨hp_blind, va_recv hK hP (ci := 9) (q0 := 279) rfl c_279, hp_pre hK hN hP⟩ rfl rfl hl.1 rfl (lv_room (Nat.le_of_ble_eq_true rfl)) dX7_addPlatform_109 ⟨Nat.zero_le _, Nat.zero_le _⟩) hS (fun _ _ h => h) (fun _ h => h) (fun u9 t H locs ht hvm hw9 hB hz1 hk1 hS => ?_)
                have hP := ho_at ht hB
                obtain ⟨eq109, ok9⟩ := hw9
                obtain ⟨u109, e_u109⟩ : ∃ z, z = u9 := ⟨_, rfl⟩
                rw [← e_u109] at hP eq109 ok9
                have hO := ok9
                have hF := bnd_s eq109 hF
                refine lv_aload_n hx hb dX7_addPlatform_112 rfl (lv_at hl 1 rfl) ?_
                refine lv_iload hx hb dX7_addPlatform_113 (lv_at hl 0 rfl) ?_
                refine lv_iconst (v := 1) hx hb dX7_addPlatform_115 (by decide) ?_
                refine lv_iload_n hx hb dX7_addPlatform_116 rfl (lv_at hl 3 rfl) ?_
                refine va_callv (va_runV (As := [.int v7_80, .int 1, .int b]) (rest := []) ⟨hx, hb, hml, hown, hts⟩ (c7_setsPlate l hA σ u109 v7_80 1 b hO (vp_in_iff.mpr (by decide)) hbv7_80) (cwV 3 hts gX7_addPlatform_X7_setsPlate rfl rfl rfl hd_X7_setsPlateV ⟨Nat.le_of_ble_eq_true rfl, Nat.le_of_ble_eq_true rfl⟩) ⟨hp_blind, va_recv hK hP (ci := 9) (q0 := 279) rfl c_279, hp_pre hK hN hP⟩ rfl rfl hl.1 rfl (lv_room (Nat.le_of_ble_eq_true rfl)) dX7_addPlatform_117 ⟨Nat.zero_le _, Nat.zero_le _⟩) hS (fun _ _ h => h) (fun _ h => h) (fun u9 t H locs ht hvm hw9 hB hz1 hk1 hS => ?_)
                have hP := ho_at ht hB
                obtain ⟨eq117, ok9⟩ := hw9
                obtain ⟨u117, e_u117⟩ : ∃ z, z = u9 := ⟨_, rfl⟩
                rw [← e_u117] at hP eq117 ok9
                have hO := ok9
                have hF := bnd_s eq117 hF
                refine lv_aload_n hx hb dX7_addPlatform_120 rfl (lv_at hl 1 rfl) ?_
                refine lv_iload hx hb dX7_addPlatform_121 (lv_at hl 0 rfl) ?_
                refine lv_iconst (v := 2) hx hb dX7_addPlatform_123 (by decide) ?_
                refine lv_iload_n hx hb dX7_addPlatform_124 rfl (lv_at hl 4 rfl) ?_
                refine va_callv (va_runV (As := [.int v7_80, .int 2, .int c1]) (rest := []) ⟨hx, hb, hml, hown, hts⟩ (c7_setsPlate l hA σ u117 v7_80 2 c1 hO (vp_in_iff.mpr (by decide)) hbv7_80) (cwV 3 hts gX7_addPlatform_X7_setsPlate rfl rfl rfl hd_X7_setsPlateV ⟨Nat.le_of_ble_eq_true rfl, Nat.le_of_ble_eq_true rfl⟩) ⟨hp_blind, va_recv hK hP (ci := 9) (q0 := 279) rfl c_279, hp_pre hK hN hP⟩ rfl rfl hl.1 rfl (lv_room (Nat.le_of_ble_eq_true rfl)) dX7_addPlatform_125 ⟨Nat.zero_le _, Nat.zero_le _⟩) hS (fun _ _ h => h) (fun _ h => h) (fun u9 t H locs ht hvm hw9 hB hz1 hk1 hS => ?_)
                have hP := ho_at ht hB
                obtain ⟨eq125, ok9⟩ := hw9
                obtain ⟨u125, e_u125⟩ : ∃ z, z = u9 := ⟨_, rfl⟩
                rw [← e_u125] at hP eq125 ok9
                have hO := ok9
                have hF := bnd_s eq125 hF
                refine lv_aload_n hx hb dX7_addPlatform_128 rfl (lv_at hl 1 rfl) ?_
                refine lv_iload hx hb dX7_addPlatform_129 (lv_at hl 0 rfl) ?_
                refine lv_iconst (v := 3) hx hb dX7_addPlatform_131 (by decide) ?_
                refine lv_iload hx hb dX7_addPlatform_132 (lv_at hl 5 rfl) ?_
                refine va_callv (va_runV (As := [.int v7_80, .int 3, .int d]) (rest := []) ⟨hx, hb, hml, hown, hts⟩ (c7_setsPlate l hA σ u125 v7_80 3 d hO (vp_in_iff.mpr (by decide)) hbv7_80) (cwV 3 hts gX7_addPlatform_X7_setsPlate rfl rfl rfl hd_X7_setsPlateV ⟨Nat.le_of_ble_eq_true rfl, Nat.le_of_ble_eq_true rfl⟩) ⟨hp_blind, va_recv hK hP (ci := 9) (q0 := 279) rfl c_279, hp_pre hK hN hP⟩ rfl rfl hl.1 rfl (lv_room (Nat.le_of_ble_eq_true rfl)) dX7_addPlatform_134 ⟨Nat.zero_le _, Nat.zero_le _⟩) hS (fun _ _ h => h) (fun _ h => h) (fun u9 t H locs ht hvm hw9 hB hz1 hk1 hS => ?_)
                have hP := ho_at ht hB
                obtain ⟨eq134, ok9⟩ := hw9
                obtain ⟨u134, e_u134⟩ : ∃ z, z = u9 := ⟨_, rfl⟩
                rw [← e_u134] at hP eq134 ok9
                have hO := ok9
                have hF := bnd_s eq134 hF
                refine lv_aload_n hx hb dX7_addPlatform_137 rfl (lv_at hl 1 rfl) ?_
                refine lv_iload hx hb dX7_addPlatform_138 (lv_at hl 0 rfl) ?_
                refine lv_iconst (v := 4) hx hb dX7_addPlatform_140 (by decide) ?_
                refine lv_iload hx hb dX7_addPlatform_141 (lv_at hl 6 rfl) ?_
                refine va_callv (va_runV (As := [.int v7_80, .int 4, .int e1]) (rest := []) ⟨hx, hb, hml, hown, hts⟩ (c7_setsPlate l hA σ u134 v7_80 4 e1 hO (vp_in_iff.mpr (by decide)) hbv7_80) (cwV 3 hts gX7_addPlatform_X7_setsPlate rfl rfl rfl hd_X7_setsPlateV ⟨Nat.le_of_ble_eq_true rfl, Nat.le_of_ble_eq_true rfl⟩) ⟨hp_blind, va_recv hK hP (ci := 9) (q0 := 279) rfl c_279, hp_pre hK hN hP⟩ rfl rfl hl.1 rfl (lv_room (Nat.le_of_ble_eq_true rfl)) dX7_addPlatform_143 ⟨Nat.zero_le _, Nat.zero_le _⟩) hS (fun _ _ h => h) (fun _ h => h) (fun u9 t H locs ht hvm hw9 hB hz1 hk1 hS => ?_)
                have hP := ho_at ht hB
                obtain ⟨eq143, ok9⟩ := hw9
                obtain ⟨u143, e_u143⟩ : ∃ z, z = u9 := ⟨_, rfl⟩
                rw [← e_u143] at hP eq143 ok9
                have hO := ok9
                have hF := bnd_s eq143 hF
                refine lv_aload_n hx hb dX7_addPlatform_146 rfl (lv_at hl 1 rfl) ?_
                refine lv_iload hx hb dX7_addPlatform_147 (lv_at hl 0 rfl) ?_
                refine lv_iconst (v := 5) hx hb dX7_addPlatform_149 (by decide) ?_
                refine lv_iload hx hb dX7_addPlatform_150 (lv_at hl 7 rfl) ?_
                refine va_callv (va_runV (As := [.int v7_80, .int 5, .int f1]) (rest := []) ⟨hx, hb, hml, hown, hts⟩ (c7_setsPlate l hA σ u143 v7_80 5 f1 hO (vp_in_iff.mpr (by decide)) hbv7_80) (cwV 3 hts gX7_addPlatform_X7_setsPlate rfl rfl rfl hd_X7_setsPlateV ⟨Nat.le_of_ble_eq_true rfl, Nat.le_of_ble_eq_true rfl⟩) ⟨hp_blind, va_recv hK hP (ci := 9) (q0 := 279) rfl c_279, hp_pre hK hN hP⟩ rfl rfl hl.1 rfl (lv_room (Nat.le_of_ble_eq_true rfl)) dX7_addPlatform_152 ⟨Nat.zero_le _, Nat.zero_le _⟩) hS (fun _ _ h => h) (fun _ h => h) (fun u9 t H locs ht hvm hw9 hB hz1 hk1 hS => ?_)
                have hP := ho_at ht hB
                obtain ⟨eq152, ok9⟩ := hw9
                obtain ⟨u152, e_u152⟩ : ∃ z, z = u9 := ⟨_, rfl⟩
                rw [← e_u152] at hP eq152 ok9
                have hO := ok9
                have hF := bnd_s eq152 hF
                refine lv_aload_n hx hb dX7_addPlatform_155 rfl (lv_at hl 1 rfl) ?_
                refine lv_iload hx hb dX7_addPlatform_156 (lv_at hl 0 rfl) ?_
                refine lv_bipush (v := 6) hx hb dX7_addPlatform_158 (by decide) ?_
                refine lv_iload hx hb dX7_addPlatform_160 (lv_at hl 7 rfl) ?_
                refine va_callv (va_runV (As := [.int v7_80, .int 6, .int f1]) (rest := []) ⟨hx, hb, hml, hown, hts⟩ (c7_setsPlate l hA σ u152 v7_80 6 f1 hO (vp_in_iff.mpr (by decide)) hbv7_80) (cwV 3 hts gX7_addPlatform_X7_setsPlate rfl rfl rfl hd_X7_setsPlateV ⟨Nat.le_of_ble_eq_true rfl, Nat.le_of_ble_eq_true rfl⟩) ⟨hp_blind, va_recv hK hP (ci := 9) (q0 := 279) rfl c_279, hp_pre hK hN hP⟩ rfl rfl hl.1 rfl (lv_room (Nat.le_of_ble_eq_true rfl)) dX7_addPlatform_162 ⟨Nat.zero_le _, Nat.zero_le _⟩) hS (fun _ _ h => h) (fun _ h => h) (fun u9 t H locs ht hvm hw9 hB hz1 hk1 hS => ?_)
                have hP := ho_at ht hB
                obtain ⟨eq162, ok9⟩ := hw9
                obtain ⟨u162, e_u162⟩ : ∃ z, z = u9 := ⟨_, rfl⟩
                rw [← e_u162] at hP eq162 ok9
                have hO := ok9
                have hF := bnd_s eq162 hF
                refine lv_aload_n hx hb dX7_addPlatform_165 rfl (lv_at hl 1 rfl) ?_
                refine va_get (D := D) (ci := 9) (C := RX7) (T := TX7) (N := 17) hx hb hts inX7 hown hK hP (279) c_279 rfl 1 (by decide) (hts (.fieldLink RX7 7 "TileRunnersModel" "world" "[I") (List.mem_of_getElem? (i := 1) rfl)) (fun _ h9 => h9) rfl dX7_addPlatform_166 ?_
                refine lv_sipush (v := 465) hx hb dX7_addPlatform_169 (by decide) ?_
                refine lv_dup2_11 hx hb dX7_addPlatform_172 rfl rfl ?_
                refine pald (n := 480) (o := 0) (t := 465) (i := 465) hx hb hK hP c_280 (vp_in_iff.mpr (by decide)) rfl dX7_addPlatform_173 ?_
                refine lv_iconst (v := 1) hx hb dX7_addPlatform_174 (by decide) ?_
                refine lv_iadd hx hb dX7_addPlatform_175 ?_
                have hin9 : vp_in 465 480 := (vp_in_iff.mpr (by decide))
                refine past16 (n := 480) (o := 0) (t := 465) hx hb hK hP hA hS (j := 280) (by decide) (by decide) (fun _ _ => rfl) (fun k9 hk9 => by unfold own16; repeat first | rw [if_pos (by omega)] | rw [if_neg (by omega)]) hin9 rfl dX7_addPlatform_176 (fun u9 H locs eu9 hP hS => ?_)
                have hlt9 := in_lt hin9
                obtain ⟨u176, e_u176⟩ : ∃ z, z = u9 := ⟨_, rfl⟩
                rw [← e_u176] at hP eu9
                have hF := bnd_s eu9 hF
                have eq176 := eu9
                have hO := okM_465 eu9 hO (by rw [eq162, setsP_ne hbv7_80 (vp_in_iff.mpr (by decide)) (Or.inr (by decide)), eq152, setsP_ne hbv7_80 (vp_in_iff.mpr (by decide)) (Or.inr (by decide)), eq143, setsP_ne hbv7_80 (vp_in_iff.mpr (by decide)) (Or.inr (by decide)), eq134, setsP_ne hbv7_80 (vp_in_iff.mpr (by decide)) (Or.inr (by decide)), eq125, setsP_ne hbv7_80 (vp_in_iff.mpr (by decide)) (Or.inr (by decide)), eq117, setsP_ne hbv7_80 (vp_in_iff.mpr (by decide)) (Or.inr (by decide)), eq109, setsP_ne hbv7_80 (vp_in_iff.mpr (by decide)) (Or.inr (by decide)), eq101, va_up_ne _ _ (by decide), eq96, va_up_ne _ _ (by decide), ← e_v7_80]; exact cnt_inc hbv7_80)
                refine lv_iload hx hb dX7_addPlatform_177 (lv_at hl 0 rfl) ?_
                exact W.iret (v := v7_80) hx hb hr (fun t ht hW => ⟨⟨v7_80, u176, rfl, ⟨hF.trans hFF, hO⟩, ho_of ht hP⟩, hS.F ht⟩) hS.2.2 dX7_addPlatform_179
              · have hF := ift c85 hF
                refine lv_aload_n hx hb dX7_addPlatform_88 rfl (lv_at hl 1 rfl) ?_
                refine lv_iconst (v := 2) hx hb dX7_addPlatform_89 (by decide) ?_
                refine va_calli (va_runV (As := [.int 2]) (rest := []) ⟨hx, hb, hml, hown, hts⟩ (c7_fails l hA σ u 2 hO) (cwV 1 hts gX7_addPlatform_X7_fails rfl rfl rfl hd_X7_failsV ⟨Nat.le_of_ble_eq_true rfl, Nat.le_of_ble_eq_true rfl⟩) ⟨hp_blind, va_recv hK hP (ci := 9) (q0 := 279) rfl c_279, hp_pre hK hN hP⟩ rfl rfl hl.1 rfl (lv_room (Nat.le_of_ble_eq_true rfl)) dX7_addPlatform_90 ⟨Nat.zero_le _, Nat.zero_le _⟩) hS (fun _ _ h => h) (fun _ h => h) (fun r90 u9 t H locs ht hvm hw9 hB hz1 hk1 hS => ?_)
                have hP := ho_at ht hB
                obtain ⟨eq90, ok9⟩ := hw9
                obtain ⟨u90, e_u90⟩ : ∃ z, z = u9 := ⟨_, rfl⟩
                rw [← e_u90] at hP eq90 ok9
                have hO := ok9
                have hF := bnd2_s eq90 hF
                exact W.iret (v := r90) hx hb hr (fun t ht hW => ⟨⟨r90, u90, rfl, ⟨hF.trans hFF, hO⟩, ho_of ht hP⟩, hS.F ht⟩) hS.2.2 dX7_addPlatform_93
            · have hF := ift c63 hF
              refine lv_aload_n hx hb dX7_addPlatform_66 rfl (lv_at hl 0 rfl) ?_
              refine lv_iconst (v := 1) hx hb dX7_addPlatform_67 (by decide) ?_
              refine va_calli (va_runV (As := [.int 1]) (rest := []) ⟨hx, hb, hml, hown, hts⟩ (c7_fails l hA σ u 1 hO) (cwV 1 hts gX7_addPlatform_X7_fails rfl rfl rfl hd_X7_failsV ⟨Nat.le_of_ble_eq_true rfl, Nat.le_of_ble_eq_true rfl⟩) ⟨hp_blind, va_recv hK hP (ci := 9) (q0 := 279) rfl c_279, hp_pre hK hN hP⟩ rfl rfl hl.1 rfl (lv_room (Nat.le_of_ble_eq_true rfl)) dX7_addPlatform_68 ⟨Nat.zero_le _, Nat.zero_le _⟩) hS (fun _ _ h => h) (fun _ h => h) (fun r68 u9 t H locs ht hvm hw9 hB hz1 hk1 hS => ?_)
              have hP := ho_at ht hB
              obtain ⟨eq68, ok9⟩ := hw9
              obtain ⟨u68, e_u68⟩ : ∃ z, z = u9 := ⟨_, rfl⟩
              rw [← e_u68] at hP eq68 ok9
              have hO := ok9
              have hF := bnd2_s eq68 hF
              exact W.iret (v := r68) hx hb hr (fun t ht hW => ⟨⟨r68, u68, rfl, ⟨hF.trans hFF, hO⟩, ho_of ht hP⟩, hS.F ht⟩) hS.2.2 dX7_addPlatform_71
theorem hd_X7_addPlatformV : yX7_addPlatform.cls = RX7 ∧ yX7_addPlatform.cls ≠ "java/lang/invoke/MethodHandle" ∧ yX7_addPlatform.cls ≠ "java/lang/invoke/VarHandle" ∧ (parseMethodDescriptor yX7_addPlatform.desc).map (fun d => d.parameters.length) = some 6 := by decide +kernel
set_option maxHeartbeats 4000000 in
set_option maxRecDepth 100000 in
theorem c7_removePlatform (l : Launch) {D : va_G} {G : CY} {ad : Nat → Nat} {B0 : Nat} (hA : adOK B0 ad) (σ : Nat → Nat → Int32) (u : Nat → Int32) (a : Int32) (hO : okM u) : Met l yX7_removePlatform wsX7_removePlatform { frames := 1, cells := 0, slots := 0, locals := 23 } (va_Pc [.ref (ad (279)), .int a] (Hp D G ad (va_up σ 16 u))) (va_Qi (fun (r : Int32) (z : Nat → Int32) => (r, z) = f7_removePlatform u a ∧ okM z) (fun (z : Nat → Int32) => Ho D G ad (va_up σ 16 z)) (AA B0)) 0 0 (AA B0) := by
  refine Met.ofW (cc := cX7_removePlatform) (maxL := 4) (ret := (some .int)) (by decide) rfl ?_
  intro p e s m args below meth c s₁ B hml hv
  obtain ⟨rfl, hP, hK, hN⟩ := hv
  have hx := B.exec
  have hb := B.bytes
  have hr := B.returns
  have hts := atoms_spec (ws := wsX7_removePlatform) B.pre
  have hown : s.vm.findClass RX7 = some m.cls := findClass_of_methodNamed B.named
  have hlocks := B.notSynchronized
  have inX7 : ∀ w ∈ wsX70, w ∈ wsX7_removePlatform := (fun w h => List.mem_cons_of_mem _ (List.mem_append_left _ (List.mem_append_right _ h)))
  have hP : va_P D vwCl (pool G ad (va_up σ 16 u)) s.heap := hP
  have hS : va_S (AA B0) s.heap s.heap [] := va_S.rf
  have hl := lv_entry ([.ref (ad (279)), .int a]) (n := 4) (Nat.le_of_ble_eq_true rfl)
  rw [lg_entry_eq]
  generalize (lg_sl ([.ref (ad (279)), .int a]) ++ List.replicate (4 - (lg_sl ([.ref (ad (279)), .int a])).length) Slot.unset).toArray = ls at hl ⊢
  have hl : lv_has ls 4 [(0, .ref (ad (279))), (1, .int a)] := hl
  obtain ⟨FF, hFF⟩ : ∃ z, z = f7_removePlatform u a := ⟨_, rfl⟩
  have hF := hFF.symm
  rw [f7_removePlatform] at hF
  refine lv_aload_n hx hb dX7_removePlatform_0 rfl (lv_at hl 0 rfl) ?_
  refine lv_iload_n hx hb dX7_removePlatform_1 rfl (lv_at hl 1 rfl) ?_
  refine va_calli (va_runV (As := [.int a]) (rest := []) ⟨hx, hb, hml, hown, hts⟩ (c7_isPlatform l hA σ u a ) (cwV 1 hts gX7_removePlatform_X7_isPlatform rfl rfl rfl hd_X7_isPlatformV ⟨Nat.le_of_ble_eq_true rfl, Nat.le_of_ble_eq_true rfl⟩) ⟨hp_blind, va_recv hK hP (ci := 9) (q0 := 279) rfl c_279, hp_pre hK hN hP⟩ rfl rfl hl.1 rfl (lv_room (Nat.le_of_ble_eq_true rfl)) dX7_removePlatform_2 ⟨Nat.zero_le _, Nat.zero_le _⟩) hS (fun _ _ h => h) (fun _ h => h) (fun r2 _ t H locs ht hvm hw9 hB hz1 hk1 hS => ?_)
  have hP := ho_at ht hB
  obtain ⟨eq2, hb_r2⟩ := hw9
  have hF := bnd_s eq2 hF
  refine lv_if_ne (tgt := 14) hx hb dX7_removePlatform_5 (by decide) (fun c5 => ?_) (fun c5 => ?_)
  · have hF := iff_ c5 hF
    have hba := plat_in hO.1 eq2 c5
    have hbl := plat_lt eq2 c5
    have hc4 := hO.1.2.2.2
    refine lv_aload_n hx hb dX7_removePlatform_14 rfl (lv_at hl 0 rfl) ?_
    refine lv_iconst (v := 0) hx hb dX7_removePlatform_15 (by decide) ?_
    refine pput16 hx hb hts inX7 tyX7 tyX7_ok nmX7 hown hK hP hA hS (j := 279) (by decide) (by decide) rfl rfl 0 (by decide) (hts (.fieldLink RX7 45 "TileRunnersModel" "thrown" "I") (List.mem_of_getElem? (i := 1) rfl)) (fun _ h9 => h9) rfl (tyX7_ok 0 (by decide)) rfl rfl (Nat.le_of_ble_eq_true rfl) (490) (by decide) (setM_0) dX7_removePlatform_16 (fun u9 H locs eu9 hP hS => ?_)
    obtain ⟨u16, e_u16⟩ : ∃ z, z = u9 := ⟨_, rfl⟩
    rw [← e_u16] at hP eu9
    have hF := bnd_s eu9 hF
    have eq16 := eu9
    have hO := okM_up eu9 hO (by omega) (by omega) (by omega)
    refine lv_aload_n hx hb dX7_removePlatform_19 rfl (lv_at hl 0 rfl) ?_
    refine lv_iconst (v := 0) hx hb dX7_removePlatform_20 (by decide) ?_
    refine pput16 hx hb hts inX7 tyX7 tyX7_ok nmX7 hown hK hP hA hS (j := 279) (by decide) (by decide) rfl rfl 8 (by decide) (hts (.fieldLink RX7 208 "TileRunnersModel" "kept" "I") (List.mem_of_getElem? (i := 2) rfl)) (fun _ h9 => h9) rfl (tyX7_ok 8 (by decide)) rfl rfl (Nat.le_of_ble_eq_true rfl) (491) (by decide) (setM_8) dX7_removePlatform_21 (fun u9 H locs eu9 hP hS => ?_)
    obtain ⟨u21, e_u21⟩ : ∃ z, z = u9 := ⟨_, rfl⟩
    rw [← e_u21] at hP eu9
    have hF := bnd_s eu9 hF
    have eq21 := eu9
    have hO := okM_491 eu9 hO (by decide)
    refine lv_aload_n hx hb dX7_removePlatform_24 rfl (lv_at hl 0 rfl) ?_
    refine va_get (D := D) (ci := 9) (C := RX7) (T := TX7) (N := 17) hx hb hts inX7 hown hK hP (279) c_279 rfl 1 (by decide) (hts (.fieldLink RX7 7 "TileRunnersModel" "world" "[I") (List.mem_of_getElem? (i := 3) rfl)) (fun _ h9 => h9) rfl dX7_removePlatform_25 ?_
    refine lv_sipush (v := 465) hx hb dX7_removePlatform_28 (by decide) ?_
    refine lv_dup2_11 hx hb dX7_removePlatform_31 rfl rfl ?_
    refine pald (n := 480) (o := 0) (t := 465) (i := 465) hx hb hK hP c_280 (vp_in_iff.mpr (by decide)) rfl dX7_removePlatform_32 ?_
    refine lv_iconst (v := 1) hx hb dX7_removePlatform_33 (by decide) ?_
    refine lv_isub hx hb dX7_removePlatform_34 ?_
    have hin9 : vp_in 465 480 := (vp_in_iff.mpr (by decide))
    refine past16 (n := 480) (o := 0) (t := 465) hx hb hK hP hA hS (j := 280) (by decide) (by decide) (fun _ _ => rfl) (fun k9 hk9 => by unfold own16; repeat first | rw [if_pos (by omega)] | rw [if_neg (by omega)]) hin9 rfl dX7_removePlatform_35 (fun u9 H locs eu9 hP hS => ?_)
    have hlt9 := in_lt hin9
    obtain ⟨u35, e_u35⟩ : ∃ z, z = u9 := ⟨_, rfl⟩
    rw [← e_u35] at hP eu9
    have hF := bnd_s eu9 hF
    have eq35 := eu9
    have hO := okM_465 eu9 hO (by rw [eq21, va_up_ne _ _ (by decide), eq16, va_up_ne _ _ (by decide)]; exact le34 (cnt_dec hbl hc4))
    have hc3 : (u35 465).toInt ≤ 3 := by rw [eq35, va_up_self, eq21, va_up_ne _ _ (by decide), eq16, va_up_ne _ _ (by decide)]; exact (cnt_dec hbl hc4).2
    refine lv_iload_n hx hb dX7_removePlatform_36 rfl (lv_at hl 1 rfl) ?_
    refine lv_istore_n (lv' := [(2, .int a), (0, .ref (ad (279))), (1, .int a)]) hx hb dX7_removePlatform_37 rfl hl (by decide) rfl (fun ls hl => ?_)
    have L38 : ∀ (n38 : Nat) (w2_38 : Int32) (u_38 : (Nat → Int32)) (H : Heap) (locs : List Loc) (ls : Array Slot), (4 - w2_38.toInt).toNat < n38 → 0 ≤ w2_38 → (u_38 465).toInt ≤ 3 → okM u_38 → va_P D vwCl (pool G ad (va_up σ 16 u_38)) H → va_S (AA B0) s.heap H locs → lv_has ls 4 [(2, .int w2_38), (0, .ref (ad (279)))] → f7_removePlatform_L38 n38 w2_38 u_38 = FF → W p l e (headSpec wsX7_removePlatform { frames := 1, cells := 0, slots := 0, locals := 23 }).room s m ([.ref (ad (279)), .int a] : List Value).toArray below meth c H locs 0 0 (MQ below (va_Qi (fun (r : Int32) (z : Nat → Int32) => (r, z) = f7_removePlatform u a ∧ okM z) (fun (z : Nat → Int32) => Ho D G ad (va_up σ 16 z)) (AA B0)) ([.ref (ad (279)), .int a] : List Value).toArray s 0 0 (AA B0)) (F0 m 38 ls []) := by
      intro n38
      induction n38 with
      | zero => intro w2_38 u_38 H locs ls hm; exact absurd hm (Nat.not_lt_zero _)
      | succ n38 ih38 =>
        intro w2_38 u_38 H locs ls hm38 h2 hc hO hP hS hl hF
        rw [f7_removePlatform_L38] at hF
        refine lv_iload_n hx hb dX7_removePlatform_38 rfl (lv_at hl 0 rfl) ?_
        refine lv_aload_n hx hb dX7_removePlatform_39 rfl (lv_at hl 1 rfl) ?_
        refine va_get (D := D) (ci := 9) (C := RX7) (T := TX7) (N := 17) hx hb hts inX7 hown hK hP (279) c_279 rfl 1 (by decide) (hts (.fieldLink RX7 7 "TileRunnersModel" "world" "[I") (List.mem_of_getElem? (i := 3) rfl)) (fun _ h9 => h9) rfl dX7_removePlatform_40 ?_
        refine lv_sipush (v := 465) hx hb dX7_removePlatform_43 (by decide) ?_
        refine pald (n := 480) (o := 0) (t := 465) (i := 465) hx hb hK hP c_280 (vp_in_iff.mpr (by decide)) rfl dX7_removePlatform_46 ?_
        refine lv_icmp_ge (tgt := 84) hx hb dX7_removePlatform_47 (by decide) (fun c47 => ?_) (fun c47 => ?_)
        · have hF := ift c47 hF
          refine lv_aload_n hx hb dX7_removePlatform_84 rfl (lv_at hl 1 rfl) ?_
          refine va_get (D := D) (ci := 9) (C := RX7) (T := TX7) (N := 17) hx hb hts inX7 hown hK hP (279) c_279 rfl 1 (by decide) (hts (.fieldLink RX7 7 "TileRunnersModel" "world" "[I") (List.mem_of_getElem? (i := 3) rfl)) (fun _ h9 => h9) rfl dX7_removePlatform_85 ?_
          refine lv_sipush (v := 465) hx hb dX7_removePlatform_88 (by decide) ?_
          refine pald (n := 480) (o := 0) (t := 465) (i := 465) hx hb hK hP c_280 (vp_in_iff.mpr (by decide)) rfl dX7_removePlatform_91 ?_
          exact W.iret (v := (u_38 465)) hx hb hr (fun t ht hW => ⟨⟨(u_38 465), u_38, rfl, ⟨hF.trans hFF, hO⟩, ho_of ht hP⟩, hS.F ht⟩) hS.2.2 dX7_removePlatform_92
        · have hF := iff_ c47 hF
          have hbw2_38 : vp_in w2_38 4 := in_n h2 (nle_lt c47) hO.1.2.2.2
          have hb1 : vp_in (w2_38 + 1) 4 := in_succ h2 (nle_lt c47) hc
          refine lv_iconst (v := 0) hx hb dX7_removePlatform_50 (by decide) ?_
          refine lv_istore_n (lv' := [(3, .int 0), (2, .int w2_38), (0, .ref (ad (279)))]) hx hb dX7_removePlatform_51 rfl hl (by decide) rfl (fun ls hl => ?_)
          have L52 : ∀ (n52 : Nat) (w3_52 : Int32) (u_52 : (Nat → Int32)) (H : Heap) (locs : List Loc) (ls : Array Slot), ((8 : Int32).toInt - w3_52.toInt).toNat < n52 → 0 ≤ w3_52 → (u_52 465).toInt ≤ 3 → okM u_52 → va_P D vwCl (pool G ad (va_up σ 16 u_52)) H → va_S (AA B0) s.heap H locs → lv_has ls 4 [(3, .int w3_52), (2, .int w2_38), (0, .ref (ad (279)))] → f7_removePlatform_L52 (f7_removePlatform_L38 n38) w2_38 n52 w3_52 u_52 = FF → W p l e (headSpec wsX7_removePlatform { frames := 1, cells := 0, slots := 0, locals := 23 }).room s m ([.ref (ad (279)), .int a] : List Value).toArray below meth c H locs 0 0 (MQ below (va_Qi (fun (r : Int32) (z : Nat → Int32) => (r, z) = f7_removePlatform u a ∧ okM z) (fun (z : Nat → Int32) => Ho D G ad (va_up σ 16 z)) (AA B0)) ([.ref (ad (279)), .int a] : List Value).toArray s 0 0 (AA B0)) (F0 m 52 ls []) := by
            intro n52
            induction n52 with
            | zero => intro w3_52 u_52 H locs ls hm; exact absurd hm (Nat.not_lt_zero _)
            | succ n52 ih52 =>
              intro w3_52 u_52 H locs ls hm52 h3 hc2 hO hP hS hl hF
              rw [f7_removePlatform_L52] at hF
              refine lv_iload_n hx hb dX7_removePlatform_52 rfl (lv_at hl 0 rfl) ?_
              refine lv_bipush (v := 8) hx hb dX7_removePlatform_53 (by decide) ?_
              refine lv_icmp_ge (tgt := 78) hx hb dX7_removePlatform_55 (by decide) (fun c55 => ?_) (fun c55 => ?_)
              · have hF := ift c55 hF
                obtain ⟨v2_78, e_v2_78⟩ : ∃ z : Int32, z = w2_38 + 1 := ⟨_, rfl⟩
                have hF := bnd_s e_v2_78 hF
                refine lv_iinc (v := v2_78) (lv' := [(2, .int v2_78), (3, .int w3_52), (0, .ref (ad (279)))]) hx hb dX7_removePlatform_78 hl (k := 1) rfl (by rw [e_v2_78]; rfl) (by decide) rfl (fun ls hl => ?_)
                refine lv_goto (tgt := 38) hx hb dX7_removePlatform_81 (by decide) ?_
                exact ih38 v2_78 u_52 _ _ ls (ms_s (dec_i4 hbw2_38 e_v2_78) hm38) (ge0_i4 hbw2_38 e_v2_78) hc2 hO hP hS (lv_sub hl [0, 2] rfl) hF
              · have hF := iff_ c55 hF
                have hww3_52 : vp_in w3_52 8 := in_n h3 (nle_lt c55) (by decide)
                refine lv_aload_n hx hb dX7_removePlatform_58 rfl (lv_at hl 2 rfl) ?_
                refine lv_iload_n hx hb dX7_removePlatform_59 rfl (lv_at hl 1 rfl) ?_
                refine lv_iload_n hx hb dX7_removePlatform_60 rfl (lv_at hl 0 rfl) ?_
                refine lv_aload_n hx hb dX7_removePlatform_61 rfl (lv_at hl 2 rfl) ?_
                refine lv_iload_n hx hb dX7_removePlatform_62 rfl (lv_at hl 1 rfl) ?_
                refine lv_iconst (v := 1) hx hb dX7_removePlatform_63 (by decide) ?_
                refine lv_iadd hx hb dX7_removePlatform_64 ?_
                refine lv_iload_n hx hb dX7_removePlatform_65 rfl (lv_at hl 0 rfl) ?_
                refine va_calli (va_runV (As := [.int (w2_38 + 1), .int w3_52]) (rest := [.int w3_52, .int w2_38, .ref (ad (279))]) ⟨hx, hb, hml, hown, hts⟩ (c7_plate l hA σ u_52 (w2_38 + 1) w3_52 hww3_52 hb1) (cwV 2 hts gX7_removePlatform_X7_plate rfl rfl rfl hd_X7_plateV ⟨Nat.le_of_ble_eq_true rfl, Nat.le_of_ble_eq_true rfl⟩) ⟨hp_blind, va_recv hK hP (ci := 9) (q0 := 279) rfl c_279, hp_pre hK hN hP⟩ rfl rfl hl.1 rfl (lv_room (Nat.le_of_ble_eq_true rfl)) dX7_removePlatform_66 ⟨Nat.zero_le _, Nat.zero_le _⟩) hS (fun _ _ h => h) (fun _ h => h) (fun r66 _ t H locs ht hvm hw9 hB hz1 hk1 hS => ?_)
                have hP := ho_at ht hB
                have eq66 := hw9
                have hF := bnd_s eq66 hF
                refine va_callv (va_runV (As := [.int w2_38, .int w3_52, .int r66]) (rest := []) ⟨hx, hb, hml, hown, hts⟩ (c7_setsPlate l hA σ u_52 w2_38 w3_52 r66 hO hww3_52 hbw2_38) (cwV 3 hts gX7_removePlatform_X7_setsPlate rfl rfl rfl hd_X7_setsPlateV ⟨Nat.le_of_ble_eq_true rfl, Nat.le_of_ble_eq_true rfl⟩) ⟨hp_blind, va_recv hK hP (ci := 9) (q0 := 279) rfl c_279, hp_pre hK hN hP⟩ rfl rfl hl.1 rfl (lv_room (Nat.le_of_ble_eq_true rfl)) dX7_removePlatform_69 ⟨Nat.zero_le _, Nat.zero_le _⟩) hS (fun _ _ h => h) (fun _ h => h) (fun u9 t H locs ht hvm hw9 hB hz1 hk1 hS => ?_)
                have hP := ho_at ht hB
                obtain ⟨eq69, ok9⟩ := hw9
                obtain ⟨u69, e_u69⟩ : ∃ z, z = u9 := ⟨_, rfl⟩
                rw [← e_u69] at hP eq69 ok9
                have hO := ok9
                have hF := bnd_s eq69 hF
                obtain ⟨v3_72, e_v3_72⟩ : ∃ z : Int32, z = w3_52 + 1 := ⟨_, rfl⟩
                have hF := bnd_s e_v3_72 hF
                refine lv_iinc (v := v3_72) (lv' := [(3, .int v3_72), (2, .int w2_38), (0, .ref (ad (279)))]) hx hb dX7_removePlatform_72 hl (k := 0) rfl (by rw [e_v3_72]; rfl) (by decide) rfl (fun ls hl => ?_)
                refine lv_goto (tgt := 52) hx hb dX7_removePlatform_75 (by decide) ?_
                exact ih52 v3_72 u69 _ _ ls (ms_s (dec_up (nle_lt c55) e_v3_72) hm52) (ge0_in hww3_52 (by decide) e_v3_72) (by rw [eq69, setsP_ne hbw2_38 hww3_52 (Or.inr (by decide))]; exact hc2) hO hP hS (lv_sub hl [0, 1, 2] rfl) hF
          exact L52 BIG 0 u_38 _ _ ls (big_up _ _) le0 hc hO hP hS (lv_sub hl [0, 1, 2] rfl) hF
    exact L38 BIG a u35 _ _ ls (big_i4 _) (in_ge0 hba) hc3 hO hP hS (lv_sub hl [0, 1] rfl) hF
  · have hF := ift c5 hF
    refine lv_aload_n hx hb dX7_removePlatform_8 rfl (lv_at hl 0 rfl) ?_
    refine lv_iconst (v := 1) hx hb dX7_removePlatform_9 (by decide) ?_
    refine va_calli (va_runV (As := [.int 1]) (rest := []) ⟨hx, hb, hml, hown, hts⟩ (c7_fails l hA σ u 1 hO) (cwV 1 hts gX7_removePlatform_X7_fails rfl rfl rfl hd_X7_failsV ⟨Nat.le_of_ble_eq_true rfl, Nat.le_of_ble_eq_true rfl⟩) ⟨hp_blind, va_recv hK hP (ci := 9) (q0 := 279) rfl c_279, hp_pre hK hN hP⟩ rfl rfl hl.1 rfl (lv_room (Nat.le_of_ble_eq_true rfl)) dX7_removePlatform_10 ⟨Nat.zero_le _, Nat.zero_le _⟩) hS (fun _ _ h => h) (fun _ h => h) (fun r10 u9 t H locs ht hvm hw9 hB hz1 hk1 hS => ?_)
    have hP := ho_at ht hB
    obtain ⟨eq10, ok9⟩ := hw9
    obtain ⟨u10, e_u10⟩ : ∃ z, z = u9 := ⟨_, rfl⟩
    rw [← e_u10] at hP eq10 ok9
    have hO := ok9
    have hF := bnd2_s eq10 hF
    exact W.iret (v := r10) hx hb hr (fun t ht hW => ⟨⟨r10, u10, rfl, ⟨hF.trans hFF, hO⟩, ho_of ht hP⟩, hS.F ht⟩) hS.2.2 dX7_removePlatform_13
theorem hd_X7_removePlatformV : yX7_removePlatform.cls = RX7 ∧ yX7_removePlatform.cls ≠ "java/lang/invoke/MethodHandle" ∧ yX7_removePlatform.cls ≠ "java/lang/invoke/VarHandle" ∧ (parseMethodDescriptor yX7_removePlatform.desc).map (fun d => d.parameters.length) = some 1 := by decide +kernel
set_option maxHeartbeats 4000000 in
set_option maxRecDepth 100000 in
theorem c7_platform (l : Launch) {D : va_G} {G : CY} {ad : Nat → Nat} {B0 : Nat} (hA : adOK B0 ad) (σ : Nat → Nat → Int32) (u : Nat → Int32) (a : Int32) (b : Int32) (hO : okM u) : Met l yX7_platform wsX7_platform { frames := 1, cells := 0, slots := 0, locals := 22 } (va_Pc [.ref (ad (279)), .int a, .int b] (Hp D G ad (va_up σ 16 u))) (va_Qi (fun (r : Int32) (z : Nat → Int32) => (r, z) = f7_platform u a b ∧ okM z) (fun (z : Nat → Int32) => Ho D G ad (va_up σ 16 z)) (AA B0)) 0 0 (AA B0) := by
  refine Met.ofW (cc := cX7_platform) (maxL := 3) (ret := (some .int)) (by decide) rfl ?_
  intro p e s m args below meth c s₁ B hml hv
  obtain ⟨rfl, hP, hK, hN⟩ := hv
  have hx := B.exec
  have hb := B.bytes
  have hr := B.returns
  have hts := atoms_spec (ws := wsX7_platform) B.pre
  have hown : s.vm.findClass RX7 = some m.cls := findClass_of_methodNamed B.named
  have hlocks := B.notSynchronized
  have inX7 : ∀ w ∈ wsX70, w ∈ wsX7_platform := (fun w h => List.mem_cons_of_mem _ (List.mem_append_left _ (List.mem_append_right _ h)))
  have hP : va_P D vwCl (pool G ad (va_up σ 16 u)) s.heap := hP
  have hS : va_S (AA B0) s.heap s.heap [] := va_S.rf
  have hl := lv_entry ([.ref (ad (279)), .int a, .int b]) (n := 3) (Nat.le_of_ble_eq_true rfl)
  rw [lg_entry_eq]
  generalize (lg_sl ([.ref (ad (279)), .int a, .int b]) ++ List.replicate (3 - (lg_sl ([.ref (ad (279)), .int a, .int b])).length) Slot.unset).toArray = ls at hl ⊢
  have hl : lv_has ls 3 [(0, .ref (ad (279))), (1, .int a), (2, .int b)] := hl
  obtain ⟨FF, hFF⟩ : ∃ z, z = f7_platform u a b := ⟨_, rfl⟩
  have hF := hFF.symm
  rw [f7_platform] at hF
  refine lv_aload_n hx hb dX7_platform_0 rfl (lv_at hl 0 rfl) ?_
  refine lv_iload_n hx hb dX7_platform_1 rfl (lv_at hl 1 rfl) ?_
  refine va_calli (va_runV (As := [.int a]) (rest := []) ⟨hx, hb, hml, hown, hts⟩ (c7_isPlatform l hA σ u a ) (cwV 1 hts gX7_platform_X7_isPlatform rfl rfl rfl hd_X7_isPlatformV ⟨Nat.le_of_ble_eq_true rfl, Nat.le_of_ble_eq_true rfl⟩) ⟨hp_blind, va_recv hK hP (ci := 9) (q0 := 279) rfl c_279, hp_pre hK hN hP⟩ rfl rfl hl.1 rfl (lv_room (Nat.le_of_ble_eq_true rfl)) dX7_platform_2 ⟨Nat.zero_le _, Nat.zero_le _⟩) hS (fun _ _ h => h) (fun _ h => h) (fun r2 _ t H locs ht hvm hw9 hB hz1 hk1 hS => ?_)
  have hP := ho_at ht hB
  obtain ⟨eq2, hb_r2⟩ := hw9
  have hF := bnd_s eq2 hF
  refine lv_if_ne (tgt := 14) hx hb dX7_platform_5 (by decide) (fun c5 => ?_) (fun c5 => ?_)
  · have hF := iff_ c5 hF
    have hba := plat_in hO.1 eq2 c5
    refine lv_iload_n hx hb dX7_platform_14 rfl (lv_at hl 2 rfl) ?_
    refine lv_iconst (v := 0) hx hb dX7_platform_15 (by decide) ?_
    refine lv_iconst (v := 5) hx hb dX7_platform_16 (by decide) ?_
    refine va_calli (va_runS (As := [.int b, .int 0, .int 5]) (rest := []) ⟨hx, hb, hml, hown, hts⟩ (c7_isBetween l hA (va_up σ 16 u) b 0 5 ) (va_cwS 3 hts gX7_platform_X7_isBetween rfl rfl rfl hd_X7_isBetweenS ⟨Nat.le_of_ble_eq_true rfl, Nat.le_of_ble_eq_true rfl⟩) ⟨hp_blind, hp_pre hK hN hP⟩ rfl rfl hl.1 rfl (lv_room (Nat.le_of_ble_eq_true rfl)) dX7_platform_17 ⟨Nat.zero_le _, Nat.zero_le _⟩) hS (fun _ _ h => h) (fun _ h => h) (fun r17 _ t H locs ht hvm hw9 hB hz1 hk1 hS => ?_)
    have hP := ho_at ht hB
    obtain ⟨eq17, hb_r17⟩ := hw9
    have hF := bnd_s eq17 hF
    refine lv_if_ne (tgt := 29) hx hb dX7_platform_20 (by decide) (fun c20 => ?_) (fun c20 => ?_)
    · have hF := iff_ c20 hF
      have hwb : vp_in b 8 := btw_in eq17 c20 (by decide)
      refine lv_aload_n hx hb dX7_platform_29 rfl (lv_at hl 0 rfl) ?_
      refine lv_iconst (v := 0) hx hb dX7_platform_30 (by decide) ?_
      refine pput16 hx hb hts inX7 tyX7 tyX7_ok nmX7 hown hK hP hA hS (j := 279) (by decide) (by decide) rfl rfl 0 (by decide) (hts (.fieldLink RX7 45 "TileRunnersModel" "thrown" "I") (List.mem_of_getElem? (i := 1) rfl)) (fun _ h9 => h9) rfl (tyX7_ok 0 (by decide)) rfl rfl (Nat.le_of_ble_eq_true rfl) (490) (by decide) (setM_0) dX7_platform_31 (fun u9 H locs eu9 hP hS => ?_)
      obtain ⟨u31, e_u31⟩ : ∃ z, z = u9 := ⟨_, rfl⟩
      rw [← e_u31] at hP eu9
      have hF := bnd_s eu9 hF
      have hO := okM_up eu9 hO (by omega) (by omega) (by omega)
      refine lv_aload_n hx hb dX7_platform_34 rfl (lv_at hl 0 rfl) ?_
      refine lv_iload_n hx hb dX7_platform_35 rfl (lv_at hl 1 rfl) ?_
      refine lv_iload_n hx hb dX7_platform_36 rfl (lv_at hl 2 rfl) ?_
      refine va_calli (va_runV (As := [.int a, .int b]) (rest := []) ⟨hx, hb, hml, hown, hts⟩ (c7_plate l hA σ u31 a b hwb hba) (cwV 2 hts gX7_platform_X7_plate rfl rfl rfl hd_X7_plateV ⟨Nat.le_of_ble_eq_true rfl, Nat.le_of_ble_eq_true rfl⟩) ⟨hp_blind, va_recv hK hP (ci := 9) (q0 := 279) rfl c_279, hp_pre hK hN hP⟩ rfl rfl hl.1 rfl (lv_room (Nat.le_of_ble_eq_true rfl)) dX7_platform_37 ⟨Nat.zero_le _, Nat.zero_le _⟩) hS (fun _ _ h => h) (fun _ h => h) (fun r37 _ t H locs ht hvm hw9 hB hz1 hk1 hS => ?_)
      have hP := ho_at ht hB
      have eq37 := hw9
      have hF := bnd_s eq37 hF
      exact W.iret (v := r37) hx hb hr (fun t ht hW => ⟨⟨r37, u31, rfl, ⟨hF.trans hFF, hO⟩, ho_of ht hP⟩, hS.F ht⟩) hS.2.2 dX7_platform_40
    · have hF := ift c20 hF
      refine lv_aload_n hx hb dX7_platform_23 rfl (lv_at hl 0 rfl) ?_
      refine lv_iconst (v := 2) hx hb dX7_platform_24 (by decide) ?_
      refine va_calli (va_runV (As := [.int 2]) (rest := []) ⟨hx, hb, hml, hown, hts⟩ (c7_fails l hA σ u 2 hO) (cwV 1 hts gX7_platform_X7_fails rfl rfl rfl hd_X7_failsV ⟨Nat.le_of_ble_eq_true rfl, Nat.le_of_ble_eq_true rfl⟩) ⟨hp_blind, va_recv hK hP (ci := 9) (q0 := 279) rfl c_279, hp_pre hK hN hP⟩ rfl rfl hl.1 rfl (lv_room (Nat.le_of_ble_eq_true rfl)) dX7_platform_25 ⟨Nat.zero_le _, Nat.zero_le _⟩) hS (fun _ _ h => h) (fun _ h => h) (fun r25 u9 t H locs ht hvm hw9 hB hz1 hk1 hS => ?_)
      have hP := ho_at ht hB
      obtain ⟨eq25, ok9⟩ := hw9
      obtain ⟨u25, e_u25⟩ : ∃ z, z = u9 := ⟨_, rfl⟩
      rw [← e_u25] at hP eq25 ok9
      have hO := ok9
      have hF := bnd2_s eq25 hF
      exact W.iret (v := r25) hx hb hr (fun t ht hW => ⟨⟨r25, u25, rfl, ⟨hF.trans hFF, hO⟩, ho_of ht hP⟩, hS.F ht⟩) hS.2.2 dX7_platform_28
  · have hF := ift c5 hF
    refine lv_aload_n hx hb dX7_platform_8 rfl (lv_at hl 0 rfl) ?_
    refine lv_iconst (v := 1) hx hb dX7_platform_9 (by decide) ?_
    refine va_calli (va_runV (As := [.int 1]) (rest := []) ⟨hx, hb, hml, hown, hts⟩ (c7_fails l hA σ u 1 hO) (cwV 1 hts gX7_platform_X7_fails rfl rfl rfl hd_X7_failsV ⟨Nat.le_of_ble_eq_true rfl, Nat.le_of_ble_eq_true rfl⟩) ⟨hp_blind, va_recv hK hP (ci := 9) (q0 := 279) rfl c_279, hp_pre hK hN hP⟩ rfl rfl hl.1 rfl (lv_room (Nat.le_of_ble_eq_true rfl)) dX7_platform_10 ⟨Nat.zero_le _, Nat.zero_le _⟩) hS (fun _ _ h => h) (fun _ h => h) (fun r10 u9 t H locs ht hvm hw9 hB hz1 hk1 hS => ?_)
    have hP := ho_at ht hB
    obtain ⟨eq10, ok9⟩ := hw9
    obtain ⟨u10, e_u10⟩ : ∃ z, z = u9 := ⟨_, rfl⟩
    rw [← e_u10] at hP eq10 ok9
    have hO := ok9
    have hF := bnd2_s eq10 hF
    exact W.iret (v := r10) hx hb hr (fun t ht hW => ⟨⟨r10, u10, rfl, ⟨hF.trans hFF, hO⟩, ho_of ht hP⟩, hS.F ht⟩) hS.2.2 dX7_platform_13
theorem hd_X7_platformV : yX7_platform.cls = RX7 ∧ yX7_platform.cls ≠ "java/lang/invoke/MethodHandle" ∧ yX7_platform.cls ≠ "java/lang/invoke/VarHandle" ∧ (parseMethodDescriptor yX7_platform.desc).map (fun d => d.parameters.length) = some 2 := by decide +kernel
set_option maxHeartbeats 4000000 in
set_option maxRecDepth 100000 in
theorem c7_count (l : Launch) {D : va_G} {G : CY} {ad : Nat → Nat} {B0 : Nat} (hA : adOK B0 ad) (σ : Nat → Nat → Int32) (u : Nat → Int32) (a : Int32) (hO : okM u) : Met l yX7_count wsX7_count { frames := 1, cells := 0, slots := 0, locals := 22 } (va_Pc [.ref (ad (279)), .int a] (Hp D G ad (va_up σ 16 u))) (va_Qi (fun (r : Int32) (z : Nat → Int32) => (r, z) = f7_count u a ∧ okM z) (fun (z : Nat → Int32) => Ho D G ad (va_up σ 16 z)) (AA B0)) 0 0 (AA B0) := by
  refine Met.ofW (cc := cX7_count) (maxL := 4) (ret := (some .int)) (by decide) rfl ?_
  intro p e s m args below meth c s₁ B hml hv
  obtain ⟨rfl, hP, hK, hN⟩ := hv
  have hx := B.exec
  have hb := B.bytes
  have hr := B.returns
  have hts := atoms_spec (ws := wsX7_count) B.pre
  have hown : s.vm.findClass RX7 = some m.cls := findClass_of_methodNamed B.named
  have hlocks := B.notSynchronized
  have inX7 : ∀ w ∈ wsX70, w ∈ wsX7_count := (fun w h => List.mem_cons_of_mem _ (List.mem_append_left _ (List.mem_append_right _ h)))
  have hP : va_P D vwCl (pool G ad (va_up σ 16 u)) s.heap := hP
  have hS : va_S (AA B0) s.heap s.heap [] := va_S.rf
  have hl := lv_entry ([.ref (ad (279)), .int a]) (n := 4) (Nat.le_of_ble_eq_true rfl)
  rw [lg_entry_eq]
  generalize (lg_sl ([.ref (ad (279)), .int a]) ++ List.replicate (4 - (lg_sl ([.ref (ad (279)), .int a])).length) Slot.unset).toArray = ls at hl ⊢
  have hl : lv_has ls 4 [(0, .ref (ad (279))), (1, .int a)] := hl
  obtain ⟨FF, hFF⟩ : ∃ z, z = f7_count u a := ⟨_, rfl⟩
  have hF := hFF.symm
  rw [f7_count] at hF
  refine lv_iload_n hx hb dX7_count_0 rfl (lv_at hl 1 rfl) ?_
  refine lv_iconst (v := 0) hx hb dX7_count_1 (by decide) ?_
  refine lv_iconst (v := 3) hx hb dX7_count_2 (by decide) ?_
  refine va_calli (va_runS (As := [.int a, .int 0, .int 3]) (rest := []) ⟨hx, hb, hml, hown, hts⟩ (c7_isBetween l hA (va_up σ 16 u) a 0 3 ) (va_cwS 3 hts gX7_count_X7_isBetween rfl rfl rfl hd_X7_isBetweenS ⟨Nat.le_of_ble_eq_true rfl, Nat.le_of_ble_eq_true rfl⟩) ⟨hp_blind, hp_pre hK hN hP⟩ rfl rfl hl.1 rfl (lv_room (Nat.le_of_ble_eq_true rfl)) dX7_count_3 ⟨Nat.zero_le _, Nat.zero_le _⟩) hS (fun _ _ h => h) (fun _ h => h) (fun r3 _ t H locs ht hvm hw9 hB hz1 hk1 hS => ?_)
  have hP := ho_at ht hB
  obtain ⟨eq3, hb_r3⟩ := hw9
  have hF := bnd_s eq3 hF
  refine lv_if_ne (tgt := 15) hx hb dX7_count_6 (by decide) (fun c6 => ?_) (fun c6 => ?_)
  · have hF := iff_ c6 hF
    refine lv_aload_n hx hb dX7_count_15 rfl (lv_at hl 0 rfl) ?_
    refine lv_iconst (v := 0) hx hb dX7_count_16 (by decide) ?_
    refine pput16 hx hb hts inX7 tyX7 tyX7_ok nmX7 hown hK hP hA hS (j := 279) (by decide) (by decide) rfl rfl 0 (by decide) (hts (.fieldLink RX7 45 "TileRunnersModel" "thrown" "I") (List.mem_of_getElem? (i := 1) rfl)) (fun _ h9 => h9) rfl (tyX7_ok 0 (by decide)) rfl rfl (Nat.le_of_ble_eq_true rfl) (490) (by decide) (setM_0) dX7_count_17 (fun u9 H locs eu9 hP hS => ?_)
    obtain ⟨u17, e_u17⟩ : ∃ z, z = u9 := ⟨_, rfl⟩
    rw [← e_u17] at hP eu9
    have hF := bnd_s eu9 hF
    have hO := okM_up eu9 hO (by omega) (by omega) (by omega)
    refine lv_iload_n hx hb dX7_count_20 rfl (lv_at hl 1 rfl) ?_
    refine lv_iconst (v := 2) hx hb dX7_count_21 (by decide) ?_
    refine lv_icmp_ge (tgt := 49) hx hb dX7_count_22 (by decide) (fun c22 => ?_) (fun c22 => ?_)
    · have hF := ift c22 hF
      refine lv_iconst (v := 0) hx hb dX7_count_49 (by decide) ?_
      refine lv_istore_n (lv' := [(2, .int 0), (0, .ref (ad (279))), (1, .int a)]) hx hb dX7_count_50 rfl hl (by decide) rfl (fun ls hl => ?_)
      refine lv_iconst (v := 0) hx hb dX7_count_51 (by decide) ?_
      refine lv_istore_n (lv' := [(3, .int 0), (2, .int 0), (0, .ref (ad (279))), (1, .int a)]) hx hb dX7_count_52 rfl hl (by decide) rfl (fun ls hl => ?_)
      have L53 : ∀ (n53 : Nat) (w3_53 : Int32) (w2_53 : Int32) (H : Heap) (locs : List Loc) (ls : Array Slot), ((336 : Int32).toInt - w3_53.toInt).toNat < n53 → 0 ≤ w3_53 → va_P D vwCl (pool G ad (va_up σ 16 u17)) H → va_S (AA B0) s.heap H locs → lv_has ls 4 [(3, .int w3_53), (2, .int w2_53), (0, .ref (ad (279))), (1, .int a)] → f7_count_L53 a u17 n53 w3_53 w2_53 = FF → W p l e (headSpec wsX7_count { frames := 1, cells := 0, slots := 0, locals := 22 }).room s m ([.ref (ad (279)), .int a] : List Value).toArray below meth c H locs 0 0 (MQ below (va_Qi (fun (r : Int32) (z : Nat → Int32) => (r, z) = f7_count u a ∧ okM z) (fun (z : Nat → Int32) => Ho D G ad (va_up σ 16 z)) (AA B0)) ([.ref (ad (279)), .int a] : List Value).toArray s 0 0 (AA B0)) (F0 m 53 ls []) := by
        intro n53
        induction n53 with
        | zero => intro w3_53 w2_53 H locs ls hm; exact absurd hm (Nat.not_lt_zero _)
        | succ n53 ih53 =>
          intro w3_53 w2_53 H locs ls hm53 h3 hP hS hl hF
          rw [f7_count_L53] at hF
          refine lv_iload_n hx hb dX7_count_53 rfl (lv_at hl 0 rfl) ?_
          refine lv_sipush (v := 336) hx hb dX7_count_54 (by decide) ?_
          refine lv_icmp_ge (tgt := 107) hx hb dX7_count_57 (by decide) (fun c57 => ?_) (fun c57 => ?_)
          · have hF := ift c57 hF
            refine lv_iload_n hx hb dX7_count_107 rfl (lv_at hl 1 rfl) ?_
            exact W.iret (v := w2_53) hx hb hr (fun t ht hW => ⟨⟨w2_53, u17, rfl, ⟨hF.trans hFF, hO⟩, ho_of ht hP⟩, hS.F ht⟩) hS.2.2 dX7_count_108
          · have hF := iff_ c57 hF
            have hv3 : vp_in w3_53 336 := in_n h3 (nle_lt c57) (by decide)
            refine lv_iload_n hx hb dX7_count_60 rfl (lv_at hl 1 rfl) ?_
            refine lv_iload_n hx hb dX7_count_61 rfl (lv_at hl 3 rfl) ?_
            refine lv_iconst (v := 2) hx hb dX7_count_62 (by decide) ?_
            have J99 : ∀ (t0_99 : Int32) (H : Heap) (locs : List Loc) (ls : Array Slot), bl t0_99 → va_P D vwCl (pool G ad (va_up σ 16 u17)) H → va_S (AA B0) s.heap H locs → lv_has ls 4 [(3, .int w3_53), (0, .ref (ad (279))), (1, .int a)] → f7_count_b99 (f7_count_L53 a u17 n53) w3_53 w2_53 t0_99 = FF → W p l e (headSpec wsX7_count { frames := 1, cells := 0, slots := 0, locals := 22 }).room s m ([.ref (ad (279)), .int a] : List Value).toArray below meth c H locs 0 0 (MQ below (va_Qi (fun (r : Int32) (z : Nat → Int32) => (r, z) = f7_count u a ∧ okM z) (fun (z : Nat → Int32) => Ho D G ad (va_up σ 16 z)) (AA B0)) ([.ref (ad (279)), .int a] : List Value).toArray s 0 0 (AA B0)) (F0 m 99 ls [.int t0_99, .int w2_53]) := by
              intro t0_99 H locs ls hb_t0_99 hP hS hl hF
              rw [f7_count_b99] at hF
              refine lv_iadd hx hb dX7_count_99 ?_
              refine lv_topi (fun v2_100 e_v2_100 => ?_)
              have hF := bnd_s e_v2_100 hF
              refine lv_istore_n (lv' := [(2, .int v2_100), (3, .int w3_53), (0, .ref (ad (279))), (1, .int a)]) hx hb dX7_count_100 rfl hl (by decide) rfl (fun ls hl => ?_)
              obtain ⟨v3_101, e_v3_101⟩ : ∃ z : Int32, z = w3_53 + 1 := ⟨_, rfl⟩
              have hF := bnd_s e_v3_101 hF
              refine lv_iinc (v := v3_101) (lv' := [(3, .int v3_101), (2, .int v2_100), (0, .ref (ad (279))), (1, .int a)]) hx hb dX7_count_101 hl (k := 1) rfl (by rw [e_v3_101]; rfl) (by decide) rfl (fun ls hl => ?_)
              refine lv_goto (tgt := 53) hx hb dX7_count_104 (by decide) ?_
              exact ih53 v3_101 v2_100 _ _ ls (ms_s (dec_up (nle_lt c57) e_v3_101) hm53) (ge0_in hv3 (by decide) e_v3_101) hP hS (lv_sub hl [0, 1, 2, 3] rfl) hF
            refine lv_icmp_ne (tgt := 83) hx hb dX7_count_63 (by decide) (fun c63 => ?_) (fun c63 => ?_)
            · have hF := iff_ c63 hF
              refine lv_aload_n hx hb dX7_count_83 rfl (lv_at hl 2 rfl) ?_
              refine va_get (D := D) (ci := 9) (C := RX7) (T := TX7) (N := 17) hx hb hts inX7 hown hK hP (279) c_279 rfl 1 (by decide) (hts (.fieldLink RX7 7 "TileRunnersModel" "world" "[I") (List.mem_of_getElem? (i := 2) rfl)) (fun _ h9 => h9) rfl dX7_count_84 ?_
              refine lv_iload_n hx hb dX7_count_87 rfl (lv_at hl 0 rfl) ?_
              refine pald (n := 480) (o := 0) (t := w3_53.toNatClampNeg) (i := w3_53) hx hb hK hP c_280 (in_mono hv3 (by decide)) (Nat.zero_add _) dX7_count_88 ?_
              refine lv_bipush (v := 10) hx hb dX7_count_89 (by decide) ?_
              refine lv_icmp_ne (tgt := 98) hx hb dX7_count_91 (by decide) (fun c91 => ?_) (fun c91 => ?_)
              · have hF := iff_ c91 hF
                refine lv_iconst (v := 0) hx hb dX7_count_98 (by decide) ?_
                exact J99 0 _ _ ls bl0 hP hS (lv_sub hl [0, 2, 3] rfl) hF
              · have hF := ift c91 hF
                refine lv_iconst (v := 1) hx hb dX7_count_94 (by decide) ?_
                refine lv_goto (tgt := 99) hx hb dX7_count_95 (by decide) ?_
                exact J99 1 _ _ ls bl1 hP hS (lv_sub hl [0, 2, 3] rfl) hF
            · have hF := ift c63 hF
              refine lv_aload_n hx hb dX7_count_66 rfl (lv_at hl 2 rfl) ?_
              refine va_get (D := D) (ci := 9) (C := RX7) (T := TX7) (N := 17) hx hb hts inX7 hown hK hP (279) c_279 rfl 1 (by decide) (hts (.fieldLink RX7 7 "TileRunnersModel" "world" "[I") (List.mem_of_getElem? (i := 2) rfl)) (fun _ h9 => h9) rfl dX7_count_67 ?_
              refine lv_iload_n hx hb dX7_count_70 rfl (lv_at hl 0 rfl) ?_
              refine pald (n := 480) (o := 0) (t := w3_53.toNatClampNeg) (i := w3_53) hx hb hK hP c_280 (in_mono hv3 (by decide)) (Nat.zero_add _) dX7_count_71 ?_
              refine lv_if_eq (tgt := 79) hx hb dX7_count_72 (by decide) (fun c72 => ?_) (fun c72 => ?_)
              · have hF := ift c72 hF
                refine lv_iconst (v := 0) hx hb dX7_count_79 (by decide) ?_
                refine lv_goto (tgt := 99) hx hb dX7_count_80 (by decide) ?_
                exact J99 0 _ _ ls bl0 hP hS (lv_sub hl [0, 2, 3] rfl) hF
              · have hF := iff_ c72 hF
                refine lv_iconst (v := 1) hx hb dX7_count_75 (by decide) ?_
                refine lv_goto (tgt := 99) hx hb dX7_count_76 (by decide) ?_
                exact J99 1 _ _ ls bl1 hP hS (lv_sub hl [0, 2, 3] rfl) hF
      exact L53 BIG 0 0 _ _ ls (big_up _ _) le0 hP hS (lv_sub hl [0, 1, 2, 3] rfl) hF
    · have hF := iff_ c22 hF
      refine lv_iload_n hx hb dX7_count_25 rfl (lv_at hl 1 rfl) ?_
      refine lv_if_ne (tgt := 40) hx hb dX7_count_26 (by decide) (fun c26 => ?_) (fun c26 => ?_)
      · have hF := iff_ c26 hF
        refine lv_aload_n hx hb dX7_count_40 rfl (lv_at hl 0 rfl) ?_
        refine va_get (D := D) (ci := 9) (C := RX7) (T := TX7) (N := 17) hx hb hts inX7 hown hK hP (279) c_279 rfl 1 (by decide) (hts (.fieldLink RX7 7 "TileRunnersModel" "world" "[I") (List.mem_of_getElem? (i := 2) rfl)) (fun _ h9 => h9) rfl dX7_count_41 ?_
        refine lv_sipush (v := 465) hx hb dX7_count_44 (by decide) ?_
        refine pald (n := 480) (o := 0) (t := 465) (i := 465) hx hb hK hP c_280 (vp_in_iff.mpr (by decide)) rfl dX7_count_47 ?_
        exact W.iret (v := (u17 465)) hx hb hr (fun t ht hW => ⟨⟨(u17 465), u17, rfl, ⟨hF.trans hFF, hO⟩, ho_of ht hP⟩, hS.F ht⟩) hS.2.2 dX7_count_48
      · have hF := ift c26 hF
        refine lv_aload_n hx hb dX7_count_29 rfl (lv_at hl 0 rfl) ?_
        refine va_get (D := D) (ci := 9) (C := RX7) (T := TX7) (N := 17) hx hb hts inX7 hown hK hP (279) c_279 rfl 1 (by decide) (hts (.fieldLink RX7 7 "TileRunnersModel" "world" "[I") (List.mem_of_getElem? (i := 2) rfl)) (fun _ h9 => h9) rfl dX7_count_30 ?_
        refine lv_sipush (v := 464) hx hb dX7_count_33 (by decide) ?_
        refine pald (n := 480) (o := 0) (t := 464) (i := 464) hx hb hK hP c_280 (vp_in_iff.mpr (by decide)) rfl dX7_count_36 ?_
        refine lv_goto (tgt := 48) hx hb dX7_count_37 (by decide) ?_
        exact W.iret (v := (u17 464)) hx hb hr (fun t ht hW => ⟨⟨(u17 464), u17, rfl, ⟨hF.trans hFF, hO⟩, ho_of ht hP⟩, hS.F ht⟩) hS.2.2 dX7_count_48
  · have hF := ift c6 hF
    refine lv_aload_n hx hb dX7_count_9 rfl (lv_at hl 0 rfl) ?_
    refine lv_iconst (v := 1) hx hb dX7_count_10 (by decide) ?_
    refine va_calli (va_runV (As := [.int 1]) (rest := []) ⟨hx, hb, hml, hown, hts⟩ (c7_fails l hA σ u 1 hO) (cwV 1 hts gX7_count_X7_fails rfl rfl rfl hd_X7_failsV ⟨Nat.le_of_ble_eq_true rfl, Nat.le_of_ble_eq_true rfl⟩) ⟨hp_blind, va_recv hK hP (ci := 9) (q0 := 279) rfl c_279, hp_pre hK hN hP⟩ rfl rfl hl.1 rfl (lv_room (Nat.le_of_ble_eq_true rfl)) dX7_count_11 ⟨Nat.zero_le _, Nat.zero_le _⟩) hS (fun _ _ h => h) (fun _ h => h) (fun r11 u9 t H locs ht hvm hw9 hB hz1 hk1 hS => ?_)
    have hP := ho_at ht hB
    obtain ⟨eq11, ok9⟩ := hw9
    obtain ⟨u11, e_u11⟩ : ∃ z, z = u9 := ⟨_, rfl⟩
    rw [← e_u11] at hP eq11 ok9
    have hO := ok9
    have hF := bnd2_s eq11 hF
    exact W.iret (v := r11) hx hb hr (fun t ht hW => ⟨⟨r11, u11, rfl, ⟨hF.trans hFF, hO⟩, ho_of ht hP⟩, hS.F ht⟩) hS.2.2 dX7_count_14
theorem hd_X7_countV : yX7_count.cls = RX7 ∧ yX7_count.cls ≠ "java/lang/invoke/MethodHandle" ∧ yX7_count.cls ≠ "java/lang/invoke/VarHandle" ∧ (parseMethodDescriptor yX7_count.desc).map (fun d => d.parameters.length) = some 1 := by decide +kernel
set_option maxHeartbeats 4000000 in
set_option maxRecDepth 100000 in
theorem c7_isSetting (l : Launch) {D : va_G} {G : CY} {ad : Nat → Nat} {B0 : Nat} (hA : adOK B0 ad) (σ : Nat → Nat → Int32) (a : Int32) (b : Int32) : Met l yX7_isSetting wsX7_isSetting { frames := 1, cells := 0, slots := 0, locals := 22 } (va_Pc [.int a, .int b] (Hp D G ad σ)) (va_Qi (fun (r : Int32) (_ : Unit) => r = f7_isSetting a b ∧ bl r) (fun (_ : Unit) => Ho D G ad σ) (AA B0)) 0 0 (AA B0) := by
  refine Met.ofW (cc := cX7_isSetting) (maxL := 2) (ret := (some .boolean)) (by decide) rfl ?_
  intro p e s m args below meth c s₁ B hml hv
  obtain ⟨rfl, hP, hK, hN⟩ := hv
  have hx := B.exec
  have hb := B.bytes
  have hr := B.returns
  have hts := atoms_spec (ws := wsX7_isSetting) B.pre
  have hown : s.vm.findClass RX7 = some m.cls := findClass_of_methodNamed B.named
  have hlocks := B.notSynchronized
  have hP : va_P D vwCl (pool G ad σ) s.heap := hP
  have hS : va_S (AA B0) s.heap s.heap [] := va_S.rf
  have hl := lv_entry ([.int a, .int b]) (n := 2) (Nat.le_of_ble_eq_true rfl)
  rw [lg_entry_eq]
  generalize (lg_sl ([.int a, .int b]) ++ List.replicate (2 - (lg_sl ([.int a, .int b])).length) Slot.unset).toArray = ls at hl ⊢
  have hl : lv_has ls 2 [(0, .int a), (1, .int b)] := hl
  obtain ⟨FF, hFF⟩ : ∃ z, z = f7_isSetting a b := ⟨_, rfl⟩
  have hF := hFF.symm
  rw [f7_isSetting] at hF
  refine lv_iload_n hx hb dX7_isSetting_0 rfl (lv_at hl 0 rfl) ?_
  refine lv_if_ne (tgt := 14) hx hb dX7_isSetting_1 (by decide) (fun c1 => ?_) (fun c1 => ?_)
  · have hF := iff_ c1 hF
    refine lv_iload_n hx hb dX7_isSetting_14 rfl (lv_at hl 0 rfl) ?_
    refine lv_iconst (v := 1) hx hb dX7_isSetting_15 (by decide) ?_
    refine lv_icmp_ne (tgt := 29) hx hb dX7_isSetting_16 (by decide) (fun c16 => ?_) (fun c16 => ?_)
    · have hF := iff_ c16 hF
      refine lv_iload_n hx hb dX7_isSetting_29 rfl (lv_at hl 0 rfl) ?_
      refine lv_iconst (v := 2) hx hb dX7_isSetting_30 (by decide) ?_
      refine lv_icmp_ne (tgt := 44) hx hb dX7_isSetting_31 (by decide) (fun c31 => ?_) (fun c31 => ?_)
      · have hF := iff_ c31 hF
        refine lv_iload_n hx hb dX7_isSetting_44 rfl (lv_at hl 1 rfl) ?_
        refine lv_iconst (v := 1) hx hb dX7_isSetting_45 (by decide) ?_
        refine lv_bipush (v := 10) hx hb dX7_isSetting_46 (by decide) ?_
        refine va_calli (va_runS (As := [.int b, .int 1, .int 10]) (rest := []) ⟨hx, hb, hml, hown, hts⟩ (c7_isBetween l hA σ b 1 10 ) (va_cwS 3 hts gX7_isSetting_X7_isBetween rfl rfl rfl hd_X7_isBetweenS ⟨Nat.le_of_ble_eq_true rfl, Nat.le_of_ble_eq_true rfl⟩) ⟨hp_blind, hp_pre hK hN hP⟩ rfl rfl hl.1 rfl (lv_room (Nat.le_of_ble_eq_true rfl)) dX7_isSetting_48 ⟨Nat.zero_le _, Nat.zero_le _⟩) hS (fun _ _ h => h) (fun _ h => h) (fun r48 _ t H locs ht hvm hw9 hB hz1 hk1 hS => ?_)
        have hP := ho_at ht hB
        obtain ⟨eq48, hb_r48⟩ := hw9
        have hF := bnd_s eq48 hF
        exact W.zret (v := r48) hx hb hr (bl_nar hb_r48) (fun t ht hW => ⟨⟨r48, (), rfl, ⟨hF.trans hFF, hb_r48⟩, ho_of ht hP⟩, hS.F ht⟩) hS.2.2 dX7_isSetting_51
      · have hF := ift c31 hF
        refine lv_iload_n hx hb dX7_isSetting_34 rfl (lv_at hl 1 rfl) ?_
        refine lv_iconst (v := 0) hx hb dX7_isSetting_35 (by decide) ?_
        refine lv_bipush (v := 10) hx hb dX7_isSetting_36 (by decide) ?_
        refine va_calli (va_runS (As := [.int b, .int 0, .int 10]) (rest := []) ⟨hx, hb, hml, hown, hts⟩ (c7_isBetween l hA σ b 0 10 ) (va_cwS 3 hts gX7_isSetting_X7_isBetween rfl rfl rfl hd_X7_isBetweenS ⟨Nat.le_of_ble_eq_true rfl, Nat.le_of_ble_eq_true rfl⟩) ⟨hp_blind, hp_pre hK hN hP⟩ rfl rfl hl.1 rfl (lv_room (Nat.le_of_ble_eq_true rfl)) dX7_isSetting_38 ⟨Nat.zero_le _, Nat.zero_le _⟩) hS (fun _ _ h => h) (fun _ h => h) (fun r38 _ t H locs ht hvm hw9 hB hz1 hk1 hS => ?_)
        have hP := ho_at ht hB
        obtain ⟨eq38, hb_r38⟩ := hw9
        have hF := bnd_s eq38 hF
        refine lv_goto (tgt := 51) hx hb dX7_isSetting_41 (by decide) ?_
        exact W.zret (v := r38) hx hb hr (bl_nar hb_r38) (fun t ht hW => ⟨⟨r38, (), rfl, ⟨hF.trans hFF, hb_r38⟩, ho_of ht hP⟩, hS.F ht⟩) hS.2.2 dX7_isSetting_51
    · have hF := ift c16 hF
      refine lv_iload_n hx hb dX7_isSetting_19 rfl (lv_at hl 1 rfl) ?_
      refine lv_iconst (v := 5) hx hb dX7_isSetting_20 (by decide) ?_
      refine lv_bipush (v := 16) hx hb dX7_isSetting_21 (by decide) ?_
      refine va_calli (va_runS (As := [.int b, .int 5, .int 16]) (rest := []) ⟨hx, hb, hml, hown, hts⟩ (c7_isBetween l hA σ b 5 16 ) (va_cwS 3 hts gX7_isSetting_X7_isBetween rfl rfl rfl hd_X7_isBetweenS ⟨Nat.le_of_ble_eq_true rfl, Nat.le_of_ble_eq_true rfl⟩) ⟨hp_blind, hp_pre hK hN hP⟩ rfl rfl hl.1 rfl (lv_room (Nat.le_of_ble_eq_true rfl)) dX7_isSetting_23 ⟨Nat.zero_le _, Nat.zero_le _⟩) hS (fun _ _ h => h) (fun _ h => h) (fun r23 _ t H locs ht hvm hw9 hB hz1 hk1 hS => ?_)
      have hP := ho_at ht hB
      obtain ⟨eq23, hb_r23⟩ := hw9
      have hF := bnd_s eq23 hF
      refine lv_goto (tgt := 51) hx hb dX7_isSetting_26 (by decide) ?_
      exact W.zret (v := r23) hx hb hr (bl_nar hb_r23) (fun t ht hW => ⟨⟨r23, (), rfl, ⟨hF.trans hFF, hb_r23⟩, ho_of ht hP⟩, hS.F ht⟩) hS.2.2 dX7_isSetting_51
  · have hF := ift c1 hF
    refine lv_iload_n hx hb dX7_isSetting_4 rfl (lv_at hl 1 rfl) ?_
    refine lv_iconst (v := 1) hx hb dX7_isSetting_5 (by decide) ?_
    refine lv_bipush (v := 10) hx hb dX7_isSetting_6 (by decide) ?_
    refine va_calli (va_runS (As := [.int b, .int 1, .int 10]) (rest := []) ⟨hx, hb, hml, hown, hts⟩ (c7_isBetween l hA σ b 1 10 ) (va_cwS 3 hts gX7_isSetting_X7_isBetween rfl rfl rfl hd_X7_isBetweenS ⟨Nat.le_of_ble_eq_true rfl, Nat.le_of_ble_eq_true rfl⟩) ⟨hp_blind, hp_pre hK hN hP⟩ rfl rfl hl.1 rfl (lv_room (Nat.le_of_ble_eq_true rfl)) dX7_isSetting_8 ⟨Nat.zero_le _, Nat.zero_le _⟩) hS (fun _ _ h => h) (fun _ h => h) (fun r8 _ t H locs ht hvm hw9 hB hz1 hk1 hS => ?_)
    have hP := ho_at ht hB
    obtain ⟨eq8, hb_r8⟩ := hw9
    have hF := bnd_s eq8 hF
    refine lv_goto (tgt := 51) hx hb dX7_isSetting_11 (by decide) ?_
    exact W.zret (v := r8) hx hb hr (bl_nar hb_r8) (fun t ht hW => ⟨⟨r8, (), rfl, ⟨hF.trans hFF, hb_r8⟩, ho_of ht hP⟩, hS.F ht⟩) hS.2.2 dX7_isSetting_51
theorem hd_X7_isSettingS : yX7_isSetting.cls ≠ "java/lang/invoke/MethodHandle" ∧ yX7_isSetting.cls ≠ "java/lang/invoke/VarHandle" ∧ (parseMethodDescriptor yX7_isSetting.desc).map (fun d => d.parameters.length) = some 2 := by decide +kernel
set_option maxHeartbeats 4000000 in
set_option maxRecDepth 100000 in
theorem c7_set (l : Launch) {D : va_G} {G : CY} {ad : Nat → Nat} {B0 : Nat} (hA : adOK B0 ad) (σ : Nat → Nat → Int32) (u : Nat → Int32) (a : Int32) (b : Int32) (hO : okM u) : Met l yX7_set wsX7_set { frames := 2, cells := 0, slots := 0, locals := 43 } (va_Pc [.ref (ad (279)), .int a, .int b] (Hp D G ad (va_up σ 16 u))) (va_Qi (fun (r : Int32) (z : Nat → Int32) => (r, z) = f7_set u a b ∧ okM z) (fun (z : Nat → Int32) => Ho D G ad (va_up σ 16 z)) (AA B0)) 0 0 (AA B0) := by
  refine Met.ofW (cc := cX7_set) (maxL := 4) (ret := (some .int)) (by decide) rfl ?_
  intro p e s m args below meth c s₁ B hml hv
  obtain ⟨rfl, hP, hK, hN⟩ := hv
  have hx := B.exec
  have hb := B.bytes
  have hr := B.returns
  have hts := atoms_spec (ws := wsX7_set) B.pre
  have hown : s.vm.findClass RX7 = some m.cls := findClass_of_methodNamed B.named
  have hlocks := B.notSynchronized
  have inX7 : ∀ w ∈ wsX70, w ∈ wsX7_set := (fun w h => List.mem_cons_of_mem _ (List.mem_append_left _ (List.mem_append_right _ h)))
  have hP : va_P D vwCl (pool G ad (va_up σ 16 u)) s.heap := hP
  have hS : va_S (AA B0) s.heap s.heap [] := va_S.rf
  have hl := lv_entry ([.ref (ad (279)), .int a, .int b]) (n := 4) (Nat.le_of_ble_eq_true rfl)
  rw [lg_entry_eq]
  generalize (lg_sl ([.ref (ad (279)), .int a, .int b]) ++ List.replicate (4 - (lg_sl ([.ref (ad (279)), .int a, .int b])).length) Slot.unset).toArray = ls at hl ⊢
  have hl : lv_has ls 4 [(0, .ref (ad (279))), (1, .int a), (2, .int b)] := hl
  obtain ⟨FF, hFF⟩ : ∃ z, z = f7_set u a b := ⟨_, rfl⟩
  have hF := hFF.symm
  rw [f7_set] at hF
  refine lv_iload_n hx hb dX7_set_0 rfl (lv_at hl 1 rfl) ?_
  refine lv_iconst (v := 0) hx hb dX7_set_1 (by decide) ?_
  refine lv_iconst (v := 3) hx hb dX7_set_2 (by decide) ?_
  refine va_calli (va_runS (As := [.int a, .int 0, .int 3]) (rest := []) ⟨hx, hb, hml, hown, hts⟩ (c7_isBetween l hA (va_up σ 16 u) a 0 3 ) (va_cwS 3 hts gX7_set_X7_isBetween rfl rfl rfl hd_X7_isBetweenS ⟨Nat.le_of_ble_eq_true rfl, Nat.le_of_ble_eq_true rfl⟩) ⟨hp_blind, hp_pre hK hN hP⟩ rfl rfl hl.1 rfl (lv_room (Nat.le_of_ble_eq_true rfl)) dX7_set_3 ⟨Nat.zero_le _, Nat.zero_le _⟩) hS (fun _ _ h => h) (fun _ h => h) (fun r3 _ t H locs ht hvm hw9 hB hz1 hk1 hS => ?_)
  have hP := ho_at ht hB
  obtain ⟨eq3, hb_r3⟩ := hw9
  have hF := bnd_s eq3 hF
  refine lv_if_ne (tgt := 15) hx hb dX7_set_6 (by decide) (fun c6 => ?_) (fun c6 => ?_)
  · have hF := iff_ c6 hF
    refine lv_iload_n hx hb dX7_set_15 rfl (lv_at hl 1 rfl) ?_
    refine lv_iload_n hx hb dX7_set_16 rfl (lv_at hl 2 rfl) ?_
    refine va_calli (va_runS (As := [.int a, .int b]) (rest := []) ⟨hx, hb, hml, hown, hts⟩ (c7_isSetting l hA (va_up σ 16 u) a b ) (va_cwS 2 hts gX7_set_X7_isSetting rfl rfl rfl hd_X7_isSettingS ⟨Nat.le_of_ble_eq_true rfl, Nat.le_of_ble_eq_true rfl⟩) ⟨hp_blind, hp_pre hK hN hP⟩ rfl rfl hl.1 rfl (lv_room (Nat.le_of_ble_eq_true rfl)) dX7_set_17 ⟨Nat.zero_le _, Nat.zero_le _⟩) hS (fun _ _ h => h) (fun _ h => h) (fun r17 _ t H locs ht hvm hw9 hB hz1 hk1 hS => ?_)
    have hP := ho_at ht hB
    obtain ⟨eq17, hb_r17⟩ := hw9
    have hF := bnd_s eq17 hF
    refine lv_if_ne (tgt := 29) hx hb dX7_set_20 (by decide) (fun c20 => ?_) (fun c20 => ?_)
    · have hF := iff_ c20 hF
      refine lv_aload_n hx hb dX7_set_29 rfl (lv_at hl 0 rfl) ?_
      refine lv_iconst (v := 0) hx hb dX7_set_30 (by decide) ?_
      refine pput16 hx hb hts inX7 tyX7 tyX7_ok nmX7 hown hK hP hA hS (j := 279) (by decide) (by decide) rfl rfl 0 (by decide) (hts (.fieldLink RX7 45 "TileRunnersModel" "thrown" "I") (List.mem_of_getElem? (i := 1) rfl)) (fun _ h9 => h9) rfl (tyX7_ok 0 (by decide)) rfl rfl (Nat.le_of_ble_eq_true rfl) (490) (by decide) (setM_0) dX7_set_31 (fun u9 H locs eu9 hP hS => ?_)
      obtain ⟨u31, e_u31⟩ : ∃ z, z = u9 := ⟨_, rfl⟩
      rw [← e_u31] at hP eu9
      have hF := bnd_s eu9 hF
      have hO := okM_up eu9 hO (by omega) (by omega) (by omega)
      refine lv_aload_n hx hb dX7_set_34 rfl (lv_at hl 0 rfl) ?_
      refine va_get (D := D) (ci := 9) (C := RX7) (T := TX7) (N := 17) hx hb hts inX7 hown hK hP (279) c_279 rfl 2 (by decide) (hts (.fieldLink RX7 13 "TileRunnersModel" "setting" "[I") (List.mem_of_getElem? (i := 2) rfl)) (fun _ h9 => h9) rfl dX7_set_35 ?_
      refine lv_iload_n hx hb dX7_set_38 rfl (lv_at hl 1 rfl) ?_
      refine pald (n := 4) (o := 480) (t := 480+a.toNatClampNeg) (i := a) hx hb hK hP c_281 (btw_in eq3 c6 (by decide)) rfl dX7_set_39 ?_
      refine lv_topi (fun v3_40 e_v3_40 => ?_)
      have hF := bnd_s e_v3_40 hF
      refine lv_istore_n (lv' := [(3, .int v3_40), (0, .ref (ad (279))), (1, .int a), (2, .int b)]) hx hb dX7_set_40 rfl hl (by decide) rfl (fun ls hl => ?_)
      refine lv_aload_n hx hb dX7_set_41 rfl (lv_at hl 1 rfl) ?_
      refine va_get (D := D) (ci := 9) (C := RX7) (T := TX7) (N := 17) hx hb hts inX7 hown hK hP (279) c_279 rfl 2 (by decide) (hts (.fieldLink RX7 13 "TileRunnersModel" "setting" "[I") (List.mem_of_getElem? (i := 2) rfl)) (fun _ h9 => h9) rfl dX7_set_42 ?_
      refine lv_iload_n hx hb dX7_set_45 rfl (lv_at hl 2 rfl) ?_
      refine lv_iload_n hx hb dX7_set_46 rfl (lv_at hl 3 rfl) ?_
      have hin9 : vp_in a 4 := (btw_in eq3 c6 (by decide))
      refine past16 (n := 4) (o := 480) (t := 480+a.toNatClampNeg) hx hb hK hP hA hS (j := 281) (by decide) (by decide) (fun _ _ => rfl) (fun k9 hk9 => by unfold own16; repeat first | rw [if_pos (by omega)] | rw [if_neg (by omega)]) hin9 rfl dX7_set_47 (fun u9 H locs eu9 hP hS => ?_)
      have hlt9 := in_lt hin9
      obtain ⟨u47, e_u47⟩ : ∃ z, z = u9 := ⟨_, rfl⟩
      rw [← e_u47] at hP eu9
      have hF := bnd_s eu9 hF
      have hO := okM_up eu9 hO (by omega) (by omega) (by omega)
      refine lv_iload_n hx hb dX7_set_48 rfl (lv_at hl 0 rfl) ?_
      exact W.iret (v := v3_40) hx hb hr (fun t ht hW => ⟨⟨v3_40, u47, rfl, ⟨hF.trans hFF, hO⟩, ho_of ht hP⟩, hS.F ht⟩) hS.2.2 dX7_set_49
    · have hF := ift c20 hF
      refine lv_aload_n hx hb dX7_set_23 rfl (lv_at hl 0 rfl) ?_
      refine lv_iconst (v := 2) hx hb dX7_set_24 (by decide) ?_
      refine va_calli (va_runV (As := [.int 2]) (rest := []) ⟨hx, hb, hml, hown, hts⟩ (c7_fails l hA σ u 2 hO) (cwV 1 hts gX7_set_X7_fails rfl rfl rfl hd_X7_failsV ⟨Nat.le_of_ble_eq_true rfl, Nat.le_of_ble_eq_true rfl⟩) ⟨hp_blind, va_recv hK hP (ci := 9) (q0 := 279) rfl c_279, hp_pre hK hN hP⟩ rfl rfl hl.1 rfl (lv_room (Nat.le_of_ble_eq_true rfl)) dX7_set_25 ⟨Nat.zero_le _, Nat.zero_le _⟩) hS (fun _ _ h => h) (fun _ h => h) (fun r25 u9 t H locs ht hvm hw9 hB hz1 hk1 hS => ?_)
      have hP := ho_at ht hB
      obtain ⟨eq25, ok9⟩ := hw9
      obtain ⟨u25, e_u25⟩ : ∃ z, z = u9 := ⟨_, rfl⟩
      rw [← e_u25] at hP eq25 ok9
      have hO := ok9
      have hF := bnd2_s eq25 hF
      exact W.iret (v := r25) hx hb hr (fun t ht hW => ⟨⟨r25, u25, rfl, ⟨hF.trans hFF, hO⟩, ho_of ht hP⟩, hS.F ht⟩) hS.2.2 dX7_set_28
  · have hF := ift c6 hF
    refine lv_aload_n hx hb dX7_set_9 rfl (lv_at hl 0 rfl) ?_
    refine lv_iconst (v := 1) hx hb dX7_set_10 (by decide) ?_
    refine va_calli (va_runV (As := [.int 1]) (rest := []) ⟨hx, hb, hml, hown, hts⟩ (c7_fails l hA σ u 1 hO) (cwV 1 hts gX7_set_X7_fails rfl rfl rfl hd_X7_failsV ⟨Nat.le_of_ble_eq_true rfl, Nat.le_of_ble_eq_true rfl⟩) ⟨hp_blind, va_recv hK hP (ci := 9) (q0 := 279) rfl c_279, hp_pre hK hN hP⟩ rfl rfl hl.1 rfl (lv_room (Nat.le_of_ble_eq_true rfl)) dX7_set_11 ⟨Nat.zero_le _, Nat.zero_le _⟩) hS (fun _ _ h => h) (fun _ h => h) (fun r11 u9 t H locs ht hvm hw9 hB hz1 hk1 hS => ?_)
    have hP := ho_at ht hB
    obtain ⟨eq11, ok9⟩ := hw9
    obtain ⟨u11, e_u11⟩ : ∃ z, z = u9 := ⟨_, rfl⟩
    rw [← e_u11] at hP eq11 ok9
    have hO := ok9
    have hF := bnd2_s eq11 hF
    exact W.iret (v := r11) hx hb hr (fun t ht hW => ⟨⟨r11, u11, rfl, ⟨hF.trans hFF, hO⟩, ho_of ht hP⟩, hS.F ht⟩) hS.2.2 dX7_set_14
theorem hd_X7_setV : yX7_set.cls = RX7 ∧ yX7_set.cls ≠ "java/lang/invoke/MethodHandle" ∧ yX7_set.cls ≠ "java/lang/invoke/VarHandle" ∧ (parseMethodDescriptor yX7_set.desc).map (fun d => d.parameters.length) = some 2 := by decide +kernel
set_option maxHeartbeats 4000000 in
set_option maxRecDepth 100000 in
theorem c7_support (l : Launch) {D : va_G} {G : CY} {ad : Nat → Nat} {B0 : Nat} (hA : adOK B0 ad) (σ : Nat → Nat → Int32) (u : Nat → Int32) (a : Int32) (hO : okM u) : Met l yX7_support wsX7_support { frames := 8, cells := 0, slots := 0, locals := 184 } (va_Pc [.ref (ad (279)), .int a] (Hp D G ad (va_up σ 16 u))) (va_Qi (fun (r : Int32) (z : Nat → Int32) => (r, z) = f7_support u a ∧ okM z) (fun (z : Nat → Int32) => Ho D G ad (va_up σ 16 z)) (AA B0)) 0 0 (AA B0) := by
  refine Met.ofW (cc := cX7_support) (maxL := 2) (ret := (some .int)) (by decide) rfl ?_
  intro p e s m args below meth c s₁ B hml hv
  obtain ⟨rfl, hP, hK, hN⟩ := hv
  have hx := B.exec
  have hb := B.bytes
  have hr := B.returns
  have hts := atoms_spec (ws := wsX7_support) B.pre
  have hown : s.vm.findClass RX7 = some m.cls := findClass_of_methodNamed B.named
  have hlocks := B.notSynchronized
  have inX7 : ∀ w ∈ wsX70, w ∈ wsX7_support := (fun w h => List.mem_cons_of_mem _ (List.mem_append_left _ (List.mem_append_right _ h)))
  have hP : va_P D vwCl (pool G ad (va_up σ 16 u)) s.heap := hP
  have hS : va_S (AA B0) s.heap s.heap [] := va_S.rf
  have hl := lv_entry ([.ref (ad (279)), .int a]) (n := 2) (Nat.le_of_ble_eq_true rfl)
  rw [lg_entry_eq]
  generalize (lg_sl ([.ref (ad (279)), .int a]) ++ List.replicate (2 - (lg_sl ([.ref (ad (279)), .int a])).length) Slot.unset).toArray = ls at hl ⊢
  have hl : lv_has ls 2 [(0, .ref (ad (279))), (1, .int a)] := hl
  obtain ⟨FF, hFF⟩ : ∃ z, z = f7_support u a := ⟨_, rfl⟩
  have hF := hFF.symm
  rw [f7_support] at hF
  refine lv_aload_n hx hb dX7_support_0 rfl (lv_at hl 0 rfl) ?_
  refine lv_iload_n hx hb dX7_support_1 rfl (lv_at hl 1 rfl) ?_
  refine va_calli (va_runV (As := [.int a]) (rest := []) ⟨hx, hb, hml, hown, hts⟩ (c7_isBody l hA σ u a ) (cwV 1 hts gX7_support_X7_isBody rfl rfl rfl hd_X7_isBodyV ⟨Nat.le_of_ble_eq_true rfl, Nat.le_of_ble_eq_true rfl⟩) ⟨hp_blind, va_recv hK hP (ci := 9) (q0 := 279) rfl c_279, hp_pre hK hN hP⟩ rfl rfl hl.1 rfl (lv_room (Nat.le_of_ble_eq_true rfl)) dX7_support_2 ⟨Nat.zero_le _, Nat.zero_le _⟩) hS (fun _ _ h => h) (fun _ h => h) (fun r2 _ t H locs ht hvm hw9 hB hz1 hk1 hS => ?_)
  have hP := ho_at ht hB
  obtain ⟨eq2, hb_r2⟩ := hw9
  have hF := bnd_s eq2 hF
  refine lv_if_ne (tgt := 14) hx hb dX7_support_5 (by decide) (fun c5 => ?_) (fun c5 => ?_)
  · have hF := iff_ c5 hF
    have hba := body_in hO.1 eq2 c5
    refine lv_aload_n hx hb dX7_support_14 rfl (lv_at hl 0 rfl) ?_
    refine lv_iconst (v := 0) hx hb dX7_support_15 (by decide) ?_
    refine pput16 hx hb hts inX7 tyX7 tyX7_ok nmX7 hown hK hP hA hS (j := 279) (by decide) (by decide) rfl rfl 0 (by decide) (hts (.fieldLink RX7 45 "TileRunnersModel" "thrown" "I") (List.mem_of_getElem? (i := 1) rfl)) (fun _ h9 => h9) rfl (tyX7_ok 0 (by decide)) rfl rfl (Nat.le_of_ble_eq_true rfl) (490) (by decide) (setM_0) dX7_support_16 (fun u9 H locs eu9 hP hS => ?_)
    obtain ⟨u16, e_u16⟩ : ∃ z, z = u9 := ⟨_, rfl⟩
    rw [← e_u16] at hP eu9
    have hF := bnd_s eu9 hF
    have hO := okM_up eu9 hO (by omega) (by omega) (by omega)
    refine lv_aload_n hx hb dX7_support_19 rfl (lv_at hl 0 rfl) ?_
    refine lv_iload_n hx hb dX7_support_20 rfl (lv_at hl 1 rfl) ?_
    refine va_calli (va_runV (As := [.int a]) (rest := []) ⟨hx, hb, hml, hown, hts⟩ (c7_supportOf l hA σ u16 a hO hba) (cwV 1 hts gX7_support_X7_supportOf rfl rfl rfl hd_X7_supportOfV ⟨Nat.le_of_ble_eq_true rfl, Nat.le_of_ble_eq_true rfl⟩) ⟨hp_blind, va_recv hK hP (ci := 9) (q0 := 279) rfl c_279, hp_pre hK hN hP⟩ rfl rfl hl.1 rfl (lv_room (Nat.le_of_ble_eq_true rfl)) dX7_support_21 ⟨Nat.zero_le _, Nat.zero_le _⟩) hS (fun _ _ h => h) (fun _ h => h) (fun r21 _ t H locs ht hvm hw9 hB hz1 hk1 hS => ?_)
    have hP := ho_at ht hB
    have eq21 := hw9
    have hF := bnd_s eq21 hF
    exact W.iret (v := r21) hx hb hr (fun t ht hW => ⟨⟨r21, u16, rfl, ⟨hF.trans hFF, hO⟩, ho_of ht hP⟩, hS.F ht⟩) hS.2.2 dX7_support_24
  · have hF := ift c5 hF
    refine lv_aload_n hx hb dX7_support_8 rfl (lv_at hl 0 rfl) ?_
    refine lv_iconst (v := 1) hx hb dX7_support_9 (by decide) ?_
    refine va_calli (va_runV (As := [.int 1]) (rest := []) ⟨hx, hb, hml, hown, hts⟩ (c7_fails l hA σ u 1 hO) (cwV 1 hts gX7_support_X7_fails rfl rfl rfl hd_X7_failsV ⟨Nat.le_of_ble_eq_true rfl, Nat.le_of_ble_eq_true rfl⟩) ⟨hp_blind, va_recv hK hP (ci := 9) (q0 := 279) rfl c_279, hp_pre hK hN hP⟩ rfl rfl hl.1 rfl (lv_room (Nat.le_of_ble_eq_true rfl)) dX7_support_10 ⟨Nat.zero_le _, Nat.zero_le _⟩) hS (fun _ _ h => h) (fun _ h => h) (fun r10 u9 t H locs ht hvm hw9 hB hz1 hk1 hS => ?_)
    have hP := ho_at ht hB
    obtain ⟨eq10, ok9⟩ := hw9
    obtain ⟨u10, e_u10⟩ : ∃ z, z = u9 := ⟨_, rfl⟩
    rw [← e_u10] at hP eq10 ok9
    have hO := ok9
    have hF := bnd2_s eq10 hF
    exact W.iret (v := r10) hx hb hr (fun t ht hW => ⟨⟨r10, u10, rfl, ⟨hF.trans hFF, hO⟩, ho_of ht hP⟩, hS.F ht⟩) hS.2.2 dX7_support_13
theorem hd_X7_supportV : yX7_support.cls = RX7 ∧ yX7_support.cls ≠ "java/lang/invoke/MethodHandle" ∧ yX7_support.cls ≠ "java/lang/invoke/VarHandle" ∧ (parseMethodDescriptor yX7_support.desc).map (fun d => d.parameters.length) = some 1 := by decide +kernel
set_option maxHeartbeats 4000000 in
set_option maxRecDepth 100000 in
theorem c7_stands (l : Launch) {D : va_G} {G : CY} {ad : Nat → Nat} {B0 : Nat} (hA : adOK B0 ad) (σ : Nat → Nat → Int32) (u : Nat → Int32) (a : Int32) (hO : okM u) : Met l yX7_stands wsX7_stands { frames := 9, cells := 0, slots := 0, locals := 205 } (va_Pc [.ref (ad (279)), .int a] (Hp D G ad (va_up σ 16 u))) (va_Qi (fun (r : Int32) (z : Nat → Int32) => (r, z) = f7_stands u a ∧ okM z ∧ bl r) (fun (z : Nat → Int32) => Ho D G ad (va_up σ 16 z)) (AA B0)) 0 0 (AA B0) := by
  refine Met.ofW (cc := cX7_stands) (maxL := 2) (ret := (some .boolean)) (by decide) rfl ?_
  intro p e s m args below meth c s₁ B hml hv
  obtain ⟨rfl, hP, hK, hN⟩ := hv
  have hx := B.exec
  have hb := B.bytes
  have hr := B.returns
  have hts := atoms_spec (ws := wsX7_stands) B.pre
  have hown : s.vm.findClass RX7 = some m.cls := findClass_of_methodNamed B.named
  have hlocks := B.notSynchronized
  have inX7 : ∀ w ∈ wsX70, w ∈ wsX7_stands := (fun w h => List.mem_cons_of_mem _ (List.mem_append_left _ (List.mem_append_right _ h)))
  have hP : va_P D vwCl (pool G ad (va_up σ 16 u)) s.heap := hP
  have hS : va_S (AA B0) s.heap s.heap [] := va_S.rf
  have hl := lv_entry ([.ref (ad (279)), .int a]) (n := 2) (Nat.le_of_ble_eq_true rfl)
  rw [lg_entry_eq]
  generalize (lg_sl ([.ref (ad (279)), .int a]) ++ List.replicate (2 - (lg_sl ([.ref (ad (279)), .int a])).length) Slot.unset).toArray = ls at hl ⊢
  have hl : lv_has ls 2 [(0, .ref (ad (279))), (1, .int a)] := hl
  obtain ⟨FF, hFF⟩ : ∃ z, z = f7_stands u a := ⟨_, rfl⟩
  have hF := hFF.symm
  rw [f7_stands] at hF
  refine lv_aload_n hx hb dX7_stands_0 rfl (lv_at hl 0 rfl) ?_
  refine lv_iload_n hx hb dX7_stands_1 rfl (lv_at hl 1 rfl) ?_
  refine va_calli (va_runV (As := [.int a]) (rest := []) ⟨hx, hb, hml, hown, hts⟩ (c7_isBody l hA σ u a ) (cwV 1 hts gX7_stands_X7_isBody rfl rfl rfl hd_X7_isBodyV ⟨Nat.le_of_ble_eq_true rfl, Nat.le_of_ble_eq_true rfl⟩) ⟨hp_blind, va_recv hK hP (ci := 9) (q0 := 279) rfl c_279, hp_pre hK hN hP⟩ rfl rfl hl.1 rfl (lv_room (Nat.le_of_ble_eq_true rfl)) dX7_stands_2 ⟨Nat.zero_le _, Nat.zero_le _⟩) hS (fun _ _ h => h) (fun _ h => h) (fun r2 _ t H locs ht hvm hw9 hB hz1 hk1 hS => ?_)
  have hP := ho_at ht hB
  obtain ⟨eq2, hb_r2⟩ := hw9
  have hF := bnd_s eq2 hF
  refine lv_if_ne (tgt := 14) hx hb dX7_stands_5 (by decide) (fun c5 => ?_) (fun c5 => ?_)
  · have hF := iff_ c5 hF
    have hba := body_in hO.1 eq2 c5
    refine lv_aload_n hx hb dX7_stands_14 rfl (lv_at hl 0 rfl) ?_
    refine lv_iconst (v := 0) hx hb dX7_stands_15 (by decide) ?_
    refine pput16 hx hb hts inX7 tyX7 tyX7_ok nmX7 hown hK hP hA hS (j := 279) (by decide) (by decide) rfl rfl 0 (by decide) (hts (.fieldLink RX7 45 "TileRunnersModel" "thrown" "I") (List.mem_of_getElem? (i := 1) rfl)) (fun _ h9 => h9) rfl (tyX7_ok 0 (by decide)) rfl rfl (Nat.le_of_ble_eq_true rfl) (490) (by decide) (setM_0) dX7_stands_16 (fun u9 H locs eu9 hP hS => ?_)
    obtain ⟨u16, e_u16⟩ : ∃ z, z = u9 := ⟨_, rfl⟩
    rw [← e_u16] at hP eu9
    have hF := bnd_s eu9 hF
    have hO := okM_up eu9 hO (by omega) (by omega) (by omega)
    refine lv_aload_n hx hb dX7_stands_19 rfl (lv_at hl 0 rfl) ?_
    refine lv_iload_n hx hb dX7_stands_20 rfl (lv_at hl 1 rfl) ?_
    refine va_calli (va_runV (As := [.int a]) (rest := []) ⟨hx, hb, hml, hown, hts⟩ (c7_doesStand l hA σ u16 a hO hba) (cwV 1 hts gX7_stands_X7_doesStand rfl rfl rfl hd_X7_doesStandV ⟨Nat.le_of_ble_eq_true rfl, Nat.le_of_ble_eq_true rfl⟩) ⟨hp_blind, va_recv hK hP (ci := 9) (q0 := 279) rfl c_279, hp_pre hK hN hP⟩ rfl rfl hl.1 rfl (lv_room (Nat.le_of_ble_eq_true rfl)) dX7_stands_21 ⟨Nat.zero_le _, Nat.zero_le _⟩) hS (fun _ _ h => h) (fun _ h => h) (fun r21 _ t H locs ht hvm hw9 hB hz1 hk1 hS => ?_)
    have hP := ho_at ht hB
    obtain ⟨eq21, hb_r21⟩ := hw9
    have hF := bnd_s eq21 hF
    exact W.zret (v := r21) hx hb hr (bl_nar hb_r21) (fun t ht hW => ⟨⟨r21, u16, rfl, ⟨hF.trans hFF, hO, hb_r21⟩, ho_of ht hP⟩, hS.F ht⟩) hS.2.2 dX7_stands_24
  · have hF := ift c5 hF
    refine lv_aload_n hx hb dX7_stands_8 rfl (lv_at hl 0 rfl) ?_
    refine lv_iconst (v := 1) hx hb dX7_stands_9 (by decide) ?_
    refine va_calli (va_runV (As := [.int 1]) (rest := []) ⟨hx, hb, hml, hown, hts⟩ (c7_refuses l hA σ u 1 hO) (cwV 1 hts gX7_stands_X7_refuses rfl rfl rfl hd_X7_refusesV ⟨Nat.le_of_ble_eq_true rfl, Nat.le_of_ble_eq_true rfl⟩) ⟨hp_blind, va_recv hK hP (ci := 9) (q0 := 279) rfl c_279, hp_pre hK hN hP⟩ rfl rfl hl.1 rfl (lv_room (Nat.le_of_ble_eq_true rfl)) dX7_stands_10 ⟨Nat.zero_le _, Nat.zero_le _⟩) hS (fun _ _ h => h) (fun _ h => h) (fun r10 u9 t H locs ht hvm hw9 hB hz1 hk1 hS => ?_)
    have hP := ho_at ht hB
    obtain ⟨eq10, ok9, hb_r10⟩ := hw9
    obtain ⟨u10, e_u10⟩ : ∃ z, z = u9 := ⟨_, rfl⟩
    rw [← e_u10] at hP eq10 ok9
    have hO := ok9
    have hF := bnd2_s eq10 hF
    exact W.zret (v := r10) hx hb hr (bl_nar hb_r10) (fun t ht hW => ⟨⟨r10, u10, rfl, ⟨hF.trans hFF, hO, hb_r10⟩, ho_of ht hP⟩, hS.F ht⟩) hS.2.2 dX7_stands_13
theorem hd_X7_standsV : yX7_stands.cls = RX7 ∧ yX7_stands.cls ≠ "java/lang/invoke/MethodHandle" ∧ yX7_stands.cls ≠ "java/lang/invoke/VarHandle" ∧ (parseMethodDescriptor yX7_stands.desc).map (fun d => d.parameters.length) = some 1 := by decide +kernel
