set_option maxHeartbeats 600000 in
set_option maxRecDepth 100000 in
theorem c6_play (l : Launch) (hl0 : l.stackTraces = false) {D : va_G} {G : CY} {ad : Nat → Nat} {B0 : Nat} (hA : adOK B0 ad) (σ : Nat → Nat → Int32) (a : Int32) (hO : okS σ) : vx_Met l yX6_play wsX6_play { frames := 7, cells := 3, slots := 18, locals := 173 } (va_Pc [.ref (ad (270)), .int a] (Hx XEs D G ad B0 σ)) (va_Qi (fun (r : Int32) (z : Nat → Nat → Int32) => ((Sum.inl r, z) : RT) = f6_play σ a ∧ okS z) (fun (z : Nat → Nat → Int32) => Ho D G ad z) (AA B0)) (XX D G ad B0 (fun E z => ((Sum.inr E, z) : RT) = f6_play σ a ∧ okS z)) 3 18 (AA B0) := by
  refine vx_ofW (cc := cX6_play) (maxL := 6) (ret := (some .int)) (by decide) rfl ?_
  intro p e s m args below meth c s₁ B hml htab hv
  obtain ⟨rfl, ⟨hP, hK, hN⟩, hT, hL, adK, adV, hG, hR⟩ := hv
  have hx := B.exec
  have hb := B.bytes
  have hr := B.returns
  have hts := atoms_spec (ws := wsX6_play) B.pre
  have hown : s.vm.findClass RX6 = some m.cls := findClass_of_methodNamed B.named
  have hlocks := B.notSynchronized
  have inX0 : ∀ w ∈ wsX00, w ∈ wsX6_play := (fun w h => List.mem_cons_of_mem _ (List.mem_append_left _ (List.mem_append_left _ (List.mem_append_left _ (List.mem_append_left _ (List.mem_append_left _ (List.mem_append_left _ (List.mem_append_left _ (List.mem_append_left _ (List.mem_append_right _ h))))))))))
  have inX3 : ∀ w ∈ wsX30, w ∈ wsX6_play := (fun w h => List.mem_cons_of_mem _ (List.mem_append_left _ (List.mem_append_left _ (List.mem_append_left _ (List.mem_append_left _ (List.mem_append_left _ (List.mem_append_left _ (List.mem_append_left _ (List.mem_append_left _ (List.mem_append_left _ (List.mem_append_left _ (List.mem_append_right _ h))))))))))))
  have inX5 : ∀ w ∈ wsX50, w ∈ wsX6_play := (fun w h => List.mem_cons_of_mem _ (List.mem_append_left _ (List.mem_append_left _ (List.mem_append_left _ (List.mem_append_left _ (List.mem_append_left _ (List.mem_append_left _ (List.mem_append_left _ (List.mem_append_left _ (List.mem_append_left _ (List.mem_append_right _ h)))))))))))
  have inX6 : ∀ w ∈ wsX60, w ∈ wsX6_play := (fun w h => List.mem_cons_of_mem _ (List.mem_append_left _ (List.mem_append_left _ (List.mem_append_left _ (List.mem_append_left _ (List.mem_append_left _ (List.mem_append_left _ (List.mem_append_left _ (List.mem_append_left _ (List.mem_append_left _ (List.mem_append_left _ (List.mem_append_left _ (List.mem_append_right _ h)))))))))))))
  have hP : va_P D vwCl (pool G ad σ) s.heap := hP
  have hS : va_S (AA B0) s.heap s.heap [] := va_S.rf
  have hl := lv_entry ([.ref (ad (270)), .int a]) (n := 6) (Nat.le_of_ble_eq_true rfl)
  rw [lg_entry_eq]
  generalize (lg_sl ([.ref (ad (270)), .int a]) ++ List.replicate (6 - (lg_sl ([.ref (ad (270)), .int a])).length) Slot.unset).toArray = ls at hl ⊢
  have hl : lv_has ls 6 [(0, .ref (ad (270))), (1, .int a)] := hl
  obtain ⟨FF, hFF⟩ : ∃ z, z = f6_play σ a := ⟨_, rfl⟩
  have hF := hFF.symm
  rw [f6_play] at hF
  refine lv_aload_n hx hb dX6_play_0 rfl (lv_at hl 0 rfl) ?_
  refine va_get (D := D) (ci := 8) (C := RX6) (T := TX6) (N := 9) hx hb hts inX6 hown hK hP (270) g_270 rfl 6 (by decide) (hts (.fieldLink RX6 47 "TileRunners" "text" "LTileRunners$Text;") (List.mem_of_getElem? (i := 3) rfl)) (fun _ h9 => h9) rfl dX6_play_1 ?_
  have hP := f_eta 15 hP
  refine va_calli (va_runV (As := []) (rest := []) ⟨hx, hb, hml, hown, hts⟩ (c3_takeOut l hA σ (σ 15)  hO.2.1) (cwV 0 hts gX6_play_X3_takeOut rfl rfl rfl hd_X3_takeOutV ⟨Nat.le_of_ble_eq_true rfl, Nat.le_of_ble_eq_true rfl⟩) ⟨hp_blind, va_recv hK hP (ci := 5) (q0 := 275) rfl c_275, hp_pre hK hN hP⟩ rfl rfl hl.1 rfl (lv_room (Nat.le_of_ble_eq_true rfl)) dX6_play_4 ⟨Nat.le_of_ble_eq_true rfl, Nat.le_of_ble_eq_true rfl⟩) hS (fun _ _ h => h) (fun _ h => h) (fun r4 u9 t H locs ht hvm hw9 hB hz1 hk1 hS => ?_)
  have hP := ho_at ht hB
  obtain ⟨eq4, ok9, hq_r4⟩ := hw9
  obtain ⟨σ4, e_σ4⟩ : ∃ z, z = va_up σ 15 u9 := ⟨_, rfl⟩
  rw [← e_σ4] at hP
  have hF := bnd2_s eq4 hF
  have hF := bnd_s e_σ4 hF
  have hO := okS_15 e_σ4 hO ok9
  refine lv_istore_n (lv' := [(2, .int r4), (0, .ref (ad (270))), (1, .int a)]) hx hb dX6_play_7 rfl hl (by decide) rfl (fun ls hl => ?_)
  refine lv_aload_n hx hb dX6_play_8 rfl (lv_at hl 1 rfl) ?_
  refine lv_iload_n hx hb dX6_play_9 rfl (lv_at hl 2 rfl) ?_
  refine vx_callv (vx_runV (As := [.int a]) (rest := []) ⟨hx, hb, hml, hown, hts⟩ (c6_requireBody l hl0 hA σ4 a hO) (cwV 1 hts gX6_play_X6_requireBody rfl rfl rfl hd_X6_requireBodyV ⟨Nat.le_of_ble_eq_true rfl, Nat.le_of_ble_eq_true rfl⟩) ⟨hx_blind, va_recv hK hP (ci := 8) (q0 := 270) rfl g_270, hx_pre hK hN hT hL hG hR hS hP⟩ rfl rfl hl.1 rfl (lv_room (Nat.le_of_ble_eq_true rfl)) dX6_play_10 ⟨Nat.le_of_ble_eq_true rfl, Nat.le_of_ble_eq_true rfl⟩) hS (fun _ _ h => h) (fun _ h => h) (fun _ _ h => h) (fun E9 ce9 q9 z9 t9 H9 locs9 ht9 hvm9 hw9 hB9 hz9 hk9 hS9 hce9 hcv9 hcl9 => ?_) (fun u9 t H locs ht hvm hw9 hB hz1 hk1 hS => ?_)
  · obtain ⟨eqx, okx⟩ := hw9
    obtain ⟨rfl, hBx⟩ := hB9
    have hF := bndx_x eqx hF
    exact vx_out (fun x hx => (htab x hx).elim) hlocks hce9 hcv9 hcl9 (fun t8 h8 _ => ⟨z9, ⟨hF.trans hFF, okx⟩, ⟨rfl, ho_of h8 (ho_at ht9 hBx)⟩, hS9.F h8⟩) hS9.2.2 (Nat.le_of_ble_eq_true rfl) (Nat.le_of_ble_eq_true rfl)
  have hP := ho_at ht hB
  obtain ⟨eq10, ok9⟩ := hw9
  obtain ⟨σ10, e_σ10⟩ : ∃ z, z = u9 := ⟨_, rfl⟩
  rw [← e_σ10] at hP eq10 ok9
  have hO := ok9
  have hF := bndx_s eq10 hF
  have hi9 : vp_in a 4 := in_body hO eq10
  refine lv_aload_n hx hb dX6_play_13 rfl (lv_at hl 1 rfl) ?_
  refine lv_aload_n hx hb dX6_play_14 rfl (lv_at hl 1 rfl) ?_
  refine va_get (D := D) (ci := 8) (C := RX6) (T := TX6) (N := 9) hx hb hts inX6 hown hK hP (270) g_270 rfl 6 (by decide) (hts (.fieldLink RX6 47 "TileRunners" "text" "LTileRunners$Text;") (List.mem_of_getElem? (i := 3) rfl)) (fun _ h9 => h9) rfl dX6_play_15 ?_
  refine lv_iload_n hx hb dX6_play_18 rfl (lv_at hl 0 rfl) ?_
  have hP := f_eta 15 hP
  refine va_calli (va_runV (As := [.int r4]) (rest := [.ref (ad (270))]) ⟨hx, hb, hml, hown, hts⟩ (c3_faultOfInputs l hA σ10 (σ10 15) r4 hO.2.1 hq_r4.2) (cwV 1 hts gX6_play_X3_faultOfInputs rfl rfl rfl hd_X3_faultOfInputsV ⟨Nat.le_of_ble_eq_true rfl, Nat.le_of_ble_eq_true rfl⟩) ⟨hs_blind, va_recv hK hP (ci := 5) (q0 := 275) rfl c_275, hs_pre hK hN hG hR hS hP⟩ rfl rfl hl.1 rfl (lv_room (Nat.le_of_ble_eq_true rfl)) dX6_play_19 ⟨Nat.le_of_ble_eq_true rfl, Nat.le_of_ble_eq_true rfl⟩) hS (fun _ _ h => h) (fun _ h => h) (fun r19 _ t H locs ht hvm hw9 hB hz1 hk1 hS => ?_)
  have hP := ho_at ht hB
  have eq19 := hw9
  rw [up_eta] at hP
  have hF := bnd_s eq19 hF
  have hP := f_eta 15 hP
  refine pput15 hx hb hts inX6 tyX6 tyX6_ok nmX6 hown hK hP hA hS (j := 270) (by decide) (by decide) rfl rfl 8 (by decide) (hts (.fieldLink RX6 55 "TileRunners" "fault" "I") (List.mem_of_getElem? (i := 4) rfl)) (fun _ h9 => h9) rfl (tyX6_ok 8 (by decide)) rfl rfl (Nat.le_of_ble_eq_true rfl) (1) (by decide) (setR_8) dX6_play_22 (fun u9 H locs eu9 hP hS => ?_)
  obtain ⟨σ22, e_σ22⟩ : ∃ z, z = va_up σ10 15 (va_up (σ10 15) (1) r19) := ⟨_, rfl⟩
  rw [eu9, ← e_σ22] at hP
  have hF := bnd_s e_σ22 hF
  have hO := okS_up15 e_σ22 hO (by omega)
  refine lv_aload_n hx hb dX6_play_25 rfl (lv_at hl 1 rfl) ?_
  refine va_get (D := D) (ci := 8) (C := RX6) (T := TX6) (N := 9) hx hb hts inX6 hown hK hP (270) g_270 rfl 8 (by decide) (hts (.fieldLink RX6 55 "TileRunners" "fault" "I") (List.mem_of_getElem? (i := 4) rfl)) (fun _ h9 => h9) rfl dX6_play_26 ?_
  refine lv_iconst (v := (-1)) hx hb dX6_play_29 (by decide) ?_
  have J38 : ∀ (t0_38 : Int32) (H : Heap) (locs : List Loc) (ls : Array Slot), bl t0_38 → va_P D vwCl (pool G ad σ22) H → va_S (AA B0) s.heap H locs → lv_has ls 6 [(2, .int r4), (0, .ref (ad (270))), (1, .int a)] → f6_play_b38 a r4 σ22 t0_38 = FF → W p l e (headSpec wsX6_play { frames := 7, cells := 3, slots := 18, locals := 173 }).room s m ([.ref (ad (270)), .int a] : List Value).toArray below meth c H locs 1 6 (vx_MQ below (va_Qi (fun (r : Int32) (z : Nat → Nat → Int32) => ((Sum.inl r, z) : RT) = f6_play σ a ∧ okS z) (fun (z : Nat → Nat → Int32) => Ho D G ad z) (AA B0)) (XX D G ad B0 (fun E z => ((Sum.inr E, z) : RT) = f6_play σ a ∧ okS z)) ([.ref (ad (270)), .int a] : List Value).toArray s 3 18 (AA B0)) (F0 m 38 ls [.int t0_38]) := by
    intro t0_38 H locs ls hb_t0_38 hP hS hl hF
    rw [f6_play_b38] at hF
    refine vx_callv (vx_runS (As := [.int t0_38]) (rest := []) ⟨hx, hb, hml, hown, hts⟩ (c6_require l hl0 hA σ22 t0_38 hO hb_t0_38) (va_cwS 1 hts gX6_play_X6_require rfl rfl rfl hd_X6_requireS ⟨Nat.le_of_ble_eq_true rfl, Nat.le_of_ble_eq_true rfl⟩) ⟨hx_blind, hx_pre hK hN hT hL hG hR hS hP⟩ rfl rfl hl.1 rfl (lv_room (Nat.le_of_ble_eq_true rfl)) dX6_play_38 ⟨Nat.le_of_ble_eq_true rfl, Nat.le_of_ble_eq_true rfl⟩) hS (fun _ _ h => h) (fun _ h => h) (fun _ _ h => h) (fun E9 ce9 q9 z9 t9 H9 locs9 ht9 hvm9 hw9 hB9 hz9 hk9 hS9 hce9 hcv9 hcl9 => ?_) (fun u9 t H locs ht hvm hw9 hB hz1 hk1 hS => ?_)
    · obtain ⟨eqx, okx⟩ := hw9
      obtain ⟨rfl, hBx⟩ := hB9
      have hF := bndx_x eqx hF
      exact vx_out (fun x hx => (htab x hx).elim) hlocks hce9 hcv9 hcl9 (fun t8 h8 _ => ⟨z9, ⟨hF.trans hFF, okx⟩, ⟨rfl, ho_of h8 (ho_at ht9 hBx)⟩, hS9.F h8⟩) hS9.2.2 (Nat.le_of_ble_eq_true rfl) (Nat.le_of_ble_eq_true rfl)
    have hP := ho_at ht hB
    obtain ⟨eq38, ok9⟩ := hw9
    obtain ⟨σ38, e_σ38⟩ : ∃ z, z = u9 := ⟨_, rfl⟩
    rw [← e_σ38] at hP eq38 ok9
    have hO := ok9
    have hF := bndx_s eq38 hF
    refine lv_aload_n hx hb dX6_play_41 rfl (lv_at hl 1 rfl) ?_
    refine va_get (D := D) (ci := 8) (C := RX6) (T := TX6) (N := 9) hx hb hts inX6 hown hK hP (270) g_270 rfl 6 (by decide) (hts (.fieldLink RX6 47 "TileRunners" "text" "LTileRunners$Text;") (List.mem_of_getElem? (i := 3) rfl)) (fun _ h9 => h9) rfl dX6_play_42 ?_
    refine lv_iload_n hx hb dX6_play_45 rfl (lv_at hl 0 rfl) ?_
    have hP := f_eta 15 hP
    refine va_calli (va_runV (As := [.int r4]) (rest := []) ⟨hx, hb, hml, hown, hts⟩ (c3_readCommands l hA σ38 (σ38 15) r4 hO.2.1 hq_r4.2) (cwV 1 hts gX6_play_X3_readCommands rfl rfl rfl hd_X3_readCommandsV ⟨Nat.le_of_ble_eq_true rfl, Nat.le_of_ble_eq_true rfl⟩) ⟨hs_blind, va_recv hK hP (ci := 5) (q0 := 275) rfl c_275, hs_pre hK hN hG hR hS hP⟩ rfl rfl hl.1 rfl (lv_room (Nat.le_of_ble_eq_true rfl)) dX6_play_46 ⟨Nat.le_of_ble_eq_true rfl, Nat.le_of_ble_eq_true rfl⟩) hS (fun _ _ h => h) (fun _ h => h) (fun r46 u9 t H locs ht hvm hw9 hB hz1 hk1 hS => ?_)
    have hP := ho_at ht hB
    obtain ⟨eq46, ok9⟩ := hw9
    obtain ⟨σ46, e_σ46⟩ : ∃ z, z = va_up σ38 15 u9 := ⟨_, rfl⟩
    rw [← e_σ46] at hP
    have hF := bnd2_s eq46 hF
    have hF := bnd_s e_σ46 hF
    have hO := okS_15 e_σ46 hO ok9
    refine lv_istore_n (lv' := [(3, .int r46), (2, .int r4), (0, .ref (ad (270))), (1, .int a)]) hx hb dX6_play_49 rfl hl (by decide) rfl (fun ls hl => ?_)
    refine lv_iload_n hx hb dX6_play_50 rfl (lv_at hl 0 rfl) ?_
    refine lv_sipush (v := 200) hx hb dX6_play_51 (by decide) ?_
    refine lv_icmp_le (tgt := 68) hx hb dX6_play_54 (by decide) (fun c54 => ?_) (fun c54 => ?_)
    · have hF := ift c54 hF
      refine lv_iconst (v := 0) hx hb dX6_play_68 (by decide) ?_
      refine lv_istore (lv' := [(4, .int 0), (3, .int r46), (2, .int r4), (0, .ref (ad (270))), (1, .int a)]) hx hb dX6_play_69 hl (by decide) rfl (fun ls hl => ?_)
      have L71 : ∀ (n71 : Nat) (w4_71 : Int32) (σ_71 : (Nat → Nat → Int32)) (H : Heap) (locs : List Loc) (ls : Array Slot), (20 - w4_71.toInt).toNat < n71 → 0 ≤ w4_71 → okS σ_71 → va_P D vwCl (pool G ad σ_71) H → va_S (AA B0) s.heap H locs → lv_has ls 6 [(4, .int w4_71), (3, .int r46), (0, .ref (ad (270))), (1, .int a)] → f6_play_L71 a r46 n71 w4_71 σ_71 = FF → W p l e (headSpec wsX6_play { frames := 7, cells := 3, slots := 18, locals := 173 }).room s m ([.ref (ad (270)), .int a] : List Value).toArray below meth c H locs 2 12 (vx_MQ below (va_Qi (fun (r : Int32) (z : Nat → Nat → Int32) => ((Sum.inl r, z) : RT) = f6_play σ a ∧ okS z) (fun (z : Nat → Nat → Int32) => Ho D G ad z) (AA B0)) (XX D G ad B0 (fun E z => ((Sum.inr E, z) : RT) = f6_play σ a ∧ okS z)) ([.ref (ad (270)), .int a] : List Value).toArray s 3 18 (AA B0)) (F0 m 71 ls []) := by
        intro n71
        induction n71 with
        | zero => intro w4_71 σ_71 H locs ls hm; exact absurd hm (Nat.not_lt_zero _)
        | succ n71 ih71 =>
          intro w4_71 σ_71 H locs ls hm71 h4 hO hP hS hl hF
          rw [f6_play_L71] at hF
          refine lv_iload hx hb dX6_play_71 (lv_at hl 0 rfl) ?_
          refine lv_aload_n hx hb dX6_play_73 rfl (lv_at hl 2 rfl) ?_
          refine va_get (D := D) (ci := 8) (C := RX6) (T := TX6) (N := 9) hx hb hts inX6 hown hK hP (270) g_270 rfl 6 (by decide) (hts (.fieldLink RX6 47 "TileRunners" "text" "LTileRunners$Text;") (List.mem_of_getElem? (i := 3) rfl)) (fun _ h9 => h9) rfl dX6_play_74 ?_
          refine va_get (D := D) (ci := 5) (C := RX3) (T := TX3) (N := 5) hx hb hts inX3 hown hK hP (275) g_275 rfl 4 (by decide) (hts (.fieldLink RX6 279 "TileRunners$Text" "commandCount" "I") (List.mem_of_getElem? (i := 5) rfl)) (fun _ h9 => h9) rfl dX6_play_77 ?_
          refine lv_icmp_ge (tgt := 157) hx hb dX6_play_80 (by decide) (fun c80 => ?_) (fun c80 => ?_)
          · have hF := ift c80 hF
            refine lv_iload_n hx hb dX6_play_157 rfl (lv_at hl 1 rfl) ?_
            exact vx_ret (W.widen (Nat.le_of_ble_eq_true rfl) (Nat.le_of_ble_eq_true rfl) (W.iret (v := r46) hx hb hr (fun t ht hW => ⟨⟨r46, σ_71, rfl, ⟨hF.trans hFF, hO⟩, ho_of ht hP⟩, hS.F ht⟩) hS.2.2 dX6_play_158))
          · have hF := iff_ c80 hF
            have hi4 : vp_in w4_71 20 := in_n h4 (nle_lt c80) hO.2.1.2.2.2.2
            refine lv_aload_n hx hb dX6_play_83 rfl (lv_at hl 2 rfl) ?_
            refine va_get (D := D) (ci := 8) (C := RX6) (T := TX6) (N := 9) hx hb hts inX6 hown hK hP (270) g_270 rfl 0 (by decide) (hts (.fieldLink RX6 12 "TileRunners" "world" "LTileRunners$World;") (List.mem_of_getElem? (i := 6) rfl)) (fun _ h9 => h9) rfl dX6_play_84 ?_
            refine va_get (D := D) (ci := 7) (C := RX5) (T := TX5) (N := 7) hx hb hts inX5 hown hK hP (18*0+0) (g_o (by decide)) rfl 1 (by decide) (hts (.fieldLink RX6 102 "TileRunners$World" "bodies" "[LTileRunners$Body;") (List.mem_of_getElem? (i := 7) rfl)) (fun _ h9 => h9) rfl dX6_play_87 ?_
            refine lv_iload_n hx hb dX6_play_90 rfl (lv_at hl 3 rfl) ?_
            have hi_91 : a.toNatClampNeg < 4 := in_lt (i := a) hi9
            refine pqald (t0 := 2) (i := a) hx hb hK hP (c_bs (by decide)) rfl hi9 dX6_play_91 ?_
            refine lv_aload_n hx hb dX6_play_92 rfl (lv_at hl 2 rfl) ?_
            refine va_get (D := D) (ci := 8) (C := RX6) (T := TX6) (N := 9) hx hb hts inX6 hown hK hP (270) g_270 rfl 6 (by decide) (hts (.fieldLink RX6 47 "TileRunners" "text" "LTileRunners$Text;") (List.mem_of_getElem? (i := 3) rfl)) (fun _ h9 => h9) rfl dX6_play_93 ?_
            refine va_get (D := D) (ci := 5) (C := RX3) (T := TX3) (N := 5) hx hb hts inX3 hown hK hP (275) g_275 rfl 2 (by decide) (hts (.fieldLink RX6 282 "TileRunners$Text" "commandKeys" "[I") (List.mem_of_getElem? (i := 8) rfl)) (fun _ h9 => h9) rfl dX6_play_96 ?_
            refine lv_iload hx hb dX6_play_99 (lv_at hl 0 rfl) ?_
            refine pald (n := 20) (o := 60) (t := 60+w4_71.toNatClampNeg) (i := w4_71) hx hb hK hP g_277 hi4 rfl dX6_play_101 ?_
            have hP := f_eta 0 hP
            refine pput hx hb hts inX0 tyX0 tyX0_ok nmX0 hown hK hP hA hS (by decide) (j := 6+2*a.toNatClampNeg) (by omega) (wcel_b hi_91) rfl 11 (by decide) (hts (.fieldLink RX6 132 "TileRunners$Body" "input" "I") (List.mem_of_getElem? (i := 9) rfl)) (fun _ h9 => h9) rfl (tyX0_ok 11 (by decide)) rfl rfl (Nat.le_of_ble_eq_true rfl) (336+24*a.toNatClampNeg+9) (own_b hi_91 (by decide) (by decide)) (setB_11 hi_91) dX6_play_102 (fun u9 H locs eu9 hP hS => ?_)
            obtain ⟨σ102, e_σ102⟩ : ∃ z, z = va_up σ_71 0 (va_up (σ_71 0) (336+24*a.toNatClampNeg+9) (σ_71 15 (60+w4_71.toNatClampNeg))) := ⟨_, rfl⟩
            rw [eu9, ← e_σ102] at hP
            have hF := bnd_s e_σ102 hF
            have hO := okS_up e_σ102 hO (by decide) (by omega) (by omega)
            refine lv_iconst (v := 0) hx hb dX6_play_105 (by decide) ?_
            refine lv_istore (lv' := [(5, .int 0), (4, .int w4_71), (3, .int r46), (0, .ref (ad (270))), (1, .int a)]) hx hb dX6_play_106 hl (by decide) rfl (fun ls hl => ?_)
            have L108 : ∀ (n108 : Nat) (w5_108 : Int32) (σ_108 : (Nat → Nat → Int32)) (H : Heap) (locs : List Loc) (ls : Array Slot), (2147483647 - w5_108.toInt).toNat < n108 → okS σ_108 → va_P D vwCl (pool G ad σ_108) H → va_S (AA B0) s.heap H locs → lv_has ls 6 [(5, .int w5_108), (4, .int w4_71), (3, .int r46), (0, .ref (ad (270))), (1, .int a)] → f6_play_L108 (f6_play_L71 a r46 n71) w4_71 n108 w5_108 σ_108 = FF → W p l e (headSpec wsX6_play { frames := 7, cells := 3, slots := 18, locals := 173 }).room s m ([.ref (ad (270)), .int a] : List Value).toArray below meth c H locs 2 12 (vx_MQ below (va_Qi (fun (r : Int32) (z : Nat → Nat → Int32) => ((Sum.inl r, z) : RT) = f6_play σ a ∧ okS z) (fun (z : Nat → Nat → Int32) => Ho D G ad z) (AA B0)) (XX D G ad B0 (fun E z => ((Sum.inr E, z) : RT) = f6_play σ a ∧ okS z)) ([.ref (ad (270)), .int a] : List Value).toArray s 3 18 (AA B0)) (F0 m 108 ls []) := by
              intro n108
              induction n108 with
              | zero => intro w5_108 σ_108 H locs ls hm; exact absurd hm (Nat.not_lt_zero _)
              | succ n108 ih108 =>
                intro w5_108 σ_108 H locs ls hm108 hO hP hS hl hF
                rw [f6_play_L108] at hF
                refine lv_iload hx hb dX6_play_108 (lv_at hl 0 rfl) ?_
                refine lv_aload_n hx hb dX6_play_110 rfl (lv_at hl 3 rfl) ?_
                refine va_get (D := D) (ci := 8) (C := RX6) (T := TX6) (N := 9) hx hb hts inX6 hown hK hP (270) g_270 rfl 6 (by decide) (hts (.fieldLink RX6 47 "TileRunners" "text" "LTileRunners$Text;") (List.mem_of_getElem? (i := 3) rfl)) (fun _ h9 => h9) rfl dX6_play_111 ?_
                refine va_get (D := D) (ci := 5) (C := RX3) (T := TX3) (N := 5) hx hb hts inX3 hown hK hP (275) g_275 rfl 3 (by decide) (hts (.fieldLink RX6 285 "TileRunners$Text" "commandTicks" "[I") (List.mem_of_getElem? (i := 10) rfl)) (fun _ h9 => h9) rfl dX6_play_114 ?_
                refine lv_iload hx hb dX6_play_117 (lv_at hl 1 rfl) ?_
                refine pald (n := 20) (o := 80) (t := 80+w4_71.toNatClampNeg) (i := w4_71) hx hb hK hP g_278 hi4 rfl dX6_play_119 ?_
                refine lv_icmp_ge (tgt := 151) hx hb dX6_play_120 (by decide) (fun c120 => ?_) (fun c120 => ?_)
                · have hF := ift c120 hF
                  obtain ⟨v4_151, e_v4_151⟩ : ∃ z : Int32, z = w4_71 + 1 := ⟨_, rfl⟩
                  have hF := bnd_s e_v4_151 hF
                  refine lv_iinc (v := v4_151) (lv' := [(4, .int v4_151), (5, .int w5_108), (3, .int r46), (0, .ref (ad (270))), (1, .int a)]) hx hb dX6_play_151 hl (k := 1) rfl (by rw [e_v4_151]; rfl) (by decide) rfl (fun ls hl => ?_)
                  refine lv_goto (tgt := 71) hx hb dX6_play_154 (by decide) ?_
                  exact ih71 v4_151 σ_108 _ _ ls (ms_s (decP_20 hi4 e_v4_151) hm71) (ge0_20 hi4 e_v4_151) hO hP hS (lv_sub hl [0, 2, 3, 4] rfl) hF
                · have hF := iff_ c120 hF
                  refine lv_aload_n hx hb dX6_play_123 rfl (lv_at hl 3 rfl) ?_
                  refine va_get (D := D) (ci := 8) (C := RX6) (T := TX6) (N := 9) hx hb hts inX6 hown hK hP (270) g_270 rfl 5 (by decide) (hts (.fieldLink RX6 40 "TileRunners" "history" "LTileRunners$History;") (List.mem_of_getElem? (i := 11) rfl)) (fun _ h9 => h9) rfl dX6_play_124 ?_
                  refine lv_aload_n hx hb dX6_play_127 rfl (lv_at hl 3 rfl) ?_
                  refine va_get (D := D) (ci := 8) (C := RX6) (T := TX6) (N := 9) hx hb hts inX6 hown hK hP (270) g_270 rfl 0 (by decide) (hts (.fieldLink RX6 12 "TileRunners" "world" "LTileRunners$World;") (List.mem_of_getElem? (i := 6) rfl)) (fun _ h9 => h9) rfl dX6_play_128 ?_
                  refine va_callv (va_runV (As := [.ref (ad (18*0+0))]) (rest := []) ⟨hx, hb, hml, hown, hts⟩ (c1_keep l hA σ_108 0 (by decide) hO) (cwV 1 hts gX6_play_X1_keep rfl rfl rfl hd_X1_keepV ⟨Nat.le_of_ble_eq_true rfl, Nat.le_of_ble_eq_true rfl⟩) ⟨hp_blind, va_recv hK hP (ci := 3) (q0 := 273) rfl g_273, hp_pre hK hN hP⟩ rfl rfl hl.1 rfl (lv_room (Nat.le_of_ble_eq_true rfl)) dX6_play_131 ⟨Nat.le_of_ble_eq_true rfl, Nat.le_of_ble_eq_true rfl⟩) hS (fun _ _ h => h) (fun _ h => h) (fun u9 t H locs ht hvm hw9 hB hz1 hk1 hS => ?_)
                  have hP := ho_at ht hB
                  obtain ⟨eq131, ok9⟩ := hw9
                  obtain ⟨σ131, e_σ131⟩ : ∃ z, z = u9 := ⟨_, rfl⟩
                  rw [← e_σ131] at hP eq131 ok9
                  have hO := ok9
                  have hF := bnd_s eq131 hF
                  refine lv_aload_n hx hb dX6_play_134 rfl (lv_at hl 3 rfl) ?_
                  refine va_get (D := D) (ci := 8) (C := RX6) (T := TX6) (N := 9) hx hb hts inX6 hown hK hP (270) g_270 rfl 0 (by decide) (hts (.fieldLink RX6 12 "TileRunners" "world" "LTileRunners$World;") (List.mem_of_getElem? (i := 6) rfl)) (fun _ h9 => h9) rfl dX6_play_135 ?_
                  refine lv_aload_n hx hb dX6_play_138 rfl (lv_at hl 3 rfl) ?_
                  refine va_get (D := D) (ci := 8) (C := RX6) (T := TX6) (N := 9) hx hb hts inX6 hown hK hP (270) g_270 rfl 3 (by decide) (hts (.fieldLink RX6 31 "TileRunners" "settings" "[I") (List.mem_of_getElem? (i := 12) rfl)) (fun _ h9 => h9) rfl dX6_play_139 ?_
                  have hP := f_eta 0 hP
                  refine va_callv (va_runV (As := [.ref (ad (271))]) (rest := []) ⟨hx, hb, hml, hown, hts⟩ (c5_advance l hA σ131 (σ131 0) 0 (by decide) (hO.1 0 (by decide))) (cwV 1 hts gX6_play_X5_advance rfl rfl rfl hd_X5_advanceV ⟨Nat.le_of_ble_eq_true rfl, Nat.le_of_ble_eq_true rfl⟩) ⟨hp_blind, va_recv hK hP (ci := 7) (q0 := 18*0+0) rfl (c_o (by decide)), hp_pre hK hN hP⟩ rfl rfl hl.1 rfl (lv_room (Nat.le_of_ble_eq_true rfl)) dX6_play_142 ⟨Nat.le_of_ble_eq_true rfl, Nat.le_of_ble_eq_true rfl⟩) hS (fun _ _ h => h) (fun _ h => h) (fun u9 t H locs ht hvm hw9 hB hz1 hk1 hS => ?_)
                  have hP := ho_at ht hB
                  obtain ⟨eq142, ok9⟩ := hw9
                  obtain ⟨σ142, e_σ142⟩ : ∃ z, z = va_up σ131 0 u9 := ⟨_, rfl⟩
                  rw [← e_σ142] at hP
                  have hF := bnd_s eq142 hF
                  have hF := bnd_s e_σ142 hF
                  have hO := okS_row e_σ142 hO (by decide) ok9
                  obtain ⟨v5_145, e_v5_145⟩ : ∃ z : Int32, z = w5_108 + 1 := ⟨_, rfl⟩
                  have hF := bnd_s e_v5_145 hF
                  refine lv_iinc (v := v5_145) (lv' := [(5, .int v5_145), (4, .int w4_71), (3, .int r46), (0, .ref (ad (270))), (1, .int a)]) hx hb dX6_play_145 hl (k := 0) rfl (by rw [e_v5_145]; rfl) (by decide) rfl (fun ls hl => ?_)
                  refine lv_goto (tgt := 108) hx hb dX6_play_148 (by decide) ?_
                  exact ih108 v5_145 σ142 _ _ ls (ms_s (dec_mx (nle_lt c120) e_v5_145) hm108) hO hP hS (lv_sub hl [0, 1, 2, 3, 4] rfl) hF
            exact L108 BIG 0 σ102 _ _ ls (big_mx _) hO hP hS (lv_sub hl [0, 1, 2, 3, 4] rfl) hF
      exact L71 BIG 0 σ46 _ _ ls (bigP_20 _) le0 hO hP hS (lv_sub hl [0, 1, 3, 4] rfl) hF
    · have hF := iff_ c54 hF
      obtain ⟨sa9, hsa9⟩ := hL.1 (276, "more than 200 ticks") (by decide)
      exact vx_throwSW (own := RX6) (cls := "java/lang/UnsupportedOperationException") (names := ["java/lang/RuntimeException", "java/lang/Exception"]) (ik := 274) (is := 276) (ic := 278) (text := "more than 200 ticks") (sa := sa9) hx hb hl0 hown (by decide) (by decide) (hts (.classLink RX6 274 "java/lang/UnsupportedOperationException") (List.mem_of_getElem? (i := 1) rfl)) (hts (.initialized "java/lang/UnsupportedOperationException") (List.mem_of_getElem? (i := 2) rfl)) hsa9 (hx_hat hL (by decide) (fun w h => hts w ((fun w h => List.mem_cons_of_mem _ (List.mem_append_left _ (List.mem_append_left _ (List.mem_append_left _ (List.mem_append_right _ h))))) w h)) xa_280) xg_280 hT.1 hT.2 hS (hl.1.trans hml.symm) dX6_play_57 dX6_play_60 dX6_play_61 dX6_play_64 dX6_play_67 (fun x hx => (htab x hx).elim) (Nat.le_of_ble_eq_true rfl) (Nat.le_of_ble_eq_true rfl) (Nat.le_of_ble_eq_true rfl) (Nat.le_of_ble_eq_true rfl) hlocks (fun t9 a9 h1 h2 => ⟨("java/lang/UnsupportedOperationException", σ46), ⟨hF.trans hFF, hO⟩, ⟨rfl, (hx_out hP hS h1 h2).1⟩, (hx_out hP hS h1 h2).2⟩) hS.2.2 (Nat.le_of_ble_eq_true rfl) (Nat.le_of_ble_eq_true rfl)
  refine lv_icmp_ne (tgt := 37) hx hb dX6_play_30 (by decide) (fun c30 => ?_) (fun c30 => ?_)
  · have hF := iff_ c30 hF
    refine lv_iconst (v := 0) hx hb dX6_play_37 (by decide) ?_
    exact J38 0 _ _ ls bl0 hP hS (lv_sub hl [0, 1, 2] rfl) hF
  · have hF := ift c30 hF
    refine lv_iconst (v := 1) hx hb dX6_play_33 (by decide) ?_
    refine lv_goto (tgt := 38) hx hb dX6_play_34 (by decide) ?_
    exact J38 1 _ _ ls bl1 hP hS (lv_sub hl [0, 1, 2] rfl) hF
theorem hd_X6_playV : yX6_play.cls = RX6 ∧ yX6_play.cls ≠ "java/lang/invoke/MethodHandle" ∧ yX6_play.cls ≠ "java/lang/invoke/VarHandle" ∧ (parseMethodDescriptor yX6_play.desc).map (fun d => d.parameters.length) = some 1 := by decide +kernel
