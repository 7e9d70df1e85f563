set_option maxHeartbeats 4000000 in
set_option maxRecDepth 100000 in
theorem c5_copyFrom (l : Launch) {D : va_G} {G : CY} {ad : Nat → Nat} {B0 : Nat} (hA : adOK B0 ad) (σ : Nat → Nat → Int32) (w : Nat) (hw : w < 15) (v : Nat) (hv : v < 15) (hO : okS σ) : Met l yX5_copyFrom wsX5_copyFrom { frames := 2, cells := 0, slots := 0, locals := 81 } (va_Pc [.ref (ad (18*w+0)), .ref (ad (18*v+0))] (Hp D G ad σ)) (va_Qv (fun (z : Nat → Nat → Int32) => z = f5_copyFrom σ w v ∧ okS z) (fun (z : Nat → Nat → Int32) => Ho D G ad z) (AA B0)) 0 0 (AA B0) := by
  refine Met.ofW (cc := cX5_copyFrom) (maxL := 3) (ret := none) (by decide) rfl ?_
  intro p e s m args below meth c s₁ B hml hv
  obtain ⟨rfl, hP, hK, hN⟩ := hv
  have hx := B.exec
  have hb := B.bytes
  have hr := B.returns
  have hts := atoms_spec (ws := wsX5_copyFrom) B.pre
  have hown : s.vm.findClass RX5 = some m.cls := findClass_of_methodNamed B.named
  have hlocks := B.notSynchronized
  have inX5 : ∀ w ∈ wsX50, w ∈ wsX5_copyFrom := (fun w h => List.mem_cons_of_mem _ (List.mem_append_left _ (List.mem_append_left _ (List.mem_append_left _ (List.mem_append_right _ h)))))
  have hP : va_P D vwCl (pool G ad σ) s.heap := hP
  have hS : va_S (AA B0) s.heap s.heap [] := va_S.rf
  have hl := lv_entry ([.ref (ad (18*w+0)), .ref (ad (18*v+0))]) (n := 3) (Nat.le_of_ble_eq_true rfl)
  rw [lg_entry_eq]
  generalize (lg_sl ([.ref (ad (18*w+0)), .ref (ad (18*v+0))]) ++ List.replicate (3 - (lg_sl ([.ref (ad (18*w+0)), .ref (ad (18*v+0))])).length) Slot.unset).toArray = ls at hl ⊢
  have hl : lv_has ls 3 [(0, .ref (ad (18*w+0))), (1, .ref (ad (18*v+0)))] := hl
  obtain ⟨FF, hFF⟩ : ∃ z, z = f5_copyFrom σ w v := ⟨_, rfl⟩
  have hF := hFF.symm
  rw [f5_copyFrom] at hF
  refine lv_aload_n hx hb dX5_copyFrom_0 rfl (lv_at hl 0 rfl) ?_
  refine va_get (D := D) (ci := 7) (C := RX5) (T := TX5) (N := 7) hx hb hts inX5 hown hK hP (18*w+0) (g_o hw) rfl 0 (by decide) (hts (.fieldLink RX5 12 "TileRunners$World" "tiles" "LTileRunners$Tiles;") (List.mem_of_getElem? (i := 1) rfl)) (fun _ h9 => h9) rfl dX5_copyFrom_1 ?_
  refine lv_aload_n hx hb dX5_copyFrom_4 rfl (lv_at hl 1 rfl) ?_
  refine va_get (D := D) (ci := 7) (C := RX5) (T := TX5) (N := 7) hx hb hts inX5 hown hK hP (18*v+0) (g_o hv) rfl 0 (by decide) (hts (.fieldLink RX5 12 "TileRunners$World" "tiles" "LTileRunners$Tiles;") (List.mem_of_getElem? (i := 1) rfl)) (fun _ h9 => h9) rfl dX5_copyFrom_5 ?_
  refine va_callv (va_runV (As := [.ref (ad (18*v+1))]) (rest := []) ⟨hx, hb, hml, hown, hts⟩ (c4_copyFrom l hA σ w hw v hv hO) (cwV 1 hts gX5_copyFrom_X4_copyFrom rfl rfl rfl hd_X4_copyFromV ⟨Nat.le_of_ble_eq_true rfl, Nat.le_of_ble_eq_true rfl⟩) ⟨hp_blind, va_recv hK hP (ci := 6) (q0 := 18*w+1) rfl (g_t hw), hp_pre hK hN hP⟩ rfl rfl hl.1 rfl (lv_room (Nat.le_of_ble_eq_true rfl)) dX5_copyFrom_8 ⟨Nat.zero_le _, Nat.zero_le _⟩) hS (fun _ _ h => h) (fun _ h => h) (fun u9 t H locs ht hvm hw9 hB hz1 hk1 hS => ?_)
  have hP := ho_at ht hB
  obtain ⟨eq8, ok9⟩ := hw9
  obtain ⟨σ8, e_σ8⟩ : ∃ z, z = u9 := ⟨_, rfl⟩
  rw [← e_σ8] at hP eq8 ok9
  have hO := ok9
  have hF := bnd_s eq8 hF
  refine lv_aload_n hx hb dX5_copyFrom_11 rfl (lv_at hl 0 rfl) ?_
  refine lv_aload_n hx hb dX5_copyFrom_12 rfl (lv_at hl 1 rfl) ?_
  refine va_get (D := D) (ci := 7) (C := RX5) (T := TX5) (N := 7) hx hb hts inX5 hown hK hP (18*v+0) (g_o hv) rfl 4 (by decide) (hts (.fieldLink RX5 40 "TileRunners$World" "bodyCount" "I") (List.mem_of_getElem? (i := 2) rfl)) (fun _ h9 => h9) rfl dX5_copyFrom_13 ?_
  have hP := f_eta w hP
  refine pput hx hb hts inX5 tyX5 tyX5_ok nmX5 hown hK hP hA hS hw (j := 0) (by omega) rfl rfl 4 (by decide) (hts (.fieldLink RX5 40 "TileRunners$World" "bodyCount" "I") (List.mem_of_getElem? (i := 2) rfl)) (fun _ h9 => h9) rfl (tyX5_ok 4 (by decide)) rfl rfl (Nat.le_of_ble_eq_true rfl) (464) (by decide) (setO_4) dX5_copyFrom_16 (fun u9 H locs eu9 hP hS => ?_)
  obtain ⟨σ16, e_σ16⟩ : ∃ z, z = va_up σ8 w (va_up (σ8 w) (464) (σ8 v 464)) := ⟨_, rfl⟩
  rw [eu9, ← e_σ16] at hP
  have hF := bnd_s e_σ16 hF
  have hO := okS_row e_σ16 hO hw (okW_cnt (hO.1 w hw) (Or.inl rfl) (hO.1 v hv).1 (hO.1 v hv).2.1)
  refine lv_aload_n hx hb dX5_copyFrom_19 rfl (lv_at hl 0 rfl) ?_
  refine lv_aload_n hx hb dX5_copyFrom_20 rfl (lv_at hl 1 rfl) ?_
  refine va_get (D := D) (ci := 7) (C := RX5) (T := TX5) (N := 7) hx hb hts inX5 hown hK hP (18*v+0) (g_o hv) rfl 5 (by decide) (hts (.fieldLink RX5 44 "TileRunners$World" "platformCount" "I") (List.mem_of_getElem? (i := 3) rfl)) (fun _ h9 => h9) rfl dX5_copyFrom_21 ?_
  have hP := f_eta w hP
  refine pput hx hb hts inX5 tyX5 tyX5_ok nmX5 hown hK hP hA hS hw (j := 0) (by omega) rfl rfl 5 (by decide) (hts (.fieldLink RX5 44 "TileRunners$World" "platformCount" "I") (List.mem_of_getElem? (i := 3) rfl)) (fun _ h9 => h9) rfl (tyX5_ok 5 (by decide)) rfl rfl (Nat.le_of_ble_eq_true rfl) (465) (by decide) (setO_5) dX5_copyFrom_24 (fun u9 H locs eu9 hP hS => ?_)
  obtain ⟨σ24, e_σ24⟩ : ∃ z, z = va_up σ16 w (va_up (σ16 w) (465) (σ16 v 465)) := ⟨_, rfl⟩
  rw [eu9, ← e_σ24] at hP
  have hF := bnd_s e_σ24 hF
  have hO := okS_row e_σ24 hO hw (okW_cnt (hO.1 w hw) (Or.inr rfl) (hO.1 v hv).2.2.1 (hO.1 v hv).2.2.2)
  refine lv_aload_n hx hb dX5_copyFrom_27 rfl (lv_at hl 0 rfl) ?_
  refine lv_aload_n hx hb dX5_copyFrom_28 rfl (lv_at hl 1 rfl) ?_
  refine va_get (D := D) (ci := 7) (C := RX5) (T := TX5) (N := 7) hx hb hts inX5 hown hK hP (18*v+0) (g_o hv) rfl 6 (by decide) (hts (.fieldLink RX5 47 "TileRunners$World" "time" "I") (List.mem_of_getElem? (i := 4) rfl)) (fun _ h9 => h9) rfl dX5_copyFrom_29 ?_
  have hP := f_eta w hP
  refine pput hx hb hts inX5 tyX5 tyX5_ok nmX5 hown hK hP hA hS hw (j := 0) (by omega) rfl rfl 6 (by decide) (hts (.fieldLink RX5 47 "TileRunners$World" "time" "I") (List.mem_of_getElem? (i := 4) rfl)) (fun _ h9 => h9) rfl (tyX5_ok 6 (by decide)) rfl rfl (Nat.le_of_ble_eq_true rfl) (466) (by decide) (setO_6) dX5_copyFrom_32 (fun u9 H locs eu9 hP hS => ?_)
  obtain ⟨σ32, e_σ32⟩ : ∃ z, z = va_up σ24 w (va_up (σ24 w) (466) (σ24 v 466)) := ⟨_, rfl⟩
  rw [eu9, ← e_σ32] at hP
  have hF := bnd_s e_σ32 hF
  have hO := okS_up e_σ32 hO hw (by omega) (by omega)
  refine lv_iconst (v := 0) hx hb dX5_copyFrom_35 (by decide) ?_
  refine lv_istore_n (lv' := [(2, .int 0), (0, .ref (ad (18*w+0))), (1, .ref (ad (18*v+0)))]) hx hb dX5_copyFrom_36 rfl hl (by decide) rfl (fun ls hl => ?_)
  have L37 : ∀ (n37 : Nat) (w2_37 : Int32) (σ_37 : (Nat → Nat → Int32)) (H : Heap) (locs : List Loc) (ls : Array Slot), (4 - w2_37.toInt).toNat < n37 → 0 ≤ w2_37 → okS σ_37 → va_P D vwCl (pool G ad σ_37) H → va_S (AA B0) s.heap H locs → lv_has ls 3 [(2, .int w2_37), (0, .ref (ad (18*w+0))), (1, .ref (ad (18*v+0)))] → f5_copyFrom_L37 w v n37 w2_37 σ_37 = FF → W p l e (headSpec wsX5_copyFrom { frames := 2, cells := 0, slots := 0, locals := 81 }).room s m ([.ref (ad (18*w+0)), .ref (ad (18*v+0))] : List Value).toArray below meth c H locs 0 0 (MQ below (va_Qv (fun (z : Nat → Nat → Int32) => z = f5_copyFrom σ w v ∧ okS z) (fun (z : Nat → Nat → Int32) => Ho D G ad z) (AA B0)) ([.ref (ad (18*w+0)), .ref (ad (18*v+0))] : List Value).toArray s 0 0 (AA B0)) (F0 m 37 ls []) := by
    intro n37
    induction n37 with
    | zero => intro w2_37 σ_37 H locs ls hm; exact absurd hm (Nat.not_lt_zero _)
    | succ n37 ih37 =>
      intro w2_37 σ_37 H locs ls hm37 h2 hO hP hS hl hF
      rw [f5_copyFrom_L37] at hF
      refine lv_iload_n hx hb dX5_copyFrom_37 rfl (lv_at hl 0 rfl) ?_
      refine lv_aload_n hx hb dX5_copyFrom_38 rfl (lv_at hl 1 rfl) ?_
      refine va_get (D := D) (ci := 7) (C := RX5) (T := TX5) (N := 7) hx hb hts inX5 hown hK hP (18*w+0) (g_o hw) rfl 4 (by decide) (hts (.fieldLink RX5 40 "TileRunners$World" "bodyCount" "I") (List.mem_of_getElem? (i := 2) rfl)) (fun _ h9 => h9) rfl dX5_copyFrom_39 ?_
      refine lv_icmp_ge (tgt := 66) hx hb dX5_copyFrom_42 (by decide) (fun c42 => ?_) (fun c42 => ?_)
      · have hF := ift c42 hF
        refine lv_iconst (v := 0) hx hb dX5_copyFrom_66 (by decide) ?_
        refine lv_istore_n (lv' := [(2, .int 0), (0, .ref (ad (18*w+0))), (1, .ref (ad (18*v+0)))]) hx hb dX5_copyFrom_67 rfl hl (by decide) rfl (fun ls hl => ?_)
        have L68 : ∀ (n68 : Nat) (w2_68 : Int32) (σ_68 : (Nat → Nat → Int32)) (H : Heap) (locs : List Loc) (ls : Array Slot), (4 - w2_68.toInt).toNat < n68 → 0 ≤ w2_68 → okS σ_68 → va_P D vwCl (pool G ad σ_68) H → va_S (AA B0) s.heap H locs → lv_has ls 3 [(2, .int w2_68), (0, .ref (ad (18*w+0))), (1, .ref (ad (18*v+0)))] → f5_copyFrom_L68 w v n68 w2_68 σ_68 = FF → W p l e (headSpec wsX5_copyFrom { frames := 2, cells := 0, slots := 0, locals := 81 }).room s m ([.ref (ad (18*w+0)), .ref (ad (18*v+0))] : List Value).toArray below meth c H locs 0 0 (MQ below (va_Qv (fun (z : Nat → Nat → Int32) => z = f5_copyFrom σ w v ∧ okS z) (fun (z : Nat → Nat → Int32) => Ho D G ad z) (AA B0)) ([.ref (ad (18*w+0)), .ref (ad (18*v+0))] : List Value).toArray s 0 0 (AA B0)) (F0 m 68 ls []) := by
          intro n68
          induction n68 with
          | zero => intro w2_68 σ_68 H locs ls hm; exact absurd hm (Nat.not_lt_zero _)
          | succ n68 ih68 =>
            intro w2_68 σ_68 H locs ls hm68 h2b hO hP hS hl hF
            rw [f5_copyFrom_L68] at hF
            refine lv_iload_n hx hb dX5_copyFrom_68 rfl (lv_at hl 0 rfl) ?_
            refine lv_aload_n hx hb dX5_copyFrom_69 rfl (lv_at hl 1 rfl) ?_
            refine va_get (D := D) (ci := 7) (C := RX5) (T := TX5) (N := 7) hx hb hts inX5 hown hK hP (18*w+0) (g_o hw) rfl 5 (by decide) (hts (.fieldLink RX5 44 "TileRunners$World" "platformCount" "I") (List.mem_of_getElem? (i := 3) rfl)) (fun _ h9 => h9) rfl dX5_copyFrom_70 ?_
            refine lv_icmp_ge (tgt := 97) hx hb dX5_copyFrom_73 (by decide) (fun c73 => ?_) (fun c73 => ?_)
            · have hF := ift c73 hF
              exact W.vret hx hb hr (fun t ht hW => ⟨⟨σ_68, rfl, ⟨hF.trans hFF, hO⟩, ho_of ht hP⟩, hS.F ht⟩) hS.2.2 dX5_copyFrom_97
            · have hF := iff_ c73 hF
              have hj2 : vp_in w2_68 4 := in_n h2b (nle_lt c73) (hO.1 w hw).2.2.2
              refine lv_aload_n hx hb dX5_copyFrom_76 rfl (lv_at hl 1 rfl) ?_
              refine va_get (D := D) (ci := 7) (C := RX5) (T := TX5) (N := 7) hx hb hts inX5 hown hK hP (18*w+0) (g_o hw) rfl 2 (by decide) (hts (.fieldLink RX5 26 "TileRunners$World" "platforms" "[LTileRunners$Platform;") (List.mem_of_getElem? (i := 6) rfl)) (fun _ h9 => h9) rfl dX5_copyFrom_77 ?_
              refine lv_iload_n hx hb dX5_copyFrom_80 rfl (lv_at hl 0 rfl) ?_
              have hi_81 : w2_68.toNatClampNeg < 4 := in_lt (i := w2_68) hj2
              refine pqald (t0 := 3) (i := w2_68) hx hb hK hP (c_ps hw) rfl hj2 dX5_copyFrom_81 ?_
              refine lv_aload_n hx hb dX5_copyFrom_82 rfl (lv_at hl 2 rfl) ?_
              refine va_get (D := D) (ci := 7) (C := RX5) (T := TX5) (N := 7) hx hb hts inX5 hown hK hP (18*v+0) (g_o hv) rfl 2 (by decide) (hts (.fieldLink RX5 26 "TileRunners$World" "platforms" "[LTileRunners$Platform;") (List.mem_of_getElem? (i := 6) rfl)) (fun _ h9 => h9) rfl dX5_copyFrom_83 ?_
              refine lv_iload_n hx hb dX5_copyFrom_86 rfl (lv_at hl 0 rfl) ?_
              have hi_87 : w2_68.toNatClampNeg < 4 := in_lt (i := w2_68) hj2
              refine pqald (t0 := 3) (i := w2_68) hx hb hK hP (c_ps hv) rfl hj2 dX5_copyFrom_87 ?_
              refine va_callv (va_runV (As := [.ref (ad (18*v+(14+w2_68.toNatClampNeg)))]) (rest := []) ⟨hx, hb, hml, hown, hts⟩ (c2_copyFrom l hA σ_68 w hw w2_68.toNatClampNeg hi_81 v hv w2_68.toNatClampNeg hi_87 hO) (cwV 1 hts gX5_copyFrom_X2_copyFrom rfl rfl rfl hd_X2_copyFromV ⟨Nat.le_of_ble_eq_true rfl, Nat.le_of_ble_eq_true rfl⟩) ⟨hp_blind, va_recv hK hP (ci := 4) (q0 := 18*w+(14+w2_68.toNatClampNeg)) rfl (g_p hw hi_81), hp_pre hK hN hP⟩ rfl rfl hl.1 rfl (lv_room (Nat.le_of_ble_eq_true rfl)) dX5_copyFrom_88 ⟨Nat.zero_le _, Nat.zero_le _⟩) hS (fun _ _ h => h) (fun _ h => h) (fun u9 t H locs ht hvm hw9 hB hz1 hk1 hS => ?_)
              have hP := ho_at ht hB
              obtain ⟨eq88, ok9⟩ := hw9
              obtain ⟨σ88, e_σ88⟩ : ∃ z, z = u9 := ⟨_, rfl⟩
              rw [← e_σ88] at hP eq88 ok9
              have hO := ok9
              have hF := bnd_s eq88 hF
              obtain ⟨v2_91, e_v2_91⟩ : ∃ z : Int32, z = w2_68 + 1 := ⟨_, rfl⟩
              have hF := bnd_s e_v2_91 hF
              refine lv_iinc (v := v2_91) (lv' := [(2, .int v2_91), (0, .ref (ad (18*w+0))), (1, .ref (ad (18*v+0)))]) hx hb dX5_copyFrom_91 hl (k := 0) rfl (by rw [e_v2_91]; rfl) (by decide) rfl (fun ls hl => ?_)
              refine lv_goto (tgt := 68) hx hb dX5_copyFrom_94 (by decide) ?_
              exact ih68 v2_91 σ88 _ _ ls (ms_s (dec_i4 hj2 e_v2_91) hm68) (ge0_i4 hj2 e_v2_91) hO hP hS (lv_sub hl [0, 1, 2] rfl) hF
        exact L68 BIG 0 σ_37 _ _ ls (big_i4 _) le0 hO hP hS (lv_sub hl [0, 1, 2] rfl) hF
      · have hF := iff_ c42 hF
        have hi2 : vp_in w2_37 4 := in_n h2 (nle_lt c42) (hO.1 w hw).2.1
        refine lv_aload_n hx hb dX5_copyFrom_45 rfl (lv_at hl 1 rfl) ?_
        refine va_get (D := D) (ci := 7) (C := RX5) (T := TX5) (N := 7) hx hb hts inX5 hown hK hP (18*w+0) (g_o hw) rfl 1 (by decide) (hts (.fieldLink RX5 20 "TileRunners$World" "bodies" "[LTileRunners$Body;") (List.mem_of_getElem? (i := 5) rfl)) (fun _ h9 => h9) rfl dX5_copyFrom_46 ?_
        refine lv_iload_n hx hb dX5_copyFrom_49 rfl (lv_at hl 0 rfl) ?_
        have hi_50 : w2_37.toNatClampNeg < 4 := in_lt (i := w2_37) hi2
        refine pqald (t0 := 2) (i := w2_37) hx hb hK hP (c_bs hw) rfl hi2 dX5_copyFrom_50 ?_
        refine lv_aload_n hx hb dX5_copyFrom_51 rfl (lv_at hl 2 rfl) ?_
        refine va_get (D := D) (ci := 7) (C := RX5) (T := TX5) (N := 7) hx hb hts inX5 hown hK hP (18*v+0) (g_o hv) rfl 1 (by decide) (hts (.fieldLink RX5 20 "TileRunners$World" "bodies" "[LTileRunners$Body;") (List.mem_of_getElem? (i := 5) rfl)) (fun _ h9 => h9) rfl dX5_copyFrom_52 ?_
        refine lv_iload_n hx hb dX5_copyFrom_55 rfl (lv_at hl 0 rfl) ?_
        have hi_56 : w2_37.toNatClampNeg < 4 := in_lt (i := w2_37) hi2
        refine pqald (t0 := 2) (i := w2_37) hx hb hK hP (c_bs hv) rfl hi2 dX5_copyFrom_56 ?_
        refine va_callv (va_runV (As := [.ref (ad (18*v+(6+2*w2_37.toNatClampNeg)))]) (rest := []) ⟨hx, hb, hml, hown, hts⟩ (c0_copyFrom l hA σ_37 w hw w2_37.toNatClampNeg hi_50 v hv w2_37.toNatClampNeg hi_56 hO) (cwV 1 hts gX5_copyFrom_X0_copyFrom rfl rfl rfl hd_X0_copyFromV ⟨Nat.le_of_ble_eq_true rfl, Nat.le_of_ble_eq_true rfl⟩) ⟨hp_blind, va_recv hK hP (ci := 2) (q0 := 18*w+(6+2*w2_37.toNatClampNeg)) rfl (g_b hw hi_50), hp_pre hK hN hP⟩ rfl rfl hl.1 rfl (lv_room (Nat.le_of_ble_eq_true rfl)) dX5_copyFrom_57 ⟨Nat.zero_le _, Nat.zero_le _⟩) hS (fun _ _ h => h) (fun _ h => h) (fun u9 t H locs ht hvm hw9 hB hz1 hk1 hS => ?_)
        have hP := ho_at ht hB
        obtain ⟨eq57, ok9⟩ := hw9
        obtain ⟨σ57, e_σ57⟩ : ∃ z, z = u9 := ⟨_, rfl⟩
        rw [← e_σ57] at hP eq57 ok9
        have hO := ok9
        have hF := bnd_s eq57 hF
        obtain ⟨v2_60, e_v2_60⟩ : ∃ z : Int32, z = w2_37 + 1 := ⟨_, rfl⟩
        have hF := bnd_s e_v2_60 hF
        refine lv_iinc (v := v2_60) (lv' := [(2, .int v2_60), (0, .ref (ad (18*w+0))), (1, .ref (ad (18*v+0)))]) hx hb dX5_copyFrom_60 hl (k := 0) rfl (by rw [e_v2_60]; rfl) (by decide) rfl (fun ls hl => ?_)
        refine lv_goto (tgt := 37) hx hb dX5_copyFrom_63 (by decide) ?_
        exact ih37 v2_60 σ57 _ _ ls (ms_s (dec_i4 hi2 e_v2_60) hm37) (ge0_i4 hi2 e_v2_60) hO hP hS (lv_sub hl [0, 1, 2] rfl) hF
  exact L37 BIG 0 σ32 _ _ ls (big_i4 _) le0 hO hP hS (lv_sub hl [0, 1, 2] rfl) hF
theorem hd_X5_copyFromV : yX5_copyFrom.cls = RX5 ∧ yX5_copyFrom.cls ≠ "java/lang/invoke/MethodHandle" ∧ yX5_copyFrom.cls ≠ "java/lang/invoke/VarHandle" ∧ (parseMethodDescriptor yX5_copyFrom.desc).map (fun d => d.parameters.length) = some 1 := by decide +kernel
set_option maxHeartbeats 4000000 in
set_option maxRecDepth 100000 in
theorem c5_dropOutBody (l : Launch) {D : va_G} {G : CY} {ad : Nat → Nat} {B0 : Nat} (hA : adOK B0 ad) (σ : Nat → Nat → Int32) (w : Nat) (hw : w < 15) (a : Int32) (hO : okS σ) (hba : vp_in a 4) (hcb : 1 ≤ (σ w 464).toInt) : Met l yX5_dropOutBody wsX5_dropOutBody { frames := 2, cells := 0, slots := 0, locals := 81 } (va_Pc [.ref (ad (18*w+0)), .int a] (Hp D G ad σ)) (va_Qv (fun (z : Nat → Nat → Int32) => z = f5_dropOutBody σ w a ∧ okS z) (fun (z : Nat → Nat → Int32) => Ho D G ad z) (AA B0)) 0 0 (AA B0) := by
  refine Met.ofW (cc := cX5_dropOutBody) (maxL := 3) (ret := none) (by decide) rfl ?_
  intro p e s m args below meth c s₁ B hml hv
  obtain ⟨rfl, hP, hK, hN⟩ := hv
  have hx := B.exec
  have hb := B.bytes
  have hr := B.returns
  have hts := atoms_spec (ws := wsX5_dropOutBody) B.pre
  have hown : s.vm.findClass RX5 = some m.cls := findClass_of_methodNamed B.named
  have hlocks := B.notSynchronized
  have inX5 : ∀ w ∈ wsX50, w ∈ wsX5_dropOutBody := (fun w h => List.mem_cons_of_mem _ (List.mem_append_left _ (List.mem_append_right _ h)))
  have hP : va_P D vwCl (pool G ad σ) s.heap := hP
  have hS : va_S (AA B0) s.heap s.heap [] := va_S.rf
  have hl := lv_entry ([.ref (ad (18*w+0)), .int a]) (n := 3) (Nat.le_of_ble_eq_true rfl)
  rw [lg_entry_eq]
  generalize (lg_sl ([.ref (ad (18*w+0)), .int a]) ++ List.replicate (3 - (lg_sl ([.ref (ad (18*w+0)), .int a])).length) Slot.unset).toArray = ls at hl ⊢
  have hl : lv_has ls 3 [(0, .ref (ad (18*w+0))), (1, .int a)] := hl
  obtain ⟨FF, hFF⟩ : ∃ z, z = f5_dropOutBody σ w a := ⟨_, rfl⟩
  have hF := hFF.symm
  rw [f5_dropOutBody] at hF
  refine lv_iload_n hx hb dX5_dropOutBody_0 rfl (lv_at hl 1 rfl) ?_
  refine lv_istore_n (lv' := [(2, .int a), (0, .ref (ad (18*w+0))), (1, .int a)]) hx hb dX5_dropOutBody_1 rfl hl (by decide) rfl (fun ls hl => ?_)
  have L2 : ∀ (n2 : Nat) (w2_2 : Int32) (σ_2 : (Nat → Nat → Int32)) (H : Heap) (locs : List Loc) (ls : Array Slot), (4 - w2_2.toInt).toNat < n2 → vp_in w2_2 4 → σ_2 w 464 = σ w 464 → okS σ_2 → va_P D vwCl (pool G ad σ_2) H → va_S (AA B0) s.heap H locs → lv_has ls 3 [(2, .int w2_2), (0, .ref (ad (18*w+0)))] → f5_dropOutBody_L2 w n2 w2_2 σ_2 = FF → W p l e (headSpec wsX5_dropOutBody { frames := 2, cells := 0, slots := 0, locals := 81 }).room s m ([.ref (ad (18*w+0)), .int a] : List Value).toArray below meth c H locs 0 0 (MQ below (va_Qv (fun (z : Nat → Nat → Int32) => z = f5_dropOutBody σ w a ∧ okS z) (fun (z : Nat → Nat → Int32) => Ho D G ad z) (AA B0)) ([.ref (ad (18*w+0)), .int a] : List Value).toArray s 0 0 (AA B0)) (F0 m 2 ls []) := by
    intro n2
    induction n2 with
    | zero => intro w2_2 σ_2 H locs ls hm; exact absurd hm (Nat.not_lt_zero _)
    | succ n2 ih2 =>
      intro w2_2 σ_2 H locs ls hm2 h2 hc2 hO hP hS hl hF
      rw [f5_dropOutBody_L2] at hF
      refine lv_iload_n hx hb dX5_dropOutBody_2 rfl (lv_at hl 0 rfl) ?_
      refine lv_iconst (v := 1) hx hb dX5_dropOutBody_3 (by decide) ?_
      refine lv_iadd hx hb dX5_dropOutBody_4 ?_
      refine lv_aload_n hx hb dX5_dropOutBody_5 rfl (lv_at hl 1 rfl) ?_
      refine va_get (D := D) (ci := 7) (C := RX5) (T := TX5) (N := 7) hx hb hts inX5 hown hK hP (18*w+0) (g_o hw) rfl 4 (by decide) (hts (.fieldLink RX5 40 "TileRunners$World" "bodyCount" "I") (List.mem_of_getElem? (i := 1) rfl)) (fun _ h9 => h9) rfl dX5_dropOutBody_6 ?_
      refine lv_icmp_ge (tgt := 35) hx hb dX5_dropOutBody_9 (by decide) (fun c9 => ?_) (fun c9 => ?_)
      · have hF := ift c9 hF
        refine lv_aload_n hx hb dX5_dropOutBody_35 rfl (lv_at hl 1 rfl) ?_
        refine lv_dup hx hb dX5_dropOutBody_36 rfl ?_
        refine va_get (D := D) (ci := 7) (C := RX5) (T := TX5) (N := 7) hx hb hts inX5 hown hK hP (18*w+0) (g_o hw) rfl 4 (by decide) (hts (.fieldLink RX5 40 "TileRunners$World" "bodyCount" "I") (List.mem_of_getElem? (i := 1) rfl)) (fun _ h9 => h9) rfl dX5_dropOutBody_37 ?_
        refine lv_iconst (v := 1) hx hb dX5_dropOutBody_40 (by decide) ?_
        refine lv_isub hx hb dX5_dropOutBody_41 ?_
        have hP := f_eta w hP
        refine pput hx hb hts inX5 tyX5 tyX5_ok nmX5 hown hK hP hA hS hw (j := 0) (by omega) rfl rfl 4 (by decide) (hts (.fieldLink RX5 40 "TileRunners$World" "bodyCount" "I") (List.mem_of_getElem? (i := 1) rfl)) (fun _ h9 => h9) rfl (tyX5_ok 4 (by decide)) rfl rfl (Nat.le_of_ble_eq_true rfl) (464) (by decide) (setO_4) dX5_dropOutBody_42 (fun u9 H locs eu9 hP hS => ?_)
        obtain ⟨σ42, e_σ42⟩ : ∃ z, z = va_up σ_2 w (va_up (σ_2 w) (464) ((σ_2 w 464) - 1)) := ⟨_, rfl⟩
        rw [eu9, ← e_σ42] at hP
        have hF := bnd_s e_σ42 hF
        have hO := okS_row e_σ42 hO hw (okW_dec (hO.1 w hw) (Or.inl rfl) (by rw [hc2]; exact hcb))
        exact W.vret hx hb hr (fun t ht hW => ⟨⟨σ42, rfl, ⟨hF.trans hFF, hO⟩, ho_of ht hP⟩, hS.F ht⟩) hS.2.2 dX5_dropOutBody_45
      · have hF := iff_ c9 hF
        have hq := in_nx h2 (nle_lt c9) (hO.1 w hw).2.1
        refine lv_aload_n hx hb dX5_dropOutBody_12 rfl (lv_at hl 1 rfl) ?_
        refine va_get (D := D) (ci := 7) (C := RX5) (T := TX5) (N := 7) hx hb hts inX5 hown hK hP (18*w+0) (g_o hw) rfl 1 (by decide) (hts (.fieldLink RX5 20 "TileRunners$World" "bodies" "[LTileRunners$Body;") (List.mem_of_getElem? (i := 2) rfl)) (fun _ h9 => h9) rfl dX5_dropOutBody_13 ?_
        refine lv_iload_n hx hb dX5_dropOutBody_16 rfl (lv_at hl 0 rfl) ?_
        have hi_17 : w2_2.toNatClampNeg < 4 := in_lt (i := w2_2) h2
        refine pqald (t0 := 2) (i := w2_2) hx hb hK hP (c_bs hw) rfl h2 dX5_dropOutBody_17 ?_
        refine lv_aload_n hx hb dX5_dropOutBody_18 rfl (lv_at hl 1 rfl) ?_
        refine va_get (D := D) (ci := 7) (C := RX5) (T := TX5) (N := 7) hx hb hts inX5 hown hK hP (18*w+0) (g_o hw) rfl 1 (by decide) (hts (.fieldLink RX5 20 "TileRunners$World" "bodies" "[LTileRunners$Body;") (List.mem_of_getElem? (i := 2) rfl)) (fun _ h9 => h9) rfl dX5_dropOutBody_19 ?_
        refine lv_iload_n hx hb dX5_dropOutBody_22 rfl (lv_at hl 0 rfl) ?_
        refine lv_iconst (v := 1) hx hb dX5_dropOutBody_23 (by decide) ?_
        refine lv_iadd hx hb dX5_dropOutBody_24 ?_
        have hi_25 : (w2_2 + 1).toNatClampNeg < 4 := in_lt (i := (w2_2 + 1)) hq
        refine pqald (t0 := 2) (i := (w2_2 + 1)) hx hb hK hP (c_bs hw) rfl hq dX5_dropOutBody_25 ?_
        refine va_callv (va_runV (As := [.ref (ad (18*w+(6+2*((w2_2 + 1).toNatClampNeg))))]) (rest := []) ⟨hx, hb, hml, hown, hts⟩ (c0_copyFrom l hA σ_2 w hw w2_2.toNatClampNeg hi_17 w hw ((w2_2 + 1).toNatClampNeg) hi_25 hO) (cwV 1 hts gX5_dropOutBody_X0_copyFrom rfl rfl rfl hd_X0_copyFromV ⟨Nat.le_of_ble_eq_true rfl, Nat.le_of_ble_eq_true rfl⟩) ⟨hp_blind, va_recv hK hP (ci := 2) (q0 := 18*w+(6+2*w2_2.toNatClampNeg)) rfl (g_b hw hi_17), hp_pre hK hN hP⟩ rfl rfl hl.1 rfl (lv_room (Nat.le_of_ble_eq_true rfl)) dX5_dropOutBody_26 ⟨Nat.zero_le _, Nat.zero_le _⟩) hS (fun _ _ h => h) (fun _ h => h) (fun u9 t H locs ht hvm hw9 hB hz1 hk1 hS => ?_)
        have hP := ho_at ht hB
        obtain ⟨eq26, ok9⟩ := hw9
        obtain ⟨σ26, e_σ26⟩ : ∃ z, z = u9 := ⟨_, rfl⟩
        rw [← e_σ26] at hP eq26 ok9
        have hO := ok9
        have hF := bnd_s eq26 hF
        have hcc : σ26 w 464 = σ w 464 := by rw [eq26]; exact (fr_copyB (by omega) (by decide)).trans hc2
        obtain ⟨v2_29, e_v2_29⟩ : ∃ z : Int32, z = w2_2 + 1 := ⟨_, rfl⟩
        have hF := bnd_s e_v2_29 hF
        refine lv_iinc (v := v2_29) (lv' := [(2, .int v2_29), (0, .ref (ad (18*w+0)))]) hx hb dX5_dropOutBody_29 hl (k := 0) rfl (by rw [e_v2_29]; rfl) (by decide) rfl (fun ls hl => ?_)
        refine lv_goto (tgt := 2) hx hb dX5_dropOutBody_32 (by decide) ?_
        exact ih2 v2_29 σ26 _ _ ls (ms_s (dec_i4 h2 e_v2_29) hm2) (by rw [e_v2_29]; exact hq) hcc hO hP hS (lv_sub hl [0, 1] rfl) hF
  exact L2 BIG a σ _ _ ls (big_i4 _) hba rfl hO hP hS (lv_sub hl [0, 1] rfl) hF
theorem hd_X5_dropOutBodyV : yX5_dropOutBody.cls = RX5 ∧ yX5_dropOutBody.cls ≠ "java/lang/invoke/MethodHandle" ∧ yX5_dropOutBody.cls ≠ "java/lang/invoke/VarHandle" ∧ (parseMethodDescriptor yX5_dropOutBody.desc).map (fun d => d.parameters.length) = some 1 := by decide +kernel
set_option maxHeartbeats 4000000 in
set_option maxRecDepth 100000 in
theorem c5_dropOutPlatform (l : Launch) {D : va_G} {G : CY} {ad : Nat → Nat} {B0 : Nat} (hA : adOK B0 ad) (σ : Nat → Nat → Int32) (w : Nat) (hw : w < 15) (a : Int32) (hO : okS σ) (hba : vp_in a 4) (hcb : 1 ≤ (σ w 465).toInt) : Met l yX5_dropOutPlatform wsX5_dropOutPlatform { frames := 2, cells := 0, slots := 0, locals := 47 } (va_Pc [.ref (ad (18*w+0)), .int a] (Hp D G ad σ)) (va_Qv (fun (z : Nat → Nat → Int32) => z = f5_dropOutPlatform σ w a ∧ okS z) (fun (z : Nat → Nat → Int32) => Ho D G ad z) (AA B0)) 0 0 (AA B0) := by
  refine Met.ofW (cc := cX5_dropOutPlatform) (maxL := 3) (ret := none) (by decide) rfl ?_
  intro p e s m args below meth c s₁ B hml hv
  obtain ⟨rfl, hP, hK, hN⟩ := hv
  have hx := B.exec
  have hb := B.bytes
  have hr := B.returns
  have hts := atoms_spec (ws := wsX5_dropOutPlatform) B.pre
  have hown : s.vm.findClass RX5 = some m.cls := findClass_of_methodNamed B.named
  have hlocks := B.notSynchronized
  have inX5 : ∀ w ∈ wsX50, w ∈ wsX5_dropOutPlatform := (fun w h => List.mem_cons_of_mem _ (List.mem_append_left _ (List.mem_append_right _ h)))
  have hP : va_P D vwCl (pool G ad σ) s.heap := hP
  have hS : va_S (AA B0) s.heap s.heap [] := va_S.rf
  have hl := lv_entry ([.ref (ad (18*w+0)), .int a]) (n := 3) (Nat.le_of_ble_eq_true rfl)
  rw [lg_entry_eq]
  generalize (lg_sl ([.ref (ad (18*w+0)), .int a]) ++ List.replicate (3 - (lg_sl ([.ref (ad (18*w+0)), .int a])).length) Slot.unset).toArray = ls at hl ⊢
  have hl : lv_has ls 3 [(0, .ref (ad (18*w+0))), (1, .int a)] := hl
  obtain ⟨FF, hFF⟩ : ∃ z, z = f5_dropOutPlatform σ w a := ⟨_, rfl⟩
  have hF := hFF.symm
  rw [f5_dropOutPlatform] at hF
  refine lv_iload_n hx hb dX5_dropOutPlatform_0 rfl (lv_at hl 1 rfl) ?_
  refine lv_istore_n (lv' := [(2, .int a), (0, .ref (ad (18*w+0))), (1, .int a)]) hx hb dX5_dropOutPlatform_1 rfl hl (by decide) rfl (fun ls hl => ?_)
  have L2 : ∀ (n2 : Nat) (w2_2 : Int32) (σ_2 : (Nat → Nat → Int32)) (H : Heap) (locs : List Loc) (ls : Array Slot), (4 - w2_2.toInt).toNat < n2 → vp_in w2_2 4 → σ_2 w 465 = σ w 465 → okS σ_2 → va_P D vwCl (pool G ad σ_2) H → va_S (AA B0) s.heap H locs → lv_has ls 3 [(2, .int w2_2), (0, .ref (ad (18*w+0)))] → f5_dropOutPlatform_L2 w n2 w2_2 σ_2 = FF → W p l e (headSpec wsX5_dropOutPlatform { frames := 2, cells := 0, slots := 0, locals := 47 }).room s m ([.ref (ad (18*w+0)), .int a] : List Value).toArray below meth c H locs 0 0 (MQ below (va_Qv (fun (z : Nat → Nat → Int32) => z = f5_dropOutPlatform σ w a ∧ okS z) (fun (z : Nat → Nat → Int32) => Ho D G ad z) (AA B0)) ([.ref (ad (18*w+0)), .int a] : List Value).toArray s 0 0 (AA B0)) (F0 m 2 ls []) := by
    intro n2
    induction n2 with
    | zero => intro w2_2 σ_2 H locs ls hm; exact absurd hm (Nat.not_lt_zero _)
    | succ n2 ih2 =>
      intro w2_2 σ_2 H locs ls hm2 h2 hc2 hO hP hS hl hF
      rw [f5_dropOutPlatform_L2] at hF
      refine lv_iload_n hx hb dX5_dropOutPlatform_2 rfl (lv_at hl 0 rfl) ?_
      refine lv_iconst (v := 1) hx hb dX5_dropOutPlatform_3 (by decide) ?_
      refine lv_iadd hx hb dX5_dropOutPlatform_4 ?_
      refine lv_aload_n hx hb dX5_dropOutPlatform_5 rfl (lv_at hl 1 rfl) ?_
      refine va_get (D := D) (ci := 7) (C := RX5) (T := TX5) (N := 7) hx hb hts inX5 hown hK hP (18*w+0) (g_o hw) rfl 5 (by decide) (hts (.fieldLink RX5 44 "TileRunners$World" "platformCount" "I") (List.mem_of_getElem? (i := 1) rfl)) (fun _ h9 => h9) rfl dX5_dropOutPlatform_6 ?_
      refine lv_icmp_ge (tgt := 35) hx hb dX5_dropOutPlatform_9 (by decide) (fun c9 => ?_) (fun c9 => ?_)
      · have hF := ift c9 hF
        refine lv_aload_n hx hb dX5_dropOutPlatform_35 rfl (lv_at hl 1 rfl) ?_
        refine lv_dup hx hb dX5_dropOutPlatform_36 rfl ?_
        refine va_get (D := D) (ci := 7) (C := RX5) (T := TX5) (N := 7) hx hb hts inX5 hown hK hP (18*w+0) (g_o hw) rfl 5 (by decide) (hts (.fieldLink RX5 44 "TileRunners$World" "platformCount" "I") (List.mem_of_getElem? (i := 1) rfl)) (fun _ h9 => h9) rfl dX5_dropOutPlatform_37 ?_
        refine lv_iconst (v := 1) hx hb dX5_dropOutPlatform_40 (by decide) ?_
        refine lv_isub hx hb dX5_dropOutPlatform_41 ?_
        have hP := f_eta w hP
        refine pput hx hb hts inX5 tyX5 tyX5_ok nmX5 hown hK hP hA hS hw (j := 0) (by omega) rfl rfl 5 (by decide) (hts (.fieldLink RX5 44 "TileRunners$World" "platformCount" "I") (List.mem_of_getElem? (i := 1) rfl)) (fun _ h9 => h9) rfl (tyX5_ok 5 (by decide)) rfl rfl (Nat.le_of_ble_eq_true rfl) (465) (by decide) (setO_5) dX5_dropOutPlatform_42 (fun u9 H locs eu9 hP hS => ?_)
        obtain ⟨σ42, e_σ42⟩ : ∃ z, z = va_up σ_2 w (va_up (σ_2 w) (465) ((σ_2 w 465) - 1)) := ⟨_, rfl⟩
        rw [eu9, ← e_σ42] at hP
        have hF := bnd_s e_σ42 hF
        have hO := okS_row e_σ42 hO hw (okW_dec (hO.1 w hw) (Or.inr rfl) (by rw [hc2]; exact hcb))
        exact W.vret hx hb hr (fun t ht hW => ⟨⟨σ42, rfl, ⟨hF.trans hFF, hO⟩, ho_of ht hP⟩, hS.F ht⟩) hS.2.2 dX5_dropOutPlatform_45
      · have hF := iff_ c9 hF
        have hq := in_nx h2 (nle_lt c9) (hO.1 w hw).2.2.2
        refine lv_aload_n hx hb dX5_dropOutPlatform_12 rfl (lv_at hl 1 rfl) ?_
        refine va_get (D := D) (ci := 7) (C := RX5) (T := TX5) (N := 7) hx hb hts inX5 hown hK hP (18*w+0) (g_o hw) rfl 2 (by decide) (hts (.fieldLink RX5 26 "TileRunners$World" "platforms" "[LTileRunners$Platform;") (List.mem_of_getElem? (i := 2) rfl)) (fun _ h9 => h9) rfl dX5_dropOutPlatform_13 ?_
        refine lv_iload_n hx hb dX5_dropOutPlatform_16 rfl (lv_at hl 0 rfl) ?_
        have hi_17 : w2_2.toNatClampNeg < 4 := in_lt (i := w2_2) h2
        refine pqald (t0 := 3) (i := w2_2) hx hb hK hP (c_ps hw) rfl h2 dX5_dropOutPlatform_17 ?_
        refine lv_aload_n hx hb dX5_dropOutPlatform_18 rfl (lv_at hl 1 rfl) ?_
        refine va_get (D := D) (ci := 7) (C := RX5) (T := TX5) (N := 7) hx hb hts inX5 hown hK hP (18*w+0) (g_o hw) rfl 2 (by decide) (hts (.fieldLink RX5 26 "TileRunners$World" "platforms" "[LTileRunners$Platform;") (List.mem_of_getElem? (i := 2) rfl)) (fun _ h9 => h9) rfl dX5_dropOutPlatform_19 ?_
        refine lv_iload_n hx hb dX5_dropOutPlatform_22 rfl (lv_at hl 0 rfl) ?_
        refine lv_iconst (v := 1) hx hb dX5_dropOutPlatform_23 (by decide) ?_
        refine lv_iadd hx hb dX5_dropOutPlatform_24 ?_
        have hi_25 : (w2_2 + 1).toNatClampNeg < 4 := in_lt (i := (w2_2 + 1)) hq
        refine pqald (t0 := 3) (i := (w2_2 + 1)) hx hb hK hP (c_ps hw) rfl hq dX5_dropOutPlatform_25 ?_
        refine va_callv (va_runV (As := [.ref (ad (18*w+(14+((w2_2 + 1).toNatClampNeg))))]) (rest := []) ⟨hx, hb, hml, hown, hts⟩ (c2_copyFrom l hA σ_2 w hw w2_2.toNatClampNeg hi_17 w hw ((w2_2 + 1).toNatClampNeg) hi_25 hO) (cwV 1 hts gX5_dropOutPlatform_X2_copyFrom rfl rfl rfl hd_X2_copyFromV ⟨Nat.le_of_ble_eq_true rfl, Nat.le_of_ble_eq_true rfl⟩) ⟨hp_blind, va_recv hK hP (ci := 4) (q0 := 18*w+(14+w2_2.toNatClampNeg)) rfl (g_p hw hi_17), hp_pre hK hN hP⟩ rfl rfl hl.1 rfl (lv_room (Nat.le_of_ble_eq_true rfl)) dX5_dropOutPlatform_26 ⟨Nat.zero_le _, Nat.zero_le _⟩) hS (fun _ _ h => h) (fun _ h => h) (fun u9 t H locs ht hvm hw9 hB hz1 hk1 hS => ?_)
        have hP := ho_at ht hB
        obtain ⟨eq26, ok9⟩ := hw9
        obtain ⟨σ26, e_σ26⟩ : ∃ z, z = u9 := ⟨_, rfl⟩
        rw [← e_σ26] at hP eq26 ok9
        have hO := ok9
        have hF := bnd_s eq26 hF
        have hcc : σ26 w 465 = σ w 465 := by rw [eq26]; exact (fr_copyP (by omega) (by decide)).trans hc2
        obtain ⟨v2_29, e_v2_29⟩ : ∃ z : Int32, z = w2_2 + 1 := ⟨_, rfl⟩
        have hF := bnd_s e_v2_29 hF
        refine lv_iinc (v := v2_29) (lv' := [(2, .int v2_29), (0, .ref (ad (18*w+0)))]) hx hb dX5_dropOutPlatform_29 hl (k := 0) rfl (by rw [e_v2_29]; rfl) (by decide) rfl (fun ls hl => ?_)
        refine lv_goto (tgt := 2) hx hb dX5_dropOutPlatform_32 (by decide) ?_
        exact ih2 v2_29 σ26 _ _ ls (ms_s (dec_i4 h2 e_v2_29) hm2) (by rw [e_v2_29]; exact hq) hcc hO hP hS (lv_sub hl [0, 1] rfl) hF
  exact L2 BIG a σ _ _ ls (big_i4 _) hba rfl hO hP hS (lv_sub hl [0, 1] rfl) hF
theorem hd_X5_dropOutPlatformV : yX5_dropOutPlatform.cls = RX5 ∧ yX5_dropOutPlatform.cls ≠ "java/lang/invoke/MethodHandle" ∧ yX5_dropOutPlatform.cls ≠ "java/lang/invoke/VarHandle" ∧ (parseMethodDescriptor yX5_dropOutPlatform.desc).map (fun d => d.parameters.length) = some 1 := by decide +kernel
set_option maxHeartbeats 4000000 in
set_option maxRecDepth 100000 in
theorem c1_keep (l : Launch) {D : va_G} {G : CY} {ad : Nat → Nat} {B0 : Nat} (hA : adOK B0 ad) (σ : Nat → Nat → Int32) (v : Nat) (hv : v < 15) (hO : okS σ) : Met l yX1_keep wsX1_keep { frames := 3, cells := 0, slots := 0, locals := 103 } (va_Pc [.ref (ad (273)), .ref (ad (18*v+0))] (Hp D G ad σ)) (va_Qv (fun (z : Nat → Nat → Int32) => z = f1_keep σ v ∧ okS z) (fun (z : Nat → Nat → Int32) => Ho D G ad z) (AA B0)) 0 0 (AA B0) := by
  refine Met.ofW (cc := cX1_keep) (maxL := 2) (ret := none) (by decide) rfl ?_
  intro p e s m args below meth c s₁ B hml hv
  obtain ⟨rfl, hP, hK, hN⟩ := hv
  have hx := B.exec
  have hb := B.bytes
  have hr := B.returns
  have hts := atoms_spec (ws := wsX1_keep) B.pre
  have hown : s.vm.findClass RX1 = some m.cls := findClass_of_methodNamed B.named
  have hlocks := B.notSynchronized
  have inX1 : ∀ w ∈ wsX10, w ∈ wsX1_keep := (fun w h => List.mem_cons_of_mem _ (List.mem_append_left _ (List.mem_append_left _ (List.mem_append_left _ (List.mem_append_left _ (List.mem_append_right _ h))))))
  have hP : va_P D vwCl (pool G ad σ) s.heap := hP
  have hS : va_S (AA B0) s.heap s.heap [] := va_S.rf
  have hl := lv_entry ([.ref (ad (273)), .ref (ad (18*v+0))]) (n := 2) (Nat.le_of_ble_eq_true rfl)
  rw [lg_entry_eq]
  generalize (lg_sl ([.ref (ad (273)), .ref (ad (18*v+0))]) ++ List.replicate (2 - (lg_sl ([.ref (ad (273)), .ref (ad (18*v+0))])).length) Slot.unset).toArray = ls at hl ⊢
  have hl : lv_has ls 2 [(0, .ref (ad (273))), (1, .ref (ad (18*v+0)))] := hl
  obtain ⟨FF, hFF⟩ : ∃ z, z = f1_keep σ v := ⟨_, rfl⟩
  have hF := hFF.symm
  rw [f1_keep] at hF
  refine lv_aload_n hx hb dX1_keep_0 rfl (lv_at hl 0 rfl) ?_
  refine va_get (D := D) (ci := 3) (C := RX1) (T := TX1) (N := 3) hx hb hts inX1 hown hK hP (273) g_273 rfl 0 (by decide) (hts (.fieldLink RX1 11 "TileRunners$History" "worlds" "[LTileRunners$World;") (List.mem_of_getElem? (i := 1) rfl)) (fun _ h9 => h9) rfl dX1_keep_1 ?_
  refine lv_aload_n hx hb dX1_keep_4 rfl (lv_at hl 0 rfl) ?_
  refine va_get (D := D) (ci := 3) (C := RX1) (T := TX1) (N := 3) hx hb hts inX1 hown hK hP (273) g_273 rfl 2 (by decide) (hts (.fieldLink RX1 18 "TileRunners$History" "next" "I") (List.mem_of_getElem? (i := 2) rfl)) (fun _ h9 => h9) rfl dX1_keep_5 ?_
  have hi_8 : (σ 15 3).toNatClampNeg < 12 := in_lt (i := (σ 15 3)) (in12 hO.2.1.2.1)
  refine pqald (t0 := 4) (i := (σ 15 3)) hx hb hK hP c_274 rfl (in12 hO.2.1.2.1) dX1_keep_8 ?_
  refine lv_aload_n hx hb dX1_keep_9 rfl (lv_at hl 1 rfl) ?_
  refine va_callv (va_runV (As := [.ref (ad (18*v+0))]) (rest := []) ⟨hx, hb, hml, hown, hts⟩ (c5_copyFrom l hA σ (3+(σ 15 3).toNatClampNeg) (by omega : 3+(σ 15 3).toNatClampNeg < 15) v hv hO) (cwV 1 hts gX1_keep_X5_copyFrom rfl rfl rfl hd_X5_copyFromV ⟨Nat.le_of_ble_eq_true rfl, Nat.le_of_ble_eq_true rfl⟩) ⟨hp_blind, va_recv hK hP (ci := 7) (q0 := 18*(3+(σ 15 3).toNatClampNeg)+0) rfl (g_o (by omega : 3+(σ 15 3).toNatClampNeg < 15)), hp_pre hK hN hP⟩ rfl rfl hl.1 rfl (lv_room (Nat.le_of_ble_eq_true rfl)) dX1_keep_10 ⟨Nat.zero_le _, Nat.zero_le _⟩) hS (fun _ _ h => h) (fun _ h => h) (fun u9 t H locs ht hvm hw9 hB hz1 hk1 hS => ?_)
  have hP := ho_at ht hB
  obtain ⟨eq10, ok9⟩ := hw9
  obtain ⟨σ10, e_σ10⟩ : ∃ z, z = u9 := ⟨_, rfl⟩
  rw [← e_σ10] at hP eq10 ok9
  have hO := ok9
  have hF := bnd_s eq10 hF
  refine lv_aload_n hx hb dX1_keep_13 rfl (lv_at hl 0 rfl) ?_
  refine lv_aload_n hx hb dX1_keep_14 rfl (lv_at hl 0 rfl) ?_
  refine va_get (D := D) (ci := 3) (C := RX1) (T := TX1) (N := 3) hx hb hts inX1 hown hK hP (273) g_273 rfl 2 (by decide) (hts (.fieldLink RX1 18 "TileRunners$History" "next" "I") (List.mem_of_getElem? (i := 2) rfl)) (fun _ h9 => h9) rfl dX1_keep_15 ?_
  refine lv_iconst (v := 1) hx hb dX1_keep_18 (by decide) ?_
  refine lv_iadd hx hb dX1_keep_19 ?_
  refine lv_bipush (v := 12) hx hb dX1_keep_20 (by decide) ?_
  refine lv_irem hx hb dX1_keep_22 (by decide) ?_
  have hP := f_eta 15 hP
  refine pput15 hx hb hts inX1 tyX1 tyX1_ok nmX1 hown hK hP hA hS (j := 273) (by decide) (by decide) rfl rfl 2 (by decide) (hts (.fieldLink RX1 18 "TileRunners$History" "next" "I") (List.mem_of_getElem? (i := 2) rfl)) (fun _ h9 => h9) rfl (tyX1_ok 2 (by decide)) rfl rfl (Nat.le_of_ble_eq_true rfl) (3) (by decide) (setY_2) dX1_keep_23 (fun u9 H locs eu9 hP hS => ?_)
  obtain ⟨σ23, e_σ23⟩ : ∃ z, z = va_up σ10 15 (va_up (σ10 15) (3) (((σ10 15 3) + 1) - ((σ10 15 3) + 1) / 12 * 12)) := ⟨_, rfl⟩
  rw [eu9, ← e_σ23] at hP
  have hF := bnd_s e_σ23 hF
  have hO := okS_15 e_σ23 hO (okC_3 hO.2.1 (mod12 (pl1 ⟨hO.2.1.2.1.1, Int.lt_trans hO.2.1.2.1.2 (by decide)⟩)).1 (mod12 (pl1 ⟨hO.2.1.2.1.1, Int.lt_trans hO.2.1.2.1.2 (by decide)⟩)).2)
  refine lv_aload_n hx hb dX1_keep_26 rfl (lv_at hl 0 rfl) ?_
  refine lv_bipush (v := 12) hx hb dX1_keep_27 (by decide) ?_
  refine lv_aload_n hx hb dX1_keep_29 rfl (lv_at hl 0 rfl) ?_
  refine va_get (D := D) (ci := 3) (C := RX1) (T := TX1) (N := 3) hx hb hts inX1 hown hK hP (273) g_273 rfl 1 (by decide) (hts (.fieldLink RX1 26 "TileRunners$History" "count" "I") (List.mem_of_getElem? (i := 3) rfl)) (fun _ h9 => h9) rfl dX1_keep_30 ?_
  refine lv_iconst (v := 1) hx hb dX1_keep_33 (by decide) ?_
  refine lv_iadd hx hb dX1_keep_34 ?_
  refine va_mmin hx hb (hml.trans hl.1.symm) hown (hts _ (List.mem_of_getElem? (i := 4) rfl)) (hts _ (List.mem_of_getElem? (i := 5) rfl)) (hts _ (List.mem_of_getElem? (i := 6) rfl)) (hts _ (List.mem_of_getElem? (i := 7) rfl)) (Nat.le_of_ble_eq_true rfl) (Nat.le_of_ble_eq_true rfl) (Nat.zero_le _) (Nat.zero_le _) dX1_keep_35 ?_
  have hP := f_eta 15 hP
  refine pput15 hx hb hts inX1 tyX1 tyX1_ok nmX1 hown hK hP hA hS (j := 273) (by decide) (by decide) rfl rfl 1 (by decide) (hts (.fieldLink RX1 26 "TileRunners$History" "count" "I") (List.mem_of_getElem? (i := 3) rfl)) (fun _ h9 => h9) rfl (tyX1_ok 1 (by decide)) rfl rfl (Nat.le_of_ble_eq_true rfl) (2) (by decide) (setY_1) dX1_keep_38 (fun u9 H locs eu9 hP hS => ?_)
  obtain ⟨σ38, e_σ38⟩ : ∃ z, z = va_up σ23 15 (va_up (σ23 15) (2) (mMin 12 ((σ23 15 2) + 1))) := ⟨_, rfl⟩
  rw [eu9, ← e_σ38] at hP
  have hF := bnd_s e_σ38 hF
  have hO := okS_15 e_σ38 hO (okC_2 hO.2.1 (min12 hO.2.1.1).1 (min12 hO.2.1.1).2)
  exact W.vret hx hb hr (fun t ht hW => ⟨⟨σ38, rfl, ⟨hF.trans hFF, hO⟩, ho_of ht hP⟩, hS.F ht⟩) hS.2.2 dX1_keep_41
theorem hd_X1_keepV : yX1_keep.cls = RX1 ∧ yX1_keep.cls ≠ "java/lang/invoke/MethodHandle" ∧ yX1_keep.cls ≠ "java/lang/invoke/VarHandle" ∧ (parseMethodDescriptor yX1_keep.desc).map (fun d => d.parameters.length) = some 1 := by decide +kernel
set_option maxHeartbeats 4000000 in
set_option maxRecDepth 100000 in
theorem c1_bringBack (l : Launch) {D : va_G} {G : CY} {ad : Nat → Nat} {B0 : Nat} (hA : adOK B0 ad) (σ : Nat → Nat → Int32) (v : Nat) (hv : v < 15) (hO : okS σ) (hcb : 1 ≤ (σ 15 2).toInt) : Met l yX1_bringBack wsX1_bringBack { frames := 3, cells := 0, slots := 0, locals := 103 } (va_Pc [.ref (ad (273)), .ref (ad (18*v+0))] (Hp D G ad σ)) (va_Qv (fun (z : Nat → Nat → Int32) => z = f1_bringBack σ v ∧ okS z) (fun (z : Nat → Nat → Int32) => Ho D G ad z) (AA B0)) 0 0 (AA B0) := by
  refine Met.ofW (cc := cX1_bringBack) (maxL := 2) (ret := none) (by decide) rfl ?_
  intro p e s m args below meth c s₁ B hml hv
  obtain ⟨rfl, hP, hK, hN⟩ := hv
  have hx := B.exec
  have hb := B.bytes
  have hr := B.returns
  have hts := atoms_spec (ws := wsX1_bringBack) B.pre
  have hown : s.vm.findClass RX1 = some m.cls := findClass_of_methodNamed B.named
  have hlocks := B.notSynchronized
  have inX1 : ∀ w ∈ wsX10, w ∈ wsX1_bringBack := (fun w h => List.mem_cons_of_mem _ (List.mem_append_left _ (List.mem_append_left _ (List.mem_append_left _ (List.mem_append_left _ (List.mem_append_right _ h))))))
  have hP : va_P D vwCl (pool G ad σ) s.heap := hP
  have hS : va_S (AA B0) s.heap s.heap [] := va_S.rf
  have hl := lv_entry ([.ref (ad (273)), .ref (ad (18*v+0))]) (n := 2) (Nat.le_of_ble_eq_true rfl)
  rw [lg_entry_eq]
  generalize (lg_sl ([.ref (ad (273)), .ref (ad (18*v+0))]) ++ List.replicate (2 - (lg_sl ([.ref (ad (273)), .ref (ad (18*v+0))])).length) Slot.unset).toArray = ls at hl ⊢
  have hl : lv_has ls 2 [(0, .ref (ad (273))), (1, .ref (ad (18*v+0)))] := hl
  obtain ⟨FF, hFF⟩ : ∃ z, z = f1_bringBack σ v := ⟨_, rfl⟩
  have hF := hFF.symm
  rw [f1_bringBack] at hF
  refine lv_aload_n hx hb dX1_bringBack_0 rfl (lv_at hl 0 rfl) ?_
  refine lv_aload_n hx hb dX1_bringBack_1 rfl (lv_at hl 0 rfl) ?_
  refine va_get (D := D) (ci := 3) (C := RX1) (T := TX1) (N := 3) hx hb hts inX1 hown hK hP (273) g_273 rfl 2 (by decide) (hts (.fieldLink RX1 18 "TileRunners$History" "next" "I") (List.mem_of_getElem? (i := 1) rfl)) (fun _ h9 => h9) rfl dX1_bringBack_2 ?_
  refine lv_bipush (v := 12) hx hb dX1_bringBack_5 (by decide) ?_
  refine lv_iadd hx hb dX1_bringBack_7 ?_
  refine lv_iconst (v := 1) hx hb dX1_bringBack_8 (by decide) ?_
  refine lv_isub hx hb dX1_bringBack_9 ?_
  refine lv_bipush (v := 12) hx hb dX1_bringBack_10 (by decide) ?_
  refine lv_irem hx hb dX1_bringBack_12 (by decide) ?_
  have hP := f_eta 15 hP
  refine pput15 hx hb hts inX1 tyX1 tyX1_ok nmX1 hown hK hP hA hS (j := 273) (by decide) (by decide) rfl rfl 2 (by decide) (hts (.fieldLink RX1 18 "TileRunners$History" "next" "I") (List.mem_of_getElem? (i := 1) rfl)) (fun _ h9 => h9) rfl (tyX1_ok 2 (by decide)) rfl rfl (Nat.le_of_ble_eq_true rfl) (3) (by decide) (setY_2) dX1_bringBack_13 (fun u9 H locs eu9 hP hS => ?_)
  obtain ⟨σ13, e_σ13⟩ : ∃ z, z = va_up σ 15 (va_up (σ 15) (3) ((((σ 15 3) + 12) - 1) - (((σ 15 3) + 12) - 1) / 12 * 12)) := ⟨_, rfl⟩
  rw [eu9, ← e_σ13] at hP
  have hF := bnd_s e_σ13 hF
  have hO := okS_15 e_σ13 hO (okC_3 hO.2.1 (mod12 (pl11 hO.2.1.2.1)).1 (mod12 (pl11 hO.2.1.2.1)).2)
  refine lv_aload_n hx hb dX1_bringBack_16 rfl (lv_at hl 0 rfl) ?_
  refine lv_dup hx hb dX1_bringBack_17 rfl ?_
  refine va_get (D := D) (ci := 3) (C := RX1) (T := TX1) (N := 3) hx hb hts inX1 hown hK hP (273) g_273 rfl 1 (by decide) (hts (.fieldLink RX1 26 "TileRunners$History" "count" "I") (List.mem_of_getElem? (i := 2) rfl)) (fun _ h9 => h9) rfl dX1_bringBack_18 ?_
  refine lv_iconst (v := 1) hx hb dX1_bringBack_21 (by decide) ?_
  refine lv_isub hx hb dX1_bringBack_22 ?_
  have hP := f_eta 15 hP
  refine pput15 hx hb hts inX1 tyX1 tyX1_ok nmX1 hown hK hP hA hS (j := 273) (by decide) (by decide) rfl rfl 1 (by decide) (hts (.fieldLink RX1 26 "TileRunners$History" "count" "I") (List.mem_of_getElem? (i := 2) rfl)) (fun _ h9 => h9) rfl (tyX1_ok 1 (by decide)) rfl rfl (Nat.le_of_ble_eq_true rfl) (2) (by decide) (setY_1) dX1_bringBack_23 (fun u9 H locs eu9 hP hS => ?_)
  obtain ⟨σ23, e_σ23⟩ : ∃ z, z = va_up σ13 15 (va_up (σ13 15) (2) ((σ13 15 2) - 1)) := ⟨_, rfl⟩
  rw [eu9, ← e_σ23] at hP
  have hF := bnd_s e_σ23 hF
  have hO := okS_15 e_σ23 hO (okC_2 hO.2.1 (dec12 (by rw [e_σ13, va_up_self, va_up_ne _ _ (by decide)]; exact hcb) hO.2.1.1.2).1 (dec12 (by rw [e_σ13, va_up_self, va_up_ne _ _ (by decide)]; exact hcb) hO.2.1.1.2).2)
  refine lv_aload_n hx hb dX1_bringBack_26 rfl (lv_at hl 1 rfl) ?_
  refine lv_aload_n hx hb dX1_bringBack_27 rfl (lv_at hl 0 rfl) ?_
  refine va_get (D := D) (ci := 3) (C := RX1) (T := TX1) (N := 3) hx hb hts inX1 hown hK hP (273) g_273 rfl 0 (by decide) (hts (.fieldLink RX1 11 "TileRunners$History" "worlds" "[LTileRunners$World;") (List.mem_of_getElem? (i := 3) rfl)) (fun _ h9 => h9) rfl dX1_bringBack_28 ?_
  refine lv_aload_n hx hb dX1_bringBack_31 rfl (lv_at hl 0 rfl) ?_
  refine va_get (D := D) (ci := 3) (C := RX1) (T := TX1) (N := 3) hx hb hts inX1 hown hK hP (273) g_273 rfl 2 (by decide) (hts (.fieldLink RX1 18 "TileRunners$History" "next" "I") (List.mem_of_getElem? (i := 1) rfl)) (fun _ h9 => h9) rfl dX1_bringBack_32 ?_
  have hi_35 : (σ23 15 3).toNatClampNeg < 12 := in_lt (i := (σ23 15 3)) (in12 hO.2.1.2.1)
  refine pqald (t0 := 4) (i := (σ23 15 3)) hx hb hK hP c_274 rfl (in12 hO.2.1.2.1) dX1_bringBack_35 ?_
  refine va_callv (va_runV (As := [.ref (ad (18*(3+(σ23 15 3).toNatClampNeg)+0))]) (rest := []) ⟨hx, hb, hml, hown, hts⟩ (c5_copyFrom l hA σ23 v hv (3+(σ23 15 3).toNatClampNeg) (by omega : 3+(σ23 15 3).toNatClampNeg < 15) hO) (cwV 1 hts gX1_bringBack_X5_copyFrom rfl rfl rfl hd_X5_copyFromV ⟨Nat.le_of_ble_eq_true rfl, Nat.le_of_ble_eq_true rfl⟩) ⟨hp_blind, va_recv hK hP (ci := 7) (q0 := 18*v+0) rfl (g_o hv), hp_pre hK hN hP⟩ rfl rfl hl.1 rfl (lv_room (Nat.le_of_ble_eq_true rfl)) dX1_bringBack_36 ⟨Nat.zero_le _, Nat.zero_le _⟩) hS (fun _ _ h => h) (fun _ h => h) (fun u9 t H locs ht hvm hw9 hB hz1 hk1 hS => ?_)
  have hP := ho_at ht hB
  obtain ⟨eq36, ok9⟩ := hw9
  obtain ⟨σ36, e_σ36⟩ : ∃ z, z = u9 := ⟨_, rfl⟩
  rw [← e_σ36] at hP eq36 ok9
  have hO := ok9
  have hF := bnd_s eq36 hF
  exact W.vret hx hb hr (fun t ht hW => ⟨⟨σ36, rfl, ⟨hF.trans hFF, hO⟩, ho_of ht hP⟩, hS.F ht⟩) hS.2.2 dX1_bringBack_39
theorem hd_X1_bringBackV : yX1_bringBack.cls = RX1 ∧ yX1_bringBack.cls ≠ "java/lang/invoke/MethodHandle" ∧ yX1_bringBack.cls ≠ "java/lang/invoke/VarHandle" ∧ (parseMethodDescriptor yX1_bringBack.desc).map (fun d => d.parameters.length) = some 1 := by decide +kernel
set_option maxHeartbeats 4000000 in
set_option maxRecDepth 100000 in
theorem c1_forget (l : Launch) {D : va_G} {G : CY} {ad : Nat → Nat} {B0 : Nat} (hA : adOK B0 ad) (σ : Nat → Nat → Int32)  (hO : okS σ) : Met l yX1_forget wsX1_forget { frames := 0, cells := 0, slots := 0, locals := 0 } (va_Pc [.ref (ad (273))] (Hp D G ad σ)) (va_Qv (fun (z : Nat → Nat → Int32) => z = f1_forget σ ∧ okS z) (fun (z : Nat → Nat → Int32) => Ho D G ad z) (AA B0)) 0 0 (AA B0) := by
  refine Met.ofW (cc := cX1_forget) (maxL := 1) (ret := none) (by decide) rfl ?_
  intro p e s m args below meth c s₁ B hml hv
  obtain ⟨rfl, hP, hK, hN⟩ := hv
  have hx := B.exec
  have hb := B.bytes
  have hr := B.returns
  have hts := atoms_spec (ws := wsX1_forget) B.pre
  have hown : s.vm.findClass RX1 = some m.cls := findClass_of_methodNamed B.named
  have hlocks := B.notSynchronized
  have inX1 : ∀ w ∈ wsX10, w ∈ wsX1_forget := (fun w h => List.mem_cons_of_mem _ (List.mem_append_right _ h))
  have hP : va_P D vwCl (pool G ad σ) s.heap := hP
  have hS : va_S (AA B0) s.heap s.heap [] := va_S.rf
  have hl := lv_entry ([.ref (ad (273))]) (n := 1) (Nat.le_of_ble_eq_true rfl)
  rw [lg_entry_eq]
  generalize (lg_sl ([.ref (ad (273))]) ++ List.replicate (1 - (lg_sl ([.ref (ad (273))])).length) Slot.unset).toArray = ls at hl ⊢
  have hl : lv_has ls 1 [(0, .ref (ad (273)))] := hl
  obtain ⟨FF, hFF⟩ : ∃ z, z = f1_forget σ := ⟨_, rfl⟩
  have hF := hFF.symm
  rw [f1_forget] at hF
  refine lv_aload_n hx hb dX1_forget_0 rfl (lv_at hl 0 rfl) ?_
  refine lv_iconst (v := 0) hx hb dX1_forget_1 (by decide) ?_
  have hP := f_eta 15 hP
  refine pput15 hx hb hts inX1 tyX1 tyX1_ok nmX1 hown hK hP hA hS (j := 273) (by decide) (by decide) rfl rfl 1 (by decide) (hts (.fieldLink RX1 26 "TileRunners$History" "count" "I") (List.mem_of_getElem? (i := 1) rfl)) (fun _ h9 => h9) rfl (tyX1_ok 1 (by decide)) rfl rfl (Nat.le_of_ble_eq_true rfl) (2) (by decide) (setY_1) dX1_forget_2 (fun u9 H locs eu9 hP hS => ?_)
  obtain ⟨σ2, e_σ2⟩ : ∃ z, z = va_up σ 15 (va_up (σ 15) (2) 0) := ⟨_, rfl⟩
  rw [eu9, ← e_σ2] at hP
  have hF := bnd_s e_σ2 hF
  have hO := okS_15 e_σ2 hO (okC_2 hO.2.1 (by decide) (by decide))
  exact W.vret hx hb hr (fun t ht hW => ⟨⟨σ2, rfl, ⟨hF.trans hFF, hO⟩, ho_of ht hP⟩, hS.F ht⟩) hS.2.2 dX1_forget_5
theorem hd_X1_forgetV : yX1_forget.cls = RX1 ∧ yX1_forget.cls ≠ "java/lang/invoke/MethodHandle" ∧ yX1_forget.cls ≠ "java/lang/invoke/VarHandle" ∧ (parseMethodDescriptor yX1_forget.desc).map (fun d => d.parameters.length) = some 0 := by decide +kernel
