/-! MEAN MOVES: both methods that answer with a float -/
abbrev RTF : Type := (UInt32 ⊕ String) × (Nat → Nat → Int32)
def bndxF (x : RT) (k : Int32 → (Nat → Nat → Int32) → RTF) : RTF := match x.1 with
  | .inl r => k r x.2
  | .inr E => (.inr E, x.2)
theorem bndxF_s {x : RT} {r : Int32} {u : Nat → Nat → Int32} {k : Int32 → (Nat → Nat → Int32) → RTF} {F : RTF} (hp : ((.inl r, u) : RT) = x) (hF : bndxF x k = F) : k r u = F := by subst hp; exact hF
theorem bndxF_x {x : RT} {E : String} {u : Nat → Nat → Int32} {k : Int32 → (Nat → Nat → Int32) → RTF} {F : RTF} (hp : ((.inr E, u) : RT) = x) (hF : bndxF x k = F) : ((.inr E, u) : RTF) = F := by subst hp; exact hF
theorem mean_nn {u u1 : Nat → Int32} {a x r1 r2 : Int32} (ha : vp_in a 4) (c : ¬ r1 = 0) (e1 : r1 = f7_of u a 21) (eu : u1 = va_up u 490 0) (e2 : r2 = f7_of u1 a 21) : vf_n32 (FP.fdiv (FP.i2f x) (FP.i2f r2)) := by
  obtain ⟨i, hi, rfl⟩ := vp_nI (w := a) (K := 4) ha (by decide)
  refine fl_vn32 (fl_div ?_)
  rw [e2, eu, o_21 hi, va_up_ne _ _ (by omega)]
  rw [e1, o_21 hi] at c
  exact c
def f6_meanMoves (σ : (Nat → Nat → Int32)) (a : Int32) : RTF :=
  bndxF (f6_requireBody σ a) fun _ σ2 => if (σ2 0 (336+24*a.toNatClampNeg+21)) = 0 then (((Sum.inr "java/lang/ArithmeticException", σ2) : RTF)) else (((Sum.inl (FP.fdiv (FP.i2f (σ2 0 (336+24*a.toNatClampNeg+18))) (FP.i2f (σ2 0 (336+24*a.toNatClampNeg+21)))), σ2) : RTF))
set_option maxHeartbeats 4000000 in
set_option maxRecDepth 100000 in
theorem c6_meanMoves (l : Launch) (hl0 : l.stackTraces = false) {D : va_G} {G : CY} {ad : Nat → Nat} {B0 : Nat} (hA : adOK B0 ad) (σ : Nat → Nat → Int32) (a : Int32) (hO : okS σ) : vx_Met l yX6_meanMoves wsX6_meanMoves { frames := 7, cells := 2, slots := 12, locals := 117 } (va_Pc [.ref (ad (270)), .int a] (Hx XEs D G ad B0 σ)) (va_Qf (fun (r : UInt32) (z : Nat → Nat → Int32) => ((Sum.inl r, z) : RTF) = f6_meanMoves σ a ∧ okS z) (fun (z : Nat → Nat → Int32) => Ho D G ad z) (AA B0)) (XX D G ad B0 (fun E z => ((Sum.inr E, z) : RTF) = f6_meanMoves σ a ∧ okS z)) 2 12 (AA B0) := by
  refine vx_ofW (cc := cX6_meanMoves) (maxL := 3) (ret := (some .float)) (by decide) rfl ?_
  intro p e s m args below meth c s₁ B hml htab hv
  obtain ⟨rfl, ⟨hP, hK, hN⟩, hT, hL, adK, adV, hG, hR⟩ := hv
  have hx := B.exec
  have hb := B.bytes
  have hr := B.returns
  have hts := atoms_spec (ws := wsX6_meanMoves) B.pre
  have hown : s.vm.findClass RX6 = some m.cls := findClass_of_methodNamed B.named
  have hlocks := B.notSynchronized
  have inX0 : ∀ w ∈ wsX00, w ∈ wsX6_meanMoves := (fun w h => List.mem_cons_of_mem _ (List.mem_append_left _ (List.mem_append_left _ (List.mem_append_left _ (List.mem_append_right _ h)))))
  have inX5 : ∀ w ∈ wsX50, w ∈ wsX6_meanMoves := (fun w h => List.mem_cons_of_mem _ (List.mem_append_left _ (List.mem_append_left _ (List.mem_append_left _ (List.mem_append_left _ (List.mem_append_right _ h))))))
  have inX6 : ∀ w ∈ wsX60, w ∈ wsX6_meanMoves := (fun w h => List.mem_cons_of_mem _ (List.mem_append_left _ (List.mem_append_left _ (List.mem_append_left _ (List.mem_append_left _ (List.mem_append_left _ (List.mem_append_right _ h)))))))
  have hP : va_P D vwCl (pool G ad σ) s.heap := hP
  have hS : va_S (AA B0) s.heap s.heap [] := va_S.rf
  have hl := lv_entry ([.ref (ad (270)), .int a]) (n := 3) (Nat.le_of_ble_eq_true rfl)
  rw [lg_entry_eq]
  generalize (lg_sl ([.ref (ad (270)), .int a]) ++ List.replicate (3 - (lg_sl ([.ref (ad (270)), .int a])).length) Slot.unset).toArray = ls at hl ⊢
  have hl : lv_has ls 3 [(0, .ref (ad (270))), (1, .int a)] := hl
  obtain ⟨FF, hFF⟩ : ∃ z, z = f6_meanMoves σ a := ⟨_, rfl⟩
  have hF := hFF.symm
  rw [f6_meanMoves] at hF
  refine lv_aload_n hx hb dX6_meanMoves_0 rfl (lv_at hl 0 rfl) ?_
  refine lv_iload_n hx hb dX6_meanMoves_1 rfl (lv_at hl 1 rfl) ?_
  refine vx_callv (vx_runV (As := [.int a]) (rest := []) ⟨hx, hb, hml, hown, hts⟩ (c6_requireBody l hl0 hA σ a hO) (cwV 1 hts gX6_meanMoves_X6_requireBody rfl rfl rfl hd_X6_requireBodyV ⟨Nat.le_of_ble_eq_true rfl, Nat.le_of_ble_eq_true rfl⟩) ⟨hx_blind, va_recv hK hP (ci := 8) (q0 := 270) rfl g_270, hx_pre hK hN hT hL hG hR hS hP⟩ rfl rfl hl.1 rfl (lv_room (Nat.le_of_ble_eq_true rfl)) dX6_meanMoves_2 ⟨Nat.le_of_ble_eq_true rfl, Nat.le_of_ble_eq_true rfl⟩) hS (fun _ _ h => h) (fun _ h => h) (fun _ _ h => h) (fun E9 ce9 q9 z9 t9 H9 locs9 ht9 hvm9 hw9 hB9 hz9 hk9 hS9 hce9 hcv9 hcl9 => ?_) (fun u9 t H locs ht hvm hw9 hB hz1 hk1 hS => ?_)
  · obtain ⟨eqx, okx⟩ := hw9
    obtain ⟨rfl, hBx⟩ := hB9
    have hF := bndxF_x eqx hF
    exact vx_out (fun x hx => (htab x hx).elim) hlocks hce9 hcv9 hcl9 (fun t8 h8 _ => ⟨z9, ⟨hF.trans hFF, okx⟩, ⟨rfl, ho_of h8 (ho_at ht9 hBx)⟩, hS9.F h8⟩) hS9.2.2 (Nat.le_of_ble_eq_true rfl) (Nat.le_of_ble_eq_true rfl)
  have hP := ho_at ht hB
  obtain ⟨eq2, ok9⟩ := hw9
  obtain ⟨σ2, e_σ2⟩ : ∃ z, z = u9 := ⟨_, rfl⟩
  rw [← e_σ2] at hP eq2 ok9
  have hO := ok9
  have hF := bndxF_s eq2 hF
  have hi9 : vp_in a 4 := in_body hO eq2
  refine lv_aload_n hx hb dX6_meanMoves_5 rfl (lv_at hl 0 rfl) ?_
  refine va_get (D := D) (ci := 8) (C := RX6) (T := TX6) (N := 9) hx hb hts inX6 hown hK hP (270) g_270 rfl 0 (by decide) (hts (.fieldLink RX6 12 "TileRunners" "world" "LTileRunners$World;") (List.mem_of_getElem? (i := 3) rfl)) (fun _ h9 => h9) rfl dX6_meanMoves_6 ?_
  refine va_get (D := D) (ci := 7) (C := RX5) (T := TX5) (N := 7) hx hb hts inX5 hown hK hP (18*0+0) (g_o (by decide)) rfl 1 (by decide) (hts (.fieldLink RX6 102 "TileRunners$World" "bodies" "[LTileRunners$Body;") (List.mem_of_getElem? (i := 4) rfl)) (fun _ h9 => h9) rfl dX6_meanMoves_9 ?_
  refine lv_iload_n hx hb dX6_meanMoves_12 rfl (lv_at hl 1 rfl) ?_
  have hi_13 : a.toNatClampNeg < 4 := in_lt (i := a) hi9
  refine pqald (t0 := 2) (i := a) hx hb hK hP (c_bs (by decide)) rfl hi9 dX6_meanMoves_13 ?_
  refine lv_astore_n (lv' := [(2, .ref (ad (18*0+(6+2*a.toNatClampNeg)))), (0, .ref (ad (270))), (1, .int a)]) hx hb dX6_meanMoves_14 rfl hl (by decide) rfl (fun ls hl => ?_)
  refine lv_aload_n hx hb dX6_meanMoves_15 rfl (lv_at hl 0 rfl) ?_
  refine va_get (D := D) (ci := 2) (C := RX0) (T := TX0) (N := 16) hx hb hts inX0 hown hK hP (18*0+(6+2*a.toNatClampNeg)) (g_b (by decide) hi_13) rfl 14 (by decide) (hts (.fieldLink RX6 242 "TileRunners$Body" "ticks" "I") (List.mem_of_getElem? (i := 5) rfl)) (fun _ h9 => h9) rfl dX6_meanMoves_16 ?_
  refine lv_if_ne (tgt := 32) hx hb dX6_meanMoves_19 (by decide) (fun c19 => ?_) (fun c19 => ?_)
  · have hF := iff_ c19 hF
    refine lv_aload_n hx hb dX6_meanMoves_32 rfl (lv_at hl 0 rfl) ?_
    refine va_get (D := D) (ci := 2) (C := RX0) (T := TX0) (N := 16) hx hb hts inX0 hown hK hP (18*0+(6+2*a.toNatClampNeg)) (g_b (by decide) hi_13) rfl 15 (by decide) (hts (.fieldLink RX6 239 "TileRunners$Body" "statistics" "[I") (List.mem_of_getElem? (i := 6) rfl)) (fun _ h9 => h9) rfl dX6_meanMoves_33 ?_
    refine lv_iconst (v := 4) hx hb dX6_meanMoves_36 (by decide) ?_
    refine pald (n := 7) (o := 336+24*a.toNatClampNeg+14) (t := 336+24*a.toNatClampNeg+18) (i := 4) hx hb hK hP (g_s (by decide) hi_13) (vp_in_iff.mpr (by decide)) rfl dX6_meanMoves_37 ?_
    refine lv_i2f hx hb dX6_meanMoves_38 ?_
    refine lv_aload_n hx hb dX6_meanMoves_39 rfl (lv_at hl 0 rfl) ?_
    refine va_get (D := D) (ci := 2) (C := RX0) (T := TX0) (N := 16) hx hb hts inX0 hown hK hP (18*0+(6+2*a.toNatClampNeg)) (g_b (by decide) hi_13) rfl 14 (by decide) (hts (.fieldLink RX6 242 "TileRunners$Body" "ticks" "I") (List.mem_of_getElem? (i := 5) rfl)) (fun _ h9 => h9) rfl dX6_meanMoves_40 ?_
    refine lv_i2f hx hb dX6_meanMoves_43 ?_
    refine lv_fdiv hx hb dX6_meanMoves_44 (fl_vn32 (fl_div c19)) ?_
    exact vx_ret (W.widen (Nat.le_of_ble_eq_true rfl) (Nat.le_of_ble_eq_true rfl) (W.fret (v := (FP.fdiv (FP.i2f (σ2 0 (336+24*a.toNatClampNeg+18))) (FP.i2f (σ2 0 (336+24*a.toNatClampNeg+21))))) hx hb hr (fun t ht hW => ⟨⟨(FP.fdiv (FP.i2f (σ2 0 (336+24*a.toNatClampNeg+18))) (FP.i2f (σ2 0 (336+24*a.toNatClampNeg+21)))), σ2, rfl, ⟨hF.trans hFF, hO⟩, ho_of ht hP⟩, hS.F ht⟩) hS.2.2 dX6_meanMoves_45))
  · have hF := ift c19 hF
    obtain ⟨sa9, hsa9⟩ := hL.1 (247, "no tick has passed") (by decide)
    exact vx_throwS (own := RX6) (cls := "java/lang/ArithmeticException") (names := ["java/lang/RuntimeException", "java/lang/Exception"]) (ik := 245) (is := 247) (ic := 249) (text := "no tick has passed") (sa := sa9) hx hb hl0 hown (by decide) (by decide) (hts (.classLink RX6 245 "java/lang/ArithmeticException") (List.mem_of_getElem? (i := 1) rfl)) (hts (.initialized "java/lang/ArithmeticException") (List.mem_of_getElem? (i := 2) rfl)) hsa9 (hx_hat hL (by decide) (fun w h => hts w ((fun w h => List.mem_cons_of_mem _ (List.mem_append_left _ (List.mem_append_left _ (List.mem_append_right _ h)))) w h)) xa_251) xg_251 hT.1 hT.2 hS (hl.1.trans hml.symm) dX6_meanMoves_22 dX6_meanMoves_25 dX6_meanMoves_26 dX6_meanMoves_28 dX6_meanMoves_31 (fun x hx => (htab x hx).elim) (Nat.le_of_ble_eq_true rfl) (Nat.le_of_ble_eq_true rfl) (Nat.le_of_ble_eq_true rfl) (Nat.le_of_ble_eq_true rfl) hlocks (fun t9 a9 h1 h2 => ⟨("java/lang/ArithmeticException", σ2), ⟨hF.trans hFF, hO⟩, ⟨rfl, (hx_out hP hS h1 h2).1⟩, (hx_out hP hS h1 h2).2⟩) hS.2.2 (Nat.le_of_ble_eq_true rfl) (Nat.le_of_ble_eq_true rfl)
theorem hd_X6_meanMovesV : yX6_meanMoves.cls = RX6 ∧ yX6_meanMoves.cls ≠ "java/lang/invoke/MethodHandle" ∧ yX6_meanMoves.cls ≠ "java/lang/invoke/VarHandle" ∧ (parseMethodDescriptor yX6_meanMoves.desc).map (fun d => d.parameters.length) = some 1 := by decide +kernel
def f7_meanMoves (u : (Nat → Int32)) (a : Int32) : UInt32 × (Nat → Int32) :=
  bnd (f7_isBody u a) fun r2 => if r2 = 0 then (bnd2 (f7_fails u 1) fun r10 u10 => ((FP.i2f r10), u10)) else (bnd (f7_of u a 21) fun r19 => if r19 = 0 then (bnd2 (f7_fails u 2) fun r27 u27 => ((FP.i2f r27), u27)) else (bnd (va_up u (490) 0) fun u34 => bnd (f7_of u34 a 18) fun r41 => bnd (f7_of u34 a 21) fun r49 => ((FP.fdiv (FP.i2f r41) (FP.i2f r49)), u34)))
set_option maxHeartbeats 4000000 in
set_option maxRecDepth 100000 in
theorem c7_meanMoves (l : Launch) {D : va_G} {G : CY} {ad : Nat → Nat} {B0 : Nat} (hA : adOK B0 ad) (σ : Nat → Nat → Int32) (u : Nat → Int32) (a : Int32) (hO : okM u) : Met l yX7_meanMoves wsX7_meanMoves { frames := 1, cells := 0, slots := 0, locals := 22 } (va_Pc [.ref (ad (279)), .int a] (Hp D G ad (va_up σ 16 u))) (va_Qf (fun (r : UInt32) (z : Nat → Int32) => (r, z) = f7_meanMoves u a ∧ okM z) (fun (z : Nat → Int32) => Ho D G ad (va_up σ 16 z)) (AA B0)) 0 0 (AA B0) := by
  refine Met.ofW (cc := cX7_meanMoves) (maxL := 2) (ret := (some .float)) (by decide) rfl ?_
  intro p e s m args below meth c s₁ B hml hv
  obtain ⟨rfl, hP, hK, hN⟩ := hv
  have hx := B.exec
  have hb := B.bytes
  have hr := B.returns
  have hts := atoms_spec (ws := wsX7_meanMoves) B.pre
  have hown : s.vm.findClass RX7 = some m.cls := findClass_of_methodNamed B.named
  have hlocks := B.notSynchronized
  have inX7 : ∀ w ∈ wsX70, w ∈ wsX7_meanMoves := (fun w h => List.mem_cons_of_mem _ (List.mem_append_left _ (List.mem_append_right _ h)))
  have hP : va_P D vwCl (pool G ad (va_up σ 16 u)) s.heap := hP
  have hS : va_S (AA B0) s.heap s.heap [] := va_S.rf
  have hl := lv_entry ([.ref (ad (279)), .int a]) (n := 2) (Nat.le_of_ble_eq_true rfl)
  rw [lg_entry_eq]
  generalize (lg_sl ([.ref (ad (279)), .int a]) ++ List.replicate (2 - (lg_sl ([.ref (ad (279)), .int a])).length) Slot.unset).toArray = ls at hl ⊢
  have hl : lv_has ls 2 [(0, .ref (ad (279))), (1, .int a)] := hl
  obtain ⟨FF, hFF⟩ : ∃ z, z = f7_meanMoves u a := ⟨_, rfl⟩
  have hF := hFF.symm
  rw [f7_meanMoves] at hF
  refine lv_aload_n hx hb dX7_meanMoves_0 rfl (lv_at hl 0 rfl) ?_
  refine lv_iload_n hx hb dX7_meanMoves_1 rfl (lv_at hl 1 rfl) ?_
  refine va_calli (va_runV (As := [.int a]) (rest := []) ⟨hx, hb, hml, hown, hts⟩ (c7_isBody l hA σ u a ) (cwV 1 hts gX7_meanMoves_X7_isBody rfl rfl rfl hd_X7_isBodyV ⟨Nat.le_of_ble_eq_true rfl, Nat.le_of_ble_eq_true rfl⟩) ⟨hp_blind, va_recv hK hP (ci := 9) (q0 := 279) rfl c_279, hp_pre hK hN hP⟩ rfl rfl hl.1 rfl (lv_room (Nat.le_of_ble_eq_true rfl)) dX7_meanMoves_2 ⟨Nat.zero_le _, Nat.zero_le _⟩) hS (fun _ _ h => h) (fun _ h => h) (fun r2 _ t H locs ht hvm hw9 hB hz1 hk1 hS => ?_)
  have hP := ho_at ht hB
  obtain ⟨eq2, hb_r2⟩ := hw9
  have hF := bnd_s eq2 hF
  refine lv_if_ne (tgt := 15) hx hb dX7_meanMoves_5 (by decide) (fun c5 => ?_) (fun c5 => ?_)
  · have hF := iff_ c5 hF
    have hba := body_in hO.1 eq2 c5
    refine lv_aload_n hx hb dX7_meanMoves_15 rfl (lv_at hl 0 rfl) ?_
    refine lv_iload_n hx hb dX7_meanMoves_16 rfl (lv_at hl 1 rfl) ?_
    refine lv_bipush (v := 21) hx hb dX7_meanMoves_17 (by decide) ?_
    refine va_calli (va_runV (As := [.int a, .int 21]) (rest := []) ⟨hx, hb, hml, hown, hts⟩ (c7_of l hA σ u a 21 (vp_in_iff.mpr (by decide)) hba) (cwV 2 hts gX7_meanMoves_X7_of rfl rfl rfl hd_X7_ofV ⟨Nat.le_of_ble_eq_true rfl, Nat.le_of_ble_eq_true rfl⟩) ⟨hp_blind, va_recv hK hP (ci := 9) (q0 := 279) rfl c_279, hp_pre hK hN hP⟩ rfl rfl hl.1 rfl (lv_room (Nat.le_of_ble_eq_true rfl)) dX7_meanMoves_19 ⟨Nat.zero_le _, Nat.zero_le _⟩) hS (fun _ _ h => h) (fun _ h => h) (fun r19 _ t H locs ht hvm hw9 hB hz1 hk1 hS => ?_)
    have hP := ho_at ht hB
    have eq19 := hw9
    have hF := bnd_s eq19 hF
    refine lv_if_ne (tgt := 32) hx hb dX7_meanMoves_22 (by decide) (fun c22 => ?_) (fun c22 => ?_)
    · have hF := iff_ c22 hF
      refine lv_aload_n hx hb dX7_meanMoves_32 rfl (lv_at hl 0 rfl) ?_
      refine lv_iconst (v := 0) hx hb dX7_meanMoves_33 (by decide) ?_
      refine pput16 hx hb hts inX7 tyX7 tyX7_ok nmX7 hown hK hP hA hS (j := 279) (by decide) (by decide) rfl rfl 0 (by decide) (hts (.fieldLink RX7 45 "TileRunnersModel" "thrown" "I") (List.mem_of_getElem? (i := 1) rfl)) (fun _ h9 => h9) rfl (tyX7_ok 0 (by decide)) rfl rfl (Nat.le_of_ble_eq_true rfl) (490) (by decide) (setM_0) dX7_meanMoves_34 (fun u9 H locs eu9 hP hS => ?_)
      obtain ⟨u34, e_u34⟩ : ∃ z, z = u9 := ⟨_, rfl⟩
      rw [← e_u34] at hP eu9
      have hF := bnd_s eu9 hF
      have hO := okM_up eu9 hO (by omega) (by omega) (by omega)
      refine lv_aload_n hx hb dX7_meanMoves_37 rfl (lv_at hl 0 rfl) ?_
      refine lv_iload_n hx hb dX7_meanMoves_38 rfl (lv_at hl 1 rfl) ?_
      refine lv_bipush (v := 18) hx hb dX7_meanMoves_39 (by decide) ?_
      refine va_calli (va_runV (As := [.int a, .int 18]) (rest := []) ⟨hx, hb, hml, hown, hts⟩ (c7_of l hA σ u34 a 18 (vp_in_iff.mpr (by decide)) hba) (cwV 2 hts gX7_meanMoves_X7_of rfl rfl rfl hd_X7_ofV ⟨Nat.le_of_ble_eq_true rfl, Nat.le_of_ble_eq_true rfl⟩) ⟨hp_blind, va_recv hK hP (ci := 9) (q0 := 279) rfl c_279, hp_pre hK hN hP⟩ rfl rfl hl.1 rfl (lv_room (Nat.le_of_ble_eq_true rfl)) dX7_meanMoves_41 ⟨Nat.zero_le _, Nat.zero_le _⟩) hS (fun _ _ h => h) (fun _ h => h) (fun r41 _ t H locs ht hvm hw9 hB hz1 hk1 hS => ?_)
      have hP := ho_at ht hB
      have eq41 := hw9
      have hF := bnd_s eq41 hF
      refine lv_i2f hx hb dX7_meanMoves_44 ?_
      refine lv_aload_n hx hb dX7_meanMoves_45 rfl (lv_at hl 0 rfl) ?_
      refine lv_iload_n hx hb dX7_meanMoves_46 rfl (lv_at hl 1 rfl) ?_
      refine lv_bipush (v := 21) hx hb dX7_meanMoves_47 (by decide) ?_
      refine va_calli (va_runV (As := [.int a, .int 21]) (rest := [.float (FP.i2f r41)]) ⟨hx, hb, hml, hown, hts⟩ (c7_of l hA σ u34 a 21 (vp_in_iff.mpr (by decide)) hba) (cwV 2 hts gX7_meanMoves_X7_of rfl rfl rfl hd_X7_ofV ⟨Nat.le_of_ble_eq_true rfl, Nat.le_of_ble_eq_true rfl⟩) ⟨hp_blind, va_recv hK hP (ci := 9) (q0 := 279) rfl c_279, hp_pre hK hN hP⟩ rfl rfl hl.1 rfl (lv_room (Nat.le_of_ble_eq_true rfl)) dX7_meanMoves_49 ⟨Nat.zero_le _, Nat.zero_le _⟩) hS (fun _ _ h => h) (fun _ h => h) (fun r49 _ t H locs ht hvm hw9 hB hz1 hk1 hS => ?_)
      have hP := ho_at ht hB
      have eq49 := hw9
      have hF := bnd_s eq49 hF
      refine lv_i2f hx hb dX7_meanMoves_52 ?_
      refine lv_fdiv hx hb dX7_meanMoves_53 (mean_nn hba c22 eq19 eu9 eq49) ?_
      exact W.fret (v := (FP.fdiv (FP.i2f r41) (FP.i2f r49))) hx hb hr (fun t ht hW => ⟨⟨(FP.fdiv (FP.i2f r41) (FP.i2f r49)), u34, rfl, ⟨hF.trans hFF, hO⟩, ho_of ht hP⟩, hS.F ht⟩) hS.2.2 dX7_meanMoves_54
    · have hF := ift c22 hF
      refine lv_aload_n hx hb dX7_meanMoves_25 rfl (lv_at hl 0 rfl) ?_
      refine lv_iconst (v := 2) hx hb dX7_meanMoves_26 (by decide) ?_
      refine va_calli (va_runV (As := [.int 2]) (rest := []) ⟨hx, hb, hml, hown, hts⟩ (c7_fails l hA σ u 2 hO) (cwV 1 hts gX7_meanMoves_X7_fails rfl rfl rfl hd_X7_failsV ⟨Nat.le_of_ble_eq_true rfl, Nat.le_of_ble_eq_true rfl⟩) ⟨hp_blind, va_recv hK hP (ci := 9) (q0 := 279) rfl c_279, hp_pre hK hN hP⟩ rfl rfl hl.1 rfl (lv_room (Nat.le_of_ble_eq_true rfl)) dX7_meanMoves_27 ⟨Nat.zero_le _, Nat.zero_le _⟩) hS (fun _ _ h => h) (fun _ h => h) (fun r27 u9 t H locs ht hvm hw9 hB hz1 hk1 hS => ?_)
      have hP := ho_at ht hB
      obtain ⟨eq27, ok9⟩ := hw9
      obtain ⟨u27, e_u27⟩ : ∃ z, z = u9 := ⟨_, rfl⟩
      rw [← e_u27] at hP eq27 ok9
      have hO := ok9
      have hF := bnd2_s eq27 hF
      refine lv_i2f hx hb dX7_meanMoves_30 ?_
      exact W.fret (v := (FP.i2f r27)) hx hb hr (fun t ht hW => ⟨⟨(FP.i2f r27), u27, rfl, ⟨hF.trans hFF, hO⟩, ho_of ht hP⟩, hS.F ht⟩) hS.2.2 dX7_meanMoves_31
  · have hF := ift c5 hF
    refine lv_aload_n hx hb dX7_meanMoves_8 rfl (lv_at hl 0 rfl) ?_
    refine lv_iconst (v := 1) hx hb dX7_meanMoves_9 (by decide) ?_
    refine va_calli (va_runV (As := [.int 1]) (rest := []) ⟨hx, hb, hml, hown, hts⟩ (c7_fails l hA σ u 1 hO) (cwV 1 hts gX7_meanMoves_X7_fails rfl rfl rfl hd_X7_failsV ⟨Nat.le_of_ble_eq_true rfl, Nat.le_of_ble_eq_true rfl⟩) ⟨hp_blind, va_recv hK hP (ci := 9) (q0 := 279) rfl c_279, hp_pre hK hN hP⟩ rfl rfl hl.1 rfl (lv_room (Nat.le_of_ble_eq_true rfl)) dX7_meanMoves_10 ⟨Nat.zero_le _, Nat.zero_le _⟩) hS (fun _ _ h => h) (fun _ h => h) (fun r10 u9 t H locs ht hvm hw9 hB hz1 hk1 hS => ?_)
    have hP := ho_at ht hB
    obtain ⟨eq10, ok9⟩ := hw9
    obtain ⟨u10, e_u10⟩ : ∃ z, z = u9 := ⟨_, rfl⟩
    rw [← e_u10] at hP eq10 ok9
    have hO := ok9
    have hF := bnd2_s eq10 hF
    refine lv_i2f hx hb dX7_meanMoves_13 ?_
    exact W.fret (v := (FP.i2f r10)) hx hb hr (fun t ht hW => ⟨⟨(FP.i2f r10), u10, rfl, ⟨hF.trans hFF, hO⟩, ho_of ht hP⟩, hS.F ht⟩) hS.2.2 dX7_meanMoves_14
theorem hd_X7_meanMovesV : yX7_meanMoves.cls = RX7 ∧ yX7_meanMoves.cls ≠ "java/lang/invoke/MethodHandle" ∧ yX7_meanMoves.cls ≠ "java/lang/invoke/VarHandle" ∧ (parseMethodDescriptor yX7_meanMoves.desc).map (fun d => d.parameters.length) = some 1 := by decide +kernel
