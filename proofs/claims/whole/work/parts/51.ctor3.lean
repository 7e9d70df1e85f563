/-! CONSTRUCTOR of History -/
def w1p (G : CY) (h0 n : Nat) : Nat → va_E := fun t => if t = 0 then .inr (3, [.ref (h0 + 1), .int 0, .int 0]) else if t = 1 then .inl (G.2.2.2.2, 12, .inr (.inr (.inr (.inr (fun q => if q < n then some (h0+(2+18*q)) else none))))) else w5 G (h0 + (2+18*((t-2)/18))) ((t-2)%18)
def w1 (G : CY) (h0 : Nat) : Nat → va_E := w1p G h0 12
theorem w1_st {D : va_G} {G : CY} {H : Heap} {h0 j t : Nat} (hj : j < 12) (ht : t < 2+18*j+18) (h : va_at D vwCl (h0 + t, va_up (cj (va_up (w1p G h0 j) (2+18*j) (.inr (7, [.null, .null, .null, .null, .int 0, .int 0, .int 0]))) (2+18*j) (w5 G (h0 + (2+18*j)))) 1 (.inl (G.2.2.2.2, 12, .inr (.inr (.inr (.inr (va_up (fun q => if q < j then some (h0+(2+18*q)) else none) (nI j).toNatClampNeg (some (h0 + (2+18*j))))))))) t) H) : va_at D vwCl (h0 + t, w1p G h0 (j+1) t) H := by
  by_cases e : t = 1
  · subst e
    rw [va_up_self] at h
    exact refs_s (g := fun q => h0+(2+18*q)) (by omega) h
  · rw [va_up_ne _ _ e] at h
    unfold cj at h
    by_cases e2 : t < 2+18*j
    · rw [if_pos e2, va_up_ne _ _ (by omega)] at h
      unfold w1p at h ⊢
      by_cases e0 : t = 0
      · rw [if_pos e0] at h ⊢; exact h
      · rw [if_neg e0, if_neg e] at h ⊢; exact h
    · rw [if_neg e2] at h
      unfold w1p
      rw [if_neg (by omega), if_neg e, show (t-2)/18 = j by omega, show (t-2)%18 = t - (2+18*j) by omega]
      exact h
set_option maxHeartbeats 4000000 in
set_option maxRecDepth 100000 in
theorem n1_init (l : Launch) {D : va_G} {G : CY} (h0 : Nat) : Met l yX1_init wsX1_init { frames := 3, cells := 217, slots := 5724, locals := 53 } (va_Pc [.ref h0] (Hc D G h0 (.inr (3, [.null, .int 0, .int 0])))) (va_Qv (fun _ : Unit => True) (fun _ t => cP D h0 218 (w1 G h0) t.heap) (AC h0)) 217 5724 (AC h0) := by
  refine Met.ofW (cc := cX1_init) (maxL := 2) (ret := none) (by decide) rfl ?_
  intro p e s m args below meth c s₁ B hml hv
  obtain ⟨rfl, hP, hK, hN⟩ := hv
  have hx := B.exec
  have hb := B.bytes
  have hr := B.returns
  have hts := atoms_spec (ws := wsX1_init) B.pre
  have hown : s.vm.findClass RX1 = some m.cls := findClass_of_methodNamed B.named
  have hlocks := B.notSynchronized
  have hin : meth.name = "<init>" := (name_of_methodNamed B.named B.method).1
  have inX1 : ∀ w ∈ wsX10, w ∈ wsX1_init := (fun w h => List.mem_cons_of_mem _ (List.mem_append_left _ (List.mem_append_left _ (List.mem_append_left _ (List.mem_append_left _ (List.mem_append_right _ h))))))
  have inX5 : ∀ w ∈ wsX50, w ∈ wsX1_init := (fun w h => List.mem_cons_of_mem _ (List.mem_append_left _ (List.mem_append_left _ (List.mem_append_left _ (List.mem_append_right _ h)))))
  have hS : va_S (AC h0) s.heap s.heap [] := va_S.rf
  have hl := lv_entry ([.ref h0]) (n := 2) (Nat.le_of_ble_eq_true rfl)
  rw [lg_entry_eq]
  generalize (lg_sl ([.ref h0]) ++ List.replicate (2 - (lg_sl ([.ref h0])).length) Slot.unset).toArray = ls at hl ⊢
  have hl : lv_has ls 2 [(0, .ref h0)] := hl
  refine lv_aload_n hx hb dX1_init_0 rfl (lv_at hl 0 rfl) ?_
  refine W.objInit hx hb hown (hts (.methodLink RX1 3 objectInit) (List.mem_of_getElem? (i := 1) rfl)) (hts (.instanceMethod objectInit) (List.mem_of_getElem? (i := 2) rfl)) (hts _ (List.mem_of_getElem? (i := 3) rfl)) rfl (by rw [hml]; exact hl.1) rfl dX1_init_1 (Nat.le_of_ble_eq_true rfl) (Nat.le_of_ble_eq_true rfl) ?_
  refine W.eq (g2 := F0 m 4 ls []) rfl ?_
  refine lv_aload_n hx hb dX1_init_4 rfl (lv_at hl 0 rfl) ?_
  refine lv_bipush (v := 12) hx hb dX1_init_5 (by decide) ?_
  refine c_newq (C := RX5) (cA := G.2.2.2.2) (t0 := 4) hx hb hown (hts (.classLink RX1 9 RX5) (List.mem_of_getElem? (i := 4) rfl)) hN.2.2.1 hK rfl hP hS (n := 12) (N := 12) (by decide) (by decide) (Nat.le_of_ble_eq_true rfl) (Nat.le_of_ble_eq_true rfl) (Nat.le_of_ble_eq_true rfl) dX1_init_7 (fun H hP hS => ?_)
  refine c_putF (ci := 3) (fs := [.null, .int 0, .int 0]) (v := .ref (h0 + 1)) (ty := .array (.object "TileRunners$World")) (C := RX1) (T := TX1) (N := 3) hx hb hts inX1 tyX1 tyX1_ok nmX1 hown hK hP hS 0 (by decide) rfl rfl rfl 0 (by decide) (hts (.fieldLink RX1 11 "TileRunners$History" "worlds" "[LTileRunners$World;") (List.mem_of_getElem? (i := 5) rfl)) (fun _ h9 => h9) rfl hin rfl (by decide +kernel) rfl rfl (Nat.le_of_ble_eq_true rfl) dX1_init_10 (fun H locs hP hS => ?_)
  refine lv_iconst (v := 0) hx hb dX1_init_13 (by decide) ?_
  refine lv_istore_n (lv' := [(1, .int 0), (0, .ref h0)]) hx hb dX1_init_14 rfl hl (by decide) rfl (fun ls hl => ?_)
  have hP : cP D h0 2 (w1p G h0 0) H := hP.cg (fun t ht h => by
    rcases (show t = 0 ∨ t = 1 by omega) with rfl | rfl
    · exact h
    · exact cell_q (fun q _ => (if_neg (Nat.not_lt_zero q)).symm) h)
  have L1 : ∀ (n j : Nat) (H : Heap) (locs : List Loc) (ls : Array Slot), j + n = 12 → cP D h0 (2+18*j) (w1p G h0 j) H → va_S (AC h0) s.heap H locs → lv_has ls 2 [(1, .int (nI j)), (0, .ref h0)] → W p l e (headSpec wsX1_init { frames := 3, cells := 217, slots := 5724, locals := 53 }).room s m ([.ref h0] : List Value).toArray below meth c H locs (1 + 18*j) (12 + 476*j) (MQ below (va_Qv (fun _ : Unit => True) (fun _ t => cP D h0 218 (w1 G h0) t.heap) (AC h0)) ([.ref h0] : List Value).toArray s 217 5724 (AC h0)) (F0 m 15 ls []) := by
    intro n
    induction n with
    | zero =>
      intro j H locs ls hj hP hS hl
      have hj : j = 12 := by omega
      subst hj
      refine lv_iload_n hx hb dX1_init_15 rfl (lv_at hl 0 rfl) ?_
      refine lv_bipush (v := 12) hx hb dX1_init_16 (by decide) ?_
      refine lv_icmp_ge (tgt := 40) hx hb dX1_init_18 (by decide) (fun c18 => ?_) (fun c18 => absurd (by decide) c18)
      exact W.vret hx hb hr (fun t ht hW => ⟨⟨(), rfl, trivial, by show cP D h0 218 (w1p G h0 12) t.heap; rw [ht]; exact hP⟩, hS.F ht⟩) hS.2.2 dX1_init_40
    | succ n ih =>
      intro j H locs ls hj hP hS hl
      refine lv_iload_n hx hb dX1_init_15 rfl (lv_at hl 0 rfl) ?_
      refine lv_bipush (v := 12) hx hb dX1_init_16 (by decide) ?_
      refine lv_icmp_ge (tgt := 40) hx hb dX1_init_18 (by decide) (fun c18 => ?_) (fun c18 => ?_)
      · exfalso
        have t12 : ((12 : Int32)).toInt = 12 := rfl
        rw [ti_le, t12, nI_toInt (by omega)] at c18
        omega
      refine lv_aload_n hx hb dX1_init_21 rfl (lv_at hl 1 rfl) ?_
      refine va_get (D := D) (ci := 3) (C := RX1) (T := TX1) (N := 3) (v := .ref (h0 + 1)) hx hb hts inX1 hown hK (hP.one 0 (by omega) (x := .inr (3, [.ref (h0 + 1), .int 0, .int 0])) rfl) 0 rfl rfl 0 (by decide) (hts (.fieldLink RX1 11 "TileRunners$History" "worlds" "[LTileRunners$World;") (List.mem_of_getElem? (i := 5) rfl)) (fun _ h9 => h9) rfl dX1_init_22 ?_
      refine lv_iload_n hx hb dX1_init_25 rfl (lv_at hl 0 rfl) ?_
      refine c_new (ci := 7) (fs := [.null, .null, .null, .null, .int 0, .int 0, .int 0]) (C := RX5) (T := TX5) (N := 7) hx hb hts inX5 tyX5 tyX5_ok hown (hts (.classLink RX1 9 RX5) (List.mem_of_getElem? (i := 4) rfl)) (hts (.instantiable RX5 7) (List.mem_of_getElem? (i := 6) rfl)) (hts (.initialized RX5) (List.mem_of_getElem? (i := 7) rfl)) hK hP hS rfl (fun j hj => by rcases (show j = 0 ∨ j = 1 ∨ j = 2 ∨ j = 3 ∨ j = 4 ∨ j = 5 ∨ j = 6 by omega) with rfl | rfl | rfl | rfl | rfl | rfl | rfl <;> rfl) (by show 1 + 18*j + 1 ≤ 217; omega) (by show 12 + 476*j + 7 ≤ 5724; omega) dX1_init_26 (fun H hP hS => ?_)
      refine lv_dup hx hb dX1_init_29 rfl ?_
      have hPc := hP.last (b := 2+18*j) (x := .inr (7, [.null, .null, .null, .null, .int 0, .int 0, .int 0])) (va_up_self _ _ _)
      refine va_callv (va_runI (As := []) (rest := [.ref (h0 + (2+18*j)), .int (nI j), .ref (h0 + 1)]) ⟨hx, hb, hml, hown, hts⟩ (n5_init l (D := D) (G := G) (h0 + (2+18*j))) (cwI 0 hts gX1_init_X5_init rfl rfl rfl (hts (.initialized RX5) (List.mem_of_getElem? (i := 7) rfl)) (hts (.methodLink RX1 17 yX5_init) (List.mem_of_getElem? (i := 8) rfl)) (hts (.instanceMethod yX5_init) (List.mem_of_getElem? (i := 9) rfl)) rfl (by decide +kernel) ⟨(Nat.le_of_ble_eq_true rfl), (Nat.le_of_ble_eq_true rfl)⟩) ⟨hc_blind, hc_pre hK hN hPc⟩ rfl rfl hl.1 rfl (lv_room (Nat.le_of_ble_eq_true rfl)) dX1_init_30 ⟨by show 1 + 18*j + 1 + 17 ≤ 217; omega, by show 12 + 476*j + 7 + 469 ≤ 5724; omega⟩) hS (fun q _ h => Nat.le_trans (Nat.le_add_right _ _) h) (fun q h => Nat.le_trans (Nat.le_add_right _ _) h) (fun u9 t H locs ht hvm hw9 hB hz1 hk1 hS => ?_)
      have hB : cP D (h0 + (2+18*j)) 18 (w5 G (h0 + (2+18*j))) H := by rw [← ht]; exact hB
      have hP := hP.call (b := 2+18*j) hB hk1
      refine c_astq (q0 := 1) (t0 := 4) (qk := 2+18*j) (ci := 7) (r := (RX5, TX5, 7)) (cA := G.2.2.2.2) (n := 12) (g := fun q => if q < j then some (h0+(2+18*q)) else none) (vs := [.ref ((h0 + (2+18*j)) + (0+1)), .ref ((h0 + (2+18*j)) + (0+3)), .ref ((h0 + (2+18*j)) + (0+4)), .ref ((h0 + (2+18*j)) + (0+5)), .int (u0 464), .int (u0 465), .int (u0 466)]) hx hb hK hP hS (by omega) (by omega) rfl rfl (by unfold cj; rw [if_pos (by omega), va_up_ne _ _ (by omega)]; rfl) rfl (by unfold cj; rw [if_neg (by omega), Nat.sub_self]; rfl) rfl (vp_in_iff.mpr ⟨by rw [nI_toInt (by omega)]; omega, by rw [nI_toInt (by omega)]; omega⟩) dX1_init_33 (fun H locs hP hS => ?_)
      refine lv_iinc (v := nI (j+1)) (lv' := [(1, .int (nI (j+1))), (0, .ref h0)]) hx hb dX1_init_34 hl (k := 0) rfl nI_s (by decide) rfl (fun ls hl => ?_)
      refine lv_goto (tgt := 15) hx hb dX1_init_37 (by decide) ?_
      refine W.widen (k := 1 + 18*(j+1)) (n := 12 + 476*(j+1)) (by omega) (by omega) (ih (j+1) H locs ls (by omega) ?_ hS hl)
      exact hP.cg (fun t ht h => w1_st (by omega) (by omega) h)
  exact L1 12 0 H locs ls rfl hP hS hl
