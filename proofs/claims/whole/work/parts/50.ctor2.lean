/-! CONSTRUCTOR of World -/
theorem cP.one {D : va_G} {H : Heap} {h0 k : Nat} {f : Nat → va_E} (h : cP D h0 k f H) (t : Nat) (ht : t < k) {x : va_E} (e : f t = x) : va_P D vwCl [(h0 + t, x)] H := fun i q hq => by
  have hz : i < 1 := (List.getElem?_eq_some_iff.mp hq).1
  rw [show i = 0 by omega] at hq
  cases hq
  rw [← e]; exact h.2 t ht
theorem tr_u0 (n o i : Nat) : tr n o u0 i = 0 := by
  unfold tr u0
  split
  · rfl
  · rfl
theorem nb0 : nb 0 = 0 := by decide
def w5 (G : CY) (h0 : Nat) : Nat → va_E := fun t => wcel G (fun n => h0 + n) 0 u0 t
def w5p (G : CY) (h0 i j : Nat) : Nat → va_E := fun t => if t = 3 then .inl (G.2.2.1, 4, .inr (.inr (.inr (.inr (fun q => if q < i then some (h0+(6+2*q)) else none))))) else if t = 4 then .inl (G.2.2.2.1, 4, .inr (.inr (.inr (.inr (fun q => if q < j then some (h0+(14+q)) else none))))) else w5 G h0 t
theorem refs_s {D : va_G} {H : Heap} {a n i : Nat} {cA : ClassId} {g : Nat → Nat} (hi : i < 1000) (h : va_at D vwCl (a, .inl (cA, n, .inr (.inr (.inr (.inr (va_up (fun q => if q < i then some (g q) else none) (nI i).toNatClampNeg (some (g i)))))))) H) : va_at D vwCl (a, .inl (cA, n, .inr (.inr (.inr (.inr (fun q => if q < i + 1 then some (g q) else none)))))) H := by
  refine cell_q (fun q hq => ?_) h
  rw [nI_clamp (by omega)]
  by_cases e : q = i
  · subst e; rw [va_up_self, if_pos (by omega)]
  · rw [va_up_ne _ _ e]
    by_cases e2 : q < i
    · rw [if_pos e2, if_pos (by omega)]
    · rw [if_neg e2, if_neg (by omega)]
theorem bcel_u0 {h0 i : Nat} : bcel (fun n => h0 + n) 0 u0 i = .inr (2, [.int 0, .int 0, .int 0, .int 0, .int 0, .int 0, .int 0, .int 0, .int 0, .int 0, .int 0, .int 0, .int 0, .int 0, .int 0, .ref (h0 + (6+2*i) + 1)]) := by
  show (.inr (2, [.int 0, .int 0, .int 0, .int 0, .int 0, .int 0, .int 0, .int 0, .int 0, .int 0, .int 0, .int 0, .int 0, .int (nb 0), .int 0, .ref (h0 + (0 + (7 + 2*i)))]) : va_E) = _
  rw [nb0, show h0 + (0 + (7 + 2*i)) = h0 + (6+2*i) + 1 by omega]
theorem w5_st1 {D : va_G} {G : CY} {H : Heap} {h0 j t : Nat} (hj : j < 4) (ht : t < 6+2*j+2) (h : va_at D vwCl (h0 + t, va_up (cj (va_up (w5p G h0 j 0) (6+2*j) (.inr (2, [.int 0, .int 0, .int 0, .int 0, .int 0, .int 0, .int 0, .int 0, .int 0, .int 0, .int 0, .int 0, .int 0, .int 0, .int 0, .null]))) (6+2*j) (w0 G (h0 + (6+2*j)))) 3 (.inl (G.2.2.1, 4, .inr (.inr (.inr (.inr (va_up (fun q => if q < j then some (h0+(6+2*q)) else none) (nI j).toNatClampNeg (some (h0 + (6+2*j))))))))) t) H) : va_at D vwCl (h0 + t, w5p G h0 (j+1) 0 t) H := by
  by_cases e : t = 3
  · subst e
    rw [va_up_self] at h
    exact refs_s (g := fun q => h0+(6+2*q)) (by omega) h
  · rw [va_up_ne _ _ e] at h
    unfold cj at h
    by_cases e2 : t < 6+2*j
    · rw [if_pos e2, va_up_ne _ _ (by omega)] at h
      unfold w5p at h ⊢
      rw [if_neg e] at h ⊢
      exact h
    · rw [if_neg e2] at h
      unfold w5p
      rw [if_neg e, if_neg (by omega)]
      unfold w5
      by_cases e3 : t = 6+2*j
      · subst e3
        rw [Nat.sub_self] at h
        rw [wcel_b hj, bcel_u0]
        exact h
      · have e4 : t = 7+2*j := by omega
        subst e4
        rw [show 7+2*j - (6+2*j) = 1 by omega] at h
        rw [wcel_s hj]
        exact cell_i (fun i _ => (tr_u0 _ _ _).symm) h
theorem w5_st2 {D : va_G} {G : CY} {H : Heap} {h0 j t : Nat} (hj : j < 4) (ht : t < 14+j+1) (h : va_at D vwCl (h0 + t, va_up (cj (va_up (w5p G h0 4 j) (14+j) (.inr (4, [.int 0, .int 0, .int 0, .int 0, .int 0, .int 0, .int 0]))) (14+j) (w2 G (h0 + (14+j)))) 4 (.inl (G.2.2.2.1, 4, .inr (.inr (.inr (.inr (va_up (fun q => if q < j then some (h0+(14+q)) else none) (nI j).toNatClampNeg (some (h0 + (14+j))))))))) t) H) : va_at D vwCl (h0 + t, w5p G h0 4 (j+1) t) H := by
  by_cases e : t = 4
  · subst e
    rw [va_up_self] at h
    exact refs_s (g := fun q => h0+(14+q)) (by omega) h
  · rw [va_up_ne _ _ e] at h
    unfold cj at h
    by_cases e2 : t < 14+j
    · rw [if_pos e2, va_up_ne _ _ (by omega)] at h
      unfold w5p at h ⊢
      by_cases e3 : t = 3
      · rw [if_pos e3] at h ⊢; exact h
      · rw [if_neg e3, if_neg e] at h ⊢; exact h
    · rw [if_neg e2] at h
      unfold w5p
      rw [if_neg (by omega), if_neg e]
      unfold w5
      have e4 : t = 14+j := by omega
      subst e4
      rw [wcel_p]
      exact h
theorem w5_end {D : va_G} {G : CY} {H : Heap} {h0 : Nat} : ∀ t, t < 14+4 → va_at D vwCl (h0 + t, w5p G h0 4 4 t) H → va_at D vwCl (h0 + t, w5 G h0 t) H := by
  intro t ht h
  unfold w5p at h
  by_cases e : t = 3
  · subst e
    rw [if_pos rfl] at h
    have h := cell_q (g := fun i => some (h0 + (0 + (6+2*i)))) (fun q hq => by rw [if_pos hq, Nat.zero_add]) h
    exact h
  · rw [if_neg e] at h
    by_cases e2 : t = 4
    · subst e2
      rw [if_pos rfl] at h
      have h := cell_q (g := fun i => some (h0 + (0 + (14+i)))) (fun q hq => by rw [if_pos hq, Nat.zero_add]) h
      exact h
    · rw [if_neg e2] at h; exact h
set_option maxHeartbeats 4000000 in
set_option maxRecDepth 100000 in
theorem n5_init (l : Launch) {D : va_G} {G : CY} (h0 : Nat) : Met l yX5_init wsX5_init { frames := 2, cells := 17, slots := 469, locals := 32 } (va_Pc [.ref h0] (Hc D G h0 (.inr (7, [.null, .null, .null, .null, .int 0, .int 0, .int 0])))) (va_Qv (fun _ : Unit => True) (fun _ t => cP D h0 18 (w5 G h0) t.heap) (AC h0)) 17 469 (AC h0) := by
  refine Met.ofW (cc := cX5_init) (maxL := 2) (ret := none) (by decide) rfl ?_
  intro p e s m args below meth c s₁ B hml hv
  obtain ⟨rfl, hP, hK, hN⟩ := hv
  have hx := B.exec
  have hb := B.bytes
  have hr := B.returns
  have hts := atoms_spec (ws := wsX5_init) B.pre
  have hown : s.vm.findClass RX5 = some m.cls := findClass_of_methodNamed B.named
  have hlocks := B.notSynchronized
  have hin : meth.name = "<init>" := (name_of_methodNamed B.named B.method).1
  have inX0 : ∀ w ∈ wsX00, w ∈ wsX5_init := (fun w h => List.mem_cons_of_mem _ (List.mem_append_left _ (List.mem_append_right _ h)))
  have inX2 : ∀ w ∈ wsX20, w ∈ wsX5_init := (fun w h => List.mem_cons_of_mem _ (List.mem_append_right _ h))
  have inX4 : ∀ w ∈ wsX40, w ∈ wsX5_init := (fun w h => List.mem_cons_of_mem _ (List.mem_append_left _ (List.mem_append_left _ (List.mem_append_left _ (List.mem_append_right _ h)))))
  have inX5 : ∀ w ∈ wsX50, w ∈ wsX5_init := (fun w h => List.mem_cons_of_mem _ (List.mem_append_left _ (List.mem_append_left _ (List.mem_append_right _ h))))
  have hS : va_S (AC h0) s.heap s.heap [] := va_S.rf
  have hl := lv_entry ([.ref h0]) (n := 2) (Nat.le_of_ble_eq_true rfl)
  rw [lg_entry_eq]
  generalize (lg_sl ([.ref h0]) ++ List.replicate (2 - (lg_sl ([.ref h0])).length) Slot.unset).toArray = ls at hl ⊢
  have hl : lv_has ls 2 [(0, .ref h0)] := hl
  refine lv_aload_n hx hb dX5_init_0 rfl (lv_at hl 0 rfl) ?_
  refine W.objInit hx hb hown (hts (.methodLink RX5 3 objectInit) (List.mem_of_getElem? (i := 1) rfl)) (hts (.instanceMethod objectInit) (List.mem_of_getElem? (i := 2) rfl)) (hts _ (List.mem_of_getElem? (i := 3) rfl)) rfl (by rw [hml]; exact hl.1) rfl dX5_init_1 (Nat.le_of_ble_eq_true rfl) (Nat.le_of_ble_eq_true rfl) ?_
  refine W.eq (g2 := F0 m 4 ls []) rfl ?_
  refine lv_aload_n hx hb dX5_init_4 rfl (lv_at hl 0 rfl) ?_
  refine c_new (ci := 6) (fs := [.null]) (C := RX4) (T := TX4) (N := 1) hx hb hts inX4 tyX4 tyX4_ok hown (hts (.classLink RX5 9 RX4) (List.mem_of_getElem? (i := 4) rfl)) (hts (.instantiable RX4 1) (List.mem_of_getElem? (i := 5) rfl)) (hts (.initialized RX4) (List.mem_of_getElem? (i := 6) rfl)) hK hP hS rfl (fun j hj => by rcases (show j = 0 by omega) with rfl <;> rfl) (Nat.le_of_ble_eq_true rfl) (Nat.le_of_ble_eq_true rfl) dX5_init_5 (fun H hP hS => ?_)
  refine lv_dup hx hb dX5_init_8 rfl ?_
  have hPc := hP.last (b := 1) (x := .inr (6, [.null])) rfl
  refine va_callv (va_runIN (As := []) (rest := [.ref (h0 + 1), .ref h0]) ⟨hx, hb, hml, hown, hts⟩ (n4_init l (D := D) (G := G) (h0 + 1)) ⟨va_cnB 0 hts gX5_init_X4_init_n11 rfl rfl rfl hN.2.2.2.1 (hts (.initialized RX4) (List.mem_of_getElem? (i := 6) rfl)) (by decide +kernel) ⟨(Nat.le_of_ble_eq_true rfl), (Nat.le_of_ble_eq_true rfl)⟩, rfl, (hts (.instanceMethod yX4_init) (List.mem_of_getElem? (i := 18) rfl))⟩ ⟨hc_blind, hc_pre hK hN hPc⟩ rfl rfl hl.1 rfl (lv_room (Nat.le_of_ble_eq_true rfl)) dX5_init_9 ⟨(Nat.le_of_ble_eq_true rfl), (Nat.le_of_ble_eq_true rfl)⟩) hS (fun q _ h => Nat.le_trans (Nat.le_add_right _ _) h) (fun q h => Nat.le_trans (Nat.le_add_right _ _) h) (fun u9 t H locs ht hvm hw9 hB hz1 hk1 hS => ?_)
  have hB : cP D (h0 + 1) 2 (w4 G (h0 + 1)) H := by rw [← ht]; exact hB
  have hP := hP.call (b := 1) hB hk1
  refine c_putF (ci := 7) (fs := [.null, .null, .null, .null, .int 0, .int 0, .int 0]) (v := .ref (h0 + 1)) (ty := .object "TileRunners$Tiles") (C := RX5) (T := TX5) (N := 7) hx hb hts inX5 tyX5 tyX5_ok nmX5 hown hK hP hS 0 (by decide) rfl rfl rfl 0 (by decide) (hts (.fieldLink RX5 12 "TileRunners$World" "tiles" "LTileRunners$Tiles;") (List.mem_of_getElem? (i := 7) rfl)) (fun _ h9 => h9) rfl hin rfl (by decide +kernel) rfl rfl (Nat.le_of_ble_eq_true rfl) dX5_init_12 (fun H locs hP hS => ?_)
  refine lv_aload_n hx hb dX5_init_15 rfl (lv_at hl 0 rfl) ?_
  refine lv_iconst (v := 4) hx hb dX5_init_16 (by decide) ?_
  refine c_newq (C := RX0) (cA := G.2.2.1) (t0 := 2) hx hb hown (hts (.classLink RX5 18 RX0) (List.mem_of_getElem? (i := 8) rfl)) hN.1 hK rfl hP hS (n := 4) (N := 4) (by decide) (by decide) (Nat.le_of_ble_eq_true rfl) (Nat.le_of_ble_eq_true rfl) (Nat.le_of_ble_eq_true rfl) dX5_init_17 (fun H hP hS => ?_)
  refine c_putF (ci := 7) (fs := [.ref (h0 + 1), .null, .null, .null, .int 0, .int 0, .int 0]) (v := .ref (h0 + 3)) (ty := .array (.object "TileRunners$Body")) (C := RX5) (T := TX5) (N := 7) hx hb hts inX5 tyX5 tyX5_ok nmX5 hown hK hP hS 0 (by decide) rfl rfl rfl 1 (by decide) (hts (.fieldLink RX5 20 "TileRunners$World" "bodies" "[LTileRunners$Body;") (List.mem_of_getElem? (i := 9) rfl)) (fun _ h9 => h9) rfl hin rfl (by decide +kernel) rfl rfl (Nat.le_of_ble_eq_true rfl) dX5_init_20 (fun H locs hP hS => ?_)
  refine lv_aload_n hx hb dX5_init_23 rfl (lv_at hl 0 rfl) ?_
  refine lv_iconst (v := 4) hx hb dX5_init_24 (by decide) ?_
  refine c_newq (C := RX2) (cA := G.2.2.2.1) (t0 := 3) hx hb hown (hts (.classLink RX5 24 RX2) (List.mem_of_getElem? (i := 10) rfl)) hN.2.1 hK rfl hP hS (n := 4) (N := 4) (by decide) (by decide) (Nat.le_of_ble_eq_true rfl) (Nat.le_of_ble_eq_true rfl) (Nat.le_of_ble_eq_true rfl) dX5_init_25 (fun H hP hS => ?_)
  refine c_putF (ci := 7) (fs := [.ref (h0 + 1), .ref (h0 + 3), .null, .null, .int 0, .int 0, .int 0]) (v := .ref (h0 + 4)) (ty := .array (.object "TileRunners$Platform")) (C := RX5) (T := TX5) (N := 7) hx hb hts inX5 tyX5 tyX5_ok nmX5 hown hK hP hS 0 (by decide) rfl rfl rfl 2 (by decide) (hts (.fieldLink RX5 26 "TileRunners$World" "platforms" "[LTileRunners$Platform;") (List.mem_of_getElem? (i := 11) rfl)) (fun _ h9 => h9) rfl hin rfl (by decide +kernel) rfl rfl (Nat.le_of_ble_eq_true rfl) dX5_init_28 (fun H locs hP hS => ?_)
  refine lv_aload_n hx hb dX5_init_31 rfl (lv_at hl 0 rfl) ?_
  refine lv_iconst (v := 4) hx hb dX5_init_32 (by decide) ?_
  refine c_newi (atype := .int) (ty := .int) (cA := G.2.1) (t0 := 1) hx hb rfl rfl (hts (.arrayClass .int) (List.mem_of_getElem? (i := 12) rfl)) (fun h => h) hK rfl hP hS (n := 4) (N := 4) (by decide) (by decide) (Nat.le_of_ble_eq_true rfl) (Nat.le_of_ble_eq_true rfl) (Nat.le_of_ble_eq_true rfl) dX5_init_33 (fun H hP hS => ?_)
  refine c_putF (ci := 7) (fs := [.ref (h0 + 1), .ref (h0 + 3), .ref (h0 + 4), .null, .int 0, .int 0, .int 0]) (v := .ref (h0 + 5)) (ty := .array .int) (C := RX5) (T := TX5) (N := 7) hx hb hts inX5 tyX5 tyX5_ok nmX5 hown hK hP hS 0 (by decide) rfl rfl rfl 3 (by decide) (hts (.fieldLink RX5 30 "TileRunners$World" "carriers" "[I") (List.mem_of_getElem? (i := 13) rfl)) (fun _ h9 => h9) rfl hin rfl (by decide +kernel) rfl rfl (Nat.le_of_ble_eq_true rfl) dX5_init_35 (fun H locs hP hS => ?_)
  refine lv_iconst (v := 0) hx hb dX5_init_38 (by decide) ?_
  refine lv_istore_n (lv' := [(1, .int 0), (0, .ref h0)]) hx hb dX5_init_39 rfl hl (by decide) rfl (fun ls hl => ?_)
  have hP : cP D h0 6 (w5p G h0 0 0) H := hP.cg (fun t ht h => by
    rcases (show t = 0 ∨ t = 1 ∨ t = 2 ∨ t = 3 ∨ t = 4 ∨ t = 5 by omega) with rfl | rfl | rfl | rfl | rfl | rfl
    · exact h
    · exact h
    · exact cell_i (fun i _ => (tr_u0 _ _ _).symm) h
    · exact cell_q (fun q _ => (if_neg (Nat.not_lt_zero q)).symm) h
    · exact cell_q (fun q _ => (if_neg (Nat.not_lt_zero q)).symm) h
    · exact cell_i (fun i _ => (tr_u0 _ _ _).symm) h)
  have L2 : ∀ (n j : Nat) (H : Heap) (locs : List Loc) (ls : Array Slot), j + n = 4 → cP D h0 (14+j) (w5p G h0 4 j) H → va_S (AC h0) s.heap H locs → lv_has ls 2 [(1, .int (nI j)), (0, .ref h0)] → W p l e (headSpec wsX5_init { frames := 2, cells := 17, slots := 469, locals := 32 }).room s m ([.ref h0] : List Value).toArray below meth c H locs (13 + j) (441 + 7*j) (MQ below (va_Qv (fun _ : Unit => True) (fun _ t => cP D h0 18 (w5 G h0) t.heap) (AC h0)) ([.ref h0] : List Value).toArray s 17 469 (AC h0)) (F0 m 66 ls []) := by
    intro n
    induction n with
    | zero =>
      intro j H locs ls hj hP hS hl
      have hj : j = 4 := by omega
      subst hj
      refine lv_iload_n hx hb dX5_init_66 rfl (lv_at hl 0 rfl) ?_
      refine lv_iconst (v := 4) hx hb dX5_init_67 (by decide) ?_
      refine lv_icmp_ge (tgt := 90) hx hb dX5_init_68 (by decide) (fun c68 => ?_) (fun c68 => absurd (by decide) c68)
      exact W.vret hx hb hr (fun t ht hW => ⟨⟨(), rfl, trivial, by show cP D h0 18 (w5 G h0) t.heap; rw [ht]; exact hP.cg (w5_end (G := G) (h0 := h0))⟩, hS.F ht⟩) hS.2.2 dX5_init_90
    | succ n ih =>
      intro j H locs ls hj hP hS hl
      refine lv_iload_n hx hb dX5_init_66 rfl (lv_at hl 0 rfl) ?_
      refine lv_iconst (v := 4) hx hb dX5_init_67 (by decide) ?_
      refine lv_icmp_ge (tgt := 90) hx hb dX5_init_68 (by decide) (fun c68 => ?_) (fun c68 => ?_)
      · exfalso
        have t4 : ((4 : Int32)).toInt = 4 := rfl
        rw [ti_le, t4, nI_toInt (by omega)] at c68
        omega
      refine lv_aload_n hx hb dX5_init_71 rfl (lv_at hl 1 rfl) ?_
      refine va_get (D := D) (ci := 7) (C := RX5) (T := TX5) (N := 7) (v := .ref (h0 + 4)) hx hb hts inX5 hown hK (hP.one 0 (by omega) (x := .inr (7, [.ref (h0 + 1), .ref (h0 + 3), .ref (h0 + 4), .ref (h0 + 5), .int 0, .int 0, .int 0])) rfl) 0 rfl rfl 2 (by decide) (hts (.fieldLink RX5 26 "TileRunners$World" "platforms" "[LTileRunners$Platform;") (List.mem_of_getElem? (i := 11) rfl)) (fun _ h9 => h9) rfl dX5_init_72 ?_
      refine lv_iload_n hx hb dX5_init_75 rfl (lv_at hl 0 rfl) ?_
      refine c_new (ci := 4) (fs := [.int 0, .int 0, .int 0, .int 0, .int 0, .int 0, .int 0]) (C := RX2) (T := TX2) (N := 7) hx hb hts inX2 tyX2 tyX2_ok hown (hts (.classLink RX5 24 RX2) (List.mem_of_getElem? (i := 10) rfl)) (hts (.instantiable RX2 7) (List.mem_of_getElem? (i := 16) rfl)) (hts (.initialized RX2) (List.mem_of_getElem? (i := 17) rfl)) hK hP hS rfl (fun j hj => by rcases (show j = 0 ∨ j = 1 ∨ j = 2 ∨ j = 3 ∨ j = 4 ∨ j = 5 ∨ j = 6 by omega) with rfl | rfl | rfl | rfl | rfl | rfl | rfl <;> rfl) (by show 13 + j + 1 ≤ 17; omega) (by show 441 + 7*j + 7 ≤ 469; omega) dX5_init_76 (fun H hP hS => ?_)
      refine lv_dup hx hb dX5_init_79 rfl ?_
      have hPc := hP.last (b := 14+j) (x := .inr (4, [.int 0, .int 0, .int 0, .int 0, .int 0, .int 0, .int 0])) (va_up_self _ _ _)
      refine va_callv (va_runIN (As := []) (rest := [.ref (h0 + (14+j)), .int (nI j), .ref (h0 + 4)]) ⟨hx, hb, hml, hown, hts⟩ (n2_init l (D := D) (G := G) (h0 + (14+j))) ⟨va_cnB 0 hts gX5_init_X2_init_n35 rfl rfl rfl hN.2.2.2.2.2.1 (hts (.initialized RX2) (List.mem_of_getElem? (i := 17) rfl)) (by decide +kernel) ⟨(Nat.le_of_ble_eq_true rfl), (Nat.le_of_ble_eq_true rfl)⟩, rfl, (hts (.instanceMethod yX2_init) (List.mem_of_getElem? (i := 26) rfl))⟩ ⟨hc_blind, hc_pre hK hN hPc⟩ rfl rfl hl.1 rfl (lv_room (Nat.le_of_ble_eq_true rfl)) dX5_init_80 ⟨by show 13 + j + 1 + 0 ≤ 17; omega, by show 441 + 7*j + 7 + 0 ≤ 469; omega⟩) hS (fun q _ h => Nat.le_trans (Nat.le_add_right _ _) h) (fun q h => Nat.le_trans (Nat.le_add_right _ _) h) (fun u9 t H locs ht hvm hw9 hB hz1 hk1 hS => ?_)
      have hB : cP D (h0 + (14+j)) 1 (w2 G (h0 + (14+j))) H := by rw [← ht]; exact hB
      have hP := hP.call (b := 14+j) hB hk1
      refine c_astq (q0 := 4) (t0 := 3) (qk := 14+j) (ci := 4) (r := (RX2, TX2, 7)) (cA := G.2.2.2.1) (n := 4) (g := fun q => if q < j then some (h0+(14+q)) else none) (vs := [.int 0, .int 0, .int 0, .int 0, .int 0, .int 0, .int 0]) hx hb hK hP hS (by omega) (by omega) rfl rfl (by unfold cj; rw [if_pos (by omega), va_up_ne _ _ (by omega)]; rfl) rfl (by unfold cj; rw [if_neg (by omega)]; rfl) rfl (vp_in_iff.mpr ⟨by rw [nI_toInt (by omega)]; omega, by rw [nI_toInt (by omega)]; omega⟩) dX5_init_83 (fun H locs hP hS => ?_)
      refine lv_iinc (v := nI (j+1)) (lv' := [(1, .int (nI (j+1))), (0, .ref h0)]) hx hb dX5_init_84 hl (k := 0) rfl nI_s (by decide) rfl (fun ls hl => ?_)
      refine lv_goto (tgt := 66) hx hb dX5_init_87 (by decide) ?_
      refine W.widen (k := 13 + (j+1)) (n := 441 + 7*(j+1)) (by omega) (by omega) (ih (j+1) H locs ls (by omega) ?_ hS hl)
      exact hP.cg (fun t ht h => w5_st2 (by omega) (by omega) h)
  have L1 : ∀ (n j : Nat) (H : Heap) (locs : List Loc) (ls : Array Slot), j + n = 4 → cP D h0 (6+2*j) (w5p G h0 j 0) H → va_S (AC h0) s.heap H locs → lv_has ls 2 [(1, .int (nI j)), (0, .ref h0)] → W p l e (headSpec wsX5_init { frames := 2, cells := 17, slots := 469, locals := 32 }).room s m ([.ref h0] : List Value).toArray below meth c H locs (5 + 2*j) (349 + 23*j) (MQ below (va_Qv (fun _ : Unit => True) (fun _ t => cP D h0 18 (w5 G h0) t.heap) (AC h0)) ([.ref h0] : List Value).toArray s 17 469 (AC h0)) (F0 m 40 ls []) := by
    intro n
    induction n with
    | zero =>
      intro j H locs ls hj hP hS hl
      have hj : j = 4 := by omega
      subst hj
      refine lv_iload_n hx hb dX5_init_40 rfl (lv_at hl 0 rfl) ?_
      refine lv_iconst (v := 4) hx hb dX5_init_41 (by decide) ?_
      refine lv_icmp_ge (tgt := 64) hx hb dX5_init_42 (by decide) (fun c42 => ?_) (fun c42 => absurd (by decide) c42)
      refine lv_iconst (v := 0) hx hb dX5_init_64 (by decide) ?_
      refine lv_istore_n (lv' := [(1, .int 0), (0, .ref h0)]) hx hb dX5_init_65 rfl hl (by decide) rfl (fun ls hl => ?_)
      exact L2 4 0 H locs ls rfl hP hS hl
    | succ n ih =>
      intro j H locs ls hj hP hS hl
      refine lv_iload_n hx hb dX5_init_40 rfl (lv_at hl 0 rfl) ?_
      refine lv_iconst (v := 4) hx hb dX5_init_41 (by decide) ?_
      refine lv_icmp_ge (tgt := 64) hx hb dX5_init_42 (by decide) (fun c42 => ?_) (fun c42 => ?_)
      · exfalso
        have t4 : ((4 : Int32)).toInt = 4 := rfl
        rw [ti_le, t4, nI_toInt (by omega)] at c42
        omega
      refine lv_aload_n hx hb dX5_init_45 rfl (lv_at hl 1 rfl) ?_
      refine va_get (D := D) (ci := 7) (C := RX5) (T := TX5) (N := 7) (v := .ref (h0 + 3)) hx hb hts inX5 hown hK (hP.one 0 (by omega) (x := .inr (7, [.ref (h0 + 1), .ref (h0 + 3), .ref (h0 + 4), .ref (h0 + 5), .int 0, .int 0, .int 0])) rfl) 0 rfl rfl 1 (by decide) (hts (.fieldLink RX5 20 "TileRunners$World" "bodies" "[LTileRunners$Body;") (List.mem_of_getElem? (i := 9) rfl)) (fun _ h9 => h9) rfl dX5_init_46 ?_
      refine lv_iload_n hx hb dX5_init_49 rfl (lv_at hl 0 rfl) ?_
      refine c_new (ci := 2) (fs := [.int 0, .int 0, .int 0, .int 0, .int 0, .int 0, .int 0, .int 0, .int 0, .int 0, .int 0, .int 0, .int 0, .int 0, .int 0, .null]) (C := RX0) (T := TX0) (N := 16) hx hb hts inX0 tyX0 tyX0_ok hown (hts (.classLink RX5 18 RX0) (List.mem_of_getElem? (i := 8) rfl)) (hts (.instantiable RX0 16) (List.mem_of_getElem? (i := 14) rfl)) (hts (.initialized RX0) (List.mem_of_getElem? (i := 15) rfl)) hK hP hS rfl (fun j hj => by rcases (show j = 0 ∨ j = 1 ∨ j = 2 ∨ j = 3 ∨ j = 4 ∨ j = 5 ∨ j = 6 ∨ j = 7 ∨ j = 8 ∨ j = 9 ∨ j = 10 ∨ j = 11 ∨ j = 12 ∨ j = 13 ∨ j = 14 ∨ j = 15 by omega) with rfl | rfl | rfl | rfl | rfl | rfl | rfl | rfl | rfl | rfl | rfl | rfl | rfl | rfl | rfl | rfl <;> rfl) (by show 5 + 2*j + 1 ≤ 17; omega) (by show 349 + 23*j + 16 ≤ 469; omega) dX5_init_50 (fun H hP hS => ?_)
      refine lv_dup hx hb dX5_init_53 rfl ?_
      have hPc := hP.last (b := 6+2*j) (x := .inr (2, [.int 0, .int 0, .int 0, .int 0, .int 0, .int 0, .int 0, .int 0, .int 0, .int 0, .int 0, .int 0, .int 0, .int 0, .int 0, .null])) (va_up_self _ _ _)
      refine va_callv (va_runIN (As := []) (rest := [.ref (h0 + (6+2*j)), .int (nI j), .ref (h0 + 3)]) ⟨hx, hb, hml, hown, hts⟩ (n0_init l (D := D) (G := G) (h0 + (6+2*j))) ⟨va_cnB 0 hts gX5_init_X0_init_n34 rfl rfl rfl hN.2.2.2.2.1 (hts (.initialized RX0) (List.mem_of_getElem? (i := 15) rfl)) (by decide +kernel) ⟨(Nat.le_of_ble_eq_true rfl), (Nat.le_of_ble_eq_true rfl)⟩, rfl, (hts (.instanceMethod yX0_init) (List.mem_of_getElem? (i := 22) rfl))⟩ ⟨hc_blind, hc_pre hK hN hPc⟩ rfl rfl hl.1 rfl (lv_room (Nat.le_of_ble_eq_true rfl)) dX5_init_54 ⟨by show 5 + 2*j + 1 + 1 ≤ 17; omega, by show 349 + 23*j + 16 + 7 ≤ 469; omega⟩) hS (fun q _ h => Nat.le_trans (Nat.le_add_right _ _) h) (fun q h => Nat.le_trans (Nat.le_add_right _ _) h) (fun u9 t H locs ht hvm hw9 hB hz1 hk1 hS => ?_)
      have hB : cP D (h0 + (6+2*j)) 2 (w0 G (h0 + (6+2*j))) H := by rw [← ht]; exact hB
      have hP := hP.call (b := 6+2*j) hB hk1
      refine c_astq (q0 := 3) (t0 := 2) (qk := 6+2*j) (ci := 2) (r := (RX0, TX0, 16)) (cA := G.2.2.1) (n := 4) (g := fun q => if q < j then some (h0+(6+2*q)) else none) (vs := [.int 0, .int 0, .int 0, .int 0, .int 0, .int 0, .int 0, .int 0, .int 0, .int 0, .int 0, .int 0, .int 0, .int 0, .int 0, .ref (h0 + (6+2*j) + 1)]) hx hb hK hP hS (by omega) (by omega) rfl rfl (by unfold cj; rw [if_pos (by omega), va_up_ne _ _ (by omega)]; rfl) rfl (by unfold cj; rw [if_neg (by omega), Nat.sub_self]; rfl) rfl (vp_in_iff.mpr ⟨by rw [nI_toInt (by omega)]; omega, by rw [nI_toInt (by omega)]; omega⟩) dX5_init_57 (fun H locs hP hS => ?_)
      refine lv_iinc (v := nI (j+1)) (lv' := [(1, .int (nI (j+1))), (0, .ref h0)]) hx hb dX5_init_58 hl (k := 0) rfl nI_s (by decide) rfl (fun ls hl => ?_)
      refine lv_goto (tgt := 40) hx hb dX5_init_61 (by decide) ?_
      refine W.widen (k := 5 + 2*(j+1)) (n := 349 + 23*(j+1)) (by omega) (by omega) (ih (j+1) H locs ls (by omega) ?_ hS hl)
      exact hP.cg (fun t ht h => w5_st1 (by omega) (by omega) h)
  exact L1 4 0 H locs ls rfl hP hS hl
