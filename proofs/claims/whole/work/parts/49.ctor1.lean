/-! CONSTRUCTORS: their contracts -/
def u0 : Nat → Int32 := fun _ => 0
def NI (U : State) : Prop := va_AO RX0 U ∧ va_AO RX2 U ∧ va_AO RX5 U ∧ va_Nw (.methodLinkNest RX5 11 yX4_init RX6) U ∧ va_Nw (.methodLinkNest RX5 34 yX0_init RX6) U ∧ va_Nw (.methodLinkNest RX5 35 yX2_init RX6) U ∧ va_Nw (.methodLinkNest RX6 46 yX3_init RX6) U ∧ va_Nw (.castable "[I" "java/lang/Cloneable") U
theorem NI.warm {s U : State} (hW : s.WarmedH U.vm) (h : NI s) : NI U := ⟨va_AO.moved hW.alike h.1, va_AO.moved hW.alike h.2.1, va_AO.moved hW.alike h.2.2.1, va_Nw.warmM hW h.2.2.2.1, va_Nw.warmM hW h.2.2.2.2.1, va_Nw.warmM hW h.2.2.2.2.2.1, va_Nw.warmM hW h.2.2.2.2.2.2.1, va_Nw.warmC hW h.2.2.2.2.2.2.2⟩
def Hc (D : va_G) (G : CY) (h0 : Nat) (x : va_E) (U : State) : Prop := cP D h0 1 (fun _ => x) U.heap ∧ va_K D vwCl (tysG G) U ∧ NI U
theorem hc_blind {D : va_G} {G : CY} {h0 : Nat} {x : va_E} {av : List Value} : FrameBlind (va_Pc av (Hc D G h0 x)) := fun a U g mk q => by
  obtain ⟨q0, qP, qK, qN⟩ := q
  exact ⟨q0, qP, va_K.moved (u := U) (U := U.calling g mk a) (Vm.Alike.refl U.vm) qK, ⟨va_AO.moved (u := U) (U := U.calling g mk a) (Vm.Alike.refl U.vm) qN.1, va_AO.moved (u := U) (U := U.calling g mk a) (Vm.Alike.refl U.vm) qN.2.1, va_AO.moved (u := U) (U := U.calling g mk a) (Vm.Alike.refl U.vm) qN.2.2.1, va_Nw.same (u := U) (U := U.calling g mk a) rfl rfl qN.2.2.2.1, va_Nw.same (u := U) (U := U.calling g mk a) rfl rfl qN.2.2.2.2.1, va_Nw.same (u := U) (U := U.calling g mk a) rfl rfl qN.2.2.2.2.2.1, va_Nw.same (u := U) (U := U.calling g mk a) rfl rfl qN.2.2.2.2.2.2.1, va_Nw.same (u := U) (U := U.calling g mk a) rfl rfl qN.2.2.2.2.2.2.2⟩⟩
theorem hc_pre {D : va_G} {G : CY} {h0 : Nat} {x : va_E} {av : List Value} {s : State} {H : Heap} (hK : va_K D vwCl (tysG G) s) (hN : NI s) (hP : cP D h0 1 (fun _ => x) H) : ∀ U : State, U.heap = H → s.WarmedH U.vm → va_Pc av (Hc D G h0 x) av.toArray U := fun U hU hW => ⟨rfl, by rw [hU]; exact hP, va_K.moved hW.alike hK, NI.warm hW hN⟩
/-- what each constructor leaves, cell by cell from h0 on -/
def w4 (G : CY) (h0 : Nat) : Nat → va_E := fun t => if t = 0 then .inr (6, [.ref (h0 + 1)]) else .inl (G.2.1, 336, .inl u0)
def w0 (G : CY) (h0 : Nat) : Nat → va_E := fun t => if t = 0 then .inr (2, [.int 0, .int 0, .int 0, .int 0, .int 0, .int 0, .int 0, .int 0, .int 0, .int 0, .int 0, .int 0, .int 0, .int 0, .int 0, .ref (h0 + 1)]) else .inl (G.2.1, 7, .inl u0)
def w2 (G : CY) (h0 : Nat) : Nat → va_E := fun _ => .inr (4, [.int 0, .int 0, .int 0, .int 0, .int 0, .int 0, .int 0])
def w3 (G : CY) (h0 : Nat) : Nat → va_E := fun t => if t = 0 then .inr (5, [.ref (h0 + 1), .int 0, .ref (h0 + 2), .ref (h0 + 3), .int 0]) else if t = 1 then .inl (G.1, 40, .inl u0) else .inl (G.2.1, 20, .inl u0)
def w7 (G : CY) (h0 : Nat) : Nat → va_E := fun t => match t with
  | 0 => .inr (9, [.int 0, .ref (h0 + 1), .ref (h0 + 2), .ref (h0 + 3), .ref (h0 + 4), .ref (h0 + 5), .ref (h0 + 6), .ref (h0 + 7), .int 0, .int 0, .ref (h0 + 8), .ref (h0 + 9), .ref (h0 + 10), .int 0, .int 0, .int 0, .int (-1)])
  | 1 => .inl (G.2.1, 480, .inl u0)
  | 2 => .inl (G.2.1, 4, .inl (upd (upd (upd (upd u0 (0 : Int32).toNatClampNeg 5) (1 : Int32).toNatClampNeg 10) (2 : Int32).toNatClampNeg 4) (3 : Int32).toNatClampNeg 3))
  | 3 => .inl (G.2.1, 4, .inl u0)
  | 4 => .inl (G.2.1, 5760, .inl u0)
  | 5 => .inl (G.2.1, 480, .inl u0)
  | 6 => .inl (G.2.1, 480, .inl u0)
  | 7 => .inl (G.2.1, 4, .inl u0)
  | 8 => .inl (G.1, 40, .inl u0)
  | 9 => .inl (G.2.1, 20, .inl u0)
  | _ => .inl (G.2.1, 20, .inl u0)
set_option maxHeartbeats 4000000 in
set_option maxRecDepth 100000 in
theorem n4_init (l : Launch) {D : va_G} {G : CY} (h0 : Nat) : Met l yX4_init wsX4_init { frames := 1, cells := 1, slots := 336, locals := 12 } (va_Pc [.ref h0] (Hc D G h0 (.inr (6, [.null])))) (va_Qv (fun _ : Unit => True) (fun _ t => cP D h0 2 (w4 G h0) t.heap) (AC h0)) 1 336 (AC h0) := by
  refine Met.ofW (cc := cX4_init) (maxL := 1) (ret := none) (by decide) rfl ?_
  intro p e s m args below meth c s₁ B hml hv
  obtain ⟨rfl, hP, hK, hN⟩ := hv
  have hx := B.exec
  have hb := B.bytes
  have hr := B.returns
  have hts := atoms_spec (ws := wsX4_init) B.pre
  have hown : s.vm.findClass RX4 = some m.cls := findClass_of_methodNamed B.named
  have hlocks := B.notSynchronized
  have hin : meth.name = "<init>" := (name_of_methodNamed B.named B.method).1
  have inX4 : ∀ w ∈ wsX40, w ∈ wsX4_init := (fun w h => List.mem_cons_of_mem _ (List.mem_append_right _ h))
  have hS : va_S (AC h0) s.heap s.heap [] := va_S.rf
  have hl := lv_entry ([.ref h0]) (n := 1) (Nat.le_of_ble_eq_true rfl)
  rw [lg_entry_eq]
  generalize (lg_sl ([.ref h0]) ++ List.replicate (1 - (lg_sl ([.ref h0])).length) Slot.unset).toArray = ls at hl ⊢
  have hl : lv_has ls 1 [(0, .ref h0)] := hl
  refine lv_aload_n hx hb dX4_init_0 rfl (lv_at hl 0 rfl) ?_
  refine W.objInit hx hb hown (hts (.methodLink RX4 3 objectInit) (List.mem_of_getElem? (i := 1) rfl)) (hts (.instanceMethod objectInit) (List.mem_of_getElem? (i := 2) rfl)) (hts _ (List.mem_of_getElem? (i := 3) rfl)) rfl (by rw [hml]; exact hl.1) rfl dX4_init_1 (Nat.le_of_ble_eq_true rfl) (Nat.le_of_ble_eq_true rfl) ?_
  refine W.eq (g2 := F0 m 4 ls []) rfl ?_
  refine lv_aload_n hx hb dX4_init_4 rfl (lv_at hl 0 rfl) ?_
  refine lv_sipush (v := 336) hx hb dX4_init_5 (by decide) ?_
  refine c_newi (atype := .int) (ty := .int) (cA := G.2.1) (t0 := 1) hx hb rfl rfl (hts (.arrayClass .int) (List.mem_of_getElem? (i := 4) rfl)) (fun h => h) hK rfl hP hS (n := 336) (N := 336) (by decide) (by decide) (Nat.le_of_ble_eq_true rfl) (Nat.le_of_ble_eq_true rfl) (Nat.le_of_ble_eq_true rfl) dX4_init_8 (fun H hP hS => ?_)
  refine c_putF (ci := 6) (fs := [.null]) (v := .ref (h0 + 1)) (ty := .array .int) (C := RX4) (T := TX4) (N := 1) hx hb hts inX4 tyX4 tyX4_ok nmX4 hown hK hP hS 0 (by decide) rfl rfl rfl 0 (by decide) (hts (.fieldLink RX4 9 "TileRunners$Tiles" "kinds" "[I") (List.mem_of_getElem? (i := 5) rfl)) (fun _ h9 => h9) rfl hin rfl (by decide +kernel) rfl rfl (Nat.le_of_ble_eq_true rfl) dX4_init_10 (fun H locs hP hS => ?_)
  exact W.vret hx hb hr (fun t ht hW => ⟨⟨(), rfl, trivial, by show cP D h0 2 (w4 G h0) t.heap; rw [ht]; exact hP.cg (fun t ht h => by rcases (show t = 0 ∨ t = 1 by omega) with rfl | rfl <;> exact h)⟩, hS.F ht⟩) hS.2.2 dX4_init_13
set_option maxHeartbeats 4000000 in
set_option maxRecDepth 100000 in
theorem n0_init (l : Launch) {D : va_G} {G : CY} (h0 : Nat) : Met l yX0_init wsX0_init { frames := 1, cells := 1, slots := 7, locals := 12 } (va_Pc [.ref h0] (Hc D G h0 (.inr (2, [.int 0, .int 0, .int 0, .int 0, .int 0, .int 0, .int 0, .int 0, .int 0, .int 0, .int 0, .int 0, .int 0, .int 0, .int 0, .null])))) (va_Qv (fun _ : Unit => True) (fun _ t => cP D h0 2 (w0 G h0) t.heap) (AC h0)) 1 7 (AC h0) := by
  refine Met.ofW (cc := cX0_init) (maxL := 1) (ret := none) (by decide) rfl ?_
  intro p e s m args below meth c s₁ B hml hv
  obtain ⟨rfl, hP, hK, hN⟩ := hv
  have hx := B.exec
  have hb := B.bytes
  have hr := B.returns
  have hts := atoms_spec (ws := wsX0_init) B.pre
  have hown : s.vm.findClass RX0 = some m.cls := findClass_of_methodNamed B.named
  have hlocks := B.notSynchronized
  have hin : meth.name = "<init>" := (name_of_methodNamed B.named B.method).1
  have inX0 : ∀ w ∈ wsX00, w ∈ wsX0_init := (fun w h => List.mem_cons_of_mem _ (List.mem_append_right _ h))
  have hS : va_S (AC h0) s.heap s.heap [] := va_S.rf
  have hl := lv_entry ([.ref h0]) (n := 1) (Nat.le_of_ble_eq_true rfl)
  rw [lg_entry_eq]
  generalize (lg_sl ([.ref h0]) ++ List.replicate (1 - (lg_sl ([.ref h0])).length) Slot.unset).toArray = ls at hl ⊢
  have hl : lv_has ls 1 [(0, .ref h0)] := hl
  refine lv_aload_n hx hb dX0_init_0 rfl (lv_at hl 0 rfl) ?_
  refine W.objInit hx hb hown (hts (.methodLink RX0 3 objectInit) (List.mem_of_getElem? (i := 1) rfl)) (hts (.instanceMethod objectInit) (List.mem_of_getElem? (i := 2) rfl)) (hts _ (List.mem_of_getElem? (i := 3) rfl)) rfl (by rw [hml]; exact hl.1) rfl dX0_init_1 (Nat.le_of_ble_eq_true rfl) (Nat.le_of_ble_eq_true rfl) ?_
  refine W.eq (g2 := F0 m 4 ls []) rfl ?_
  refine lv_aload_n hx hb dX0_init_4 rfl (lv_at hl 0 rfl) ?_
  refine lv_bipush (v := 7) hx hb dX0_init_5 (by decide) ?_
  refine c_newi (atype := .int) (ty := .int) (cA := G.2.1) (t0 := 1) hx hb rfl rfl (hts (.arrayClass .int) (List.mem_of_getElem? (i := 4) rfl)) (fun h => h) hK rfl hP hS (n := 7) (N := 7) (by decide) (by decide) (Nat.le_of_ble_eq_true rfl) (Nat.le_of_ble_eq_true rfl) (Nat.le_of_ble_eq_true rfl) dX0_init_7 (fun H hP hS => ?_)
  refine c_putF (ci := 2) (fs := [.int 0, .int 0, .int 0, .int 0, .int 0, .int 0, .int 0, .int 0, .int 0, .int 0, .int 0, .int 0, .int 0, .int 0, .int 0, .null]) (v := .ref (h0 + 1)) (ty := .array .int) (C := RX0) (T := TX0) (N := 16) hx hb hts inX0 tyX0 tyX0_ok nmX0 hown hK hP hS 0 (by decide) rfl rfl rfl 15 (by decide) (hts (.fieldLink RX0 9 "TileRunners$Body" "statistics" "[I") (List.mem_of_getElem? (i := 5) rfl)) (fun _ h9 => h9) rfl hin rfl (by decide +kernel) rfl rfl (Nat.le_of_ble_eq_true rfl) dX0_init_9 (fun H locs hP hS => ?_)
  exact W.vret hx hb hr (fun t ht hW => ⟨⟨(), rfl, trivial, by show cP D h0 2 (w0 G h0) t.heap; rw [ht]; exact hP.cg (fun t ht h => by rcases (show t = 0 ∨ t = 1 by omega) with rfl | rfl <;> exact h)⟩, hS.F ht⟩) hS.2.2 dX0_init_12
set_option maxHeartbeats 4000000 in
set_option maxRecDepth 100000 in
theorem n2_init (l : Launch) {D : va_G} {G : CY} (h0 : Nat) : Met l yX2_init wsX2_init { frames := 1, cells := 0, slots := 0, locals := 12 } (va_Pc [.ref h0] (Hc D G h0 (.inr (4, [.int 0, .int 0, .int 0, .int 0, .int 0, .int 0, .int 0])))) (va_Qv (fun _ : Unit => True) (fun _ t => cP D h0 1 (w2 G h0) t.heap) (AC h0)) 0 0 (AC h0) := by
  refine Met.ofW (cc := cX2_init) (maxL := 1) (ret := none) (by decide) rfl ?_
  intro p e s m args below meth c s₁ B hml hv
  obtain ⟨rfl, hP, hK, hN⟩ := hv
  have hx := B.exec
  have hb := B.bytes
  have hr := B.returns
  have hts := atoms_spec (ws := wsX2_init) B.pre
  have hown : s.vm.findClass RX2 = some m.cls := findClass_of_methodNamed B.named
  have hlocks := B.notSynchronized
  have hin : meth.name = "<init>" := (name_of_methodNamed B.named B.method).1
  have hS : va_S (AC h0) s.heap s.heap [] := va_S.rf
  have hl := lv_entry ([.ref h0]) (n := 1) (Nat.le_of_ble_eq_true rfl)
  rw [lg_entry_eq]
  generalize (lg_sl ([.ref h0]) ++ List.replicate (1 - (lg_sl ([.ref h0])).length) Slot.unset).toArray = ls at hl ⊢
  have hl : lv_has ls 1 [(0, .ref h0)] := hl
  refine lv_aload_n hx hb dX2_init_0 rfl (lv_at hl 0 rfl) ?_
  refine W.objInit hx hb hown (hts (.methodLink RX2 1 objectInit) (List.mem_of_getElem? (i := 1) rfl)) (hts (.instanceMethod objectInit) (List.mem_of_getElem? (i := 2) rfl)) (hts _ (List.mem_of_getElem? (i := 3) rfl)) rfl (by rw [hml]; exact hl.1) rfl dX2_init_1 (Nat.le_of_ble_eq_true rfl) (Nat.le_of_ble_eq_true rfl) ?_
  refine W.eq (g2 := F0 m 4 ls []) rfl ?_
  exact W.vret hx hb hr (fun t ht hW => ⟨⟨(), rfl, trivial, by show cP D h0 1 (w2 G h0) t.heap; rw [ht]; exact hP.cg (fun t ht h => by rcases (show t = 0 by omega) with rfl <;> exact h)⟩, hS.F ht⟩) hS.2.2 dX2_init_4
set_option maxHeartbeats 4000000 in
set_option maxRecDepth 100000 in
theorem n3_init (l : Launch) {D : va_G} {G : CY} (h0 : Nat) : Met l yX3_init wsX3_init { frames := 1, cells := 3, slots := 80, locals := 12 } (va_Pc [.ref h0] (Hc D G h0 (.inr (5, [.null, .int 0, .null, .null, .int 0])))) (va_Qv (fun _ : Unit => True) (fun _ t => cP D h0 4 (w3 G h0) t.heap) (AC h0)) 3 80 (AC h0) := by
  refine Met.ofW (cc := cX3_init) (maxL := 1) (ret := none) (by decide) rfl ?_
  intro p e s m args below meth c s₁ B hml hv
  obtain ⟨rfl, hP, hK, hN⟩ := hv
  have hx := B.exec
  have hb := B.bytes
  have hr := B.returns
  have hts := atoms_spec (ws := wsX3_init) B.pre
  have hown : s.vm.findClass RX3 = some m.cls := findClass_of_methodNamed B.named
  have hlocks := B.notSynchronized
  have hin : meth.name = "<init>" := (name_of_methodNamed B.named B.method).1
  have inX3 : ∀ w ∈ wsX30, w ∈ wsX3_init := (fun w h => List.mem_cons_of_mem _ (List.mem_append_right _ h))
  have hS : va_S (AC h0) s.heap s.heap [] := va_S.rf
  have hl := lv_entry ([.ref h0]) (n := 1) (Nat.le_of_ble_eq_true rfl)
  rw [lg_entry_eq]
  generalize (lg_sl ([.ref h0]) ++ List.replicate (1 - (lg_sl ([.ref h0])).length) Slot.unset).toArray = ls at hl ⊢
  have hl : lv_has ls 1 [(0, .ref h0)] := hl
  refine lv_aload_n hx hb dX3_init_0 rfl (lv_at hl 0 rfl) ?_
  refine W.objInit hx hb hown (hts (.methodLink RX3 3 objectInit) (List.mem_of_getElem? (i := 1) rfl)) (hts (.instanceMethod objectInit) (List.mem_of_getElem? (i := 2) rfl)) (hts _ (List.mem_of_getElem? (i := 3) rfl)) rfl (by rw [hml]; exact hl.1) rfl dX3_init_1 (Nat.le_of_ble_eq_true rfl) (Nat.le_of_ble_eq_true rfl) ?_
  refine W.eq (g2 := F0 m 4 ls []) rfl ?_
  refine lv_aload_n hx hb dX3_init_4 rfl (lv_at hl 0 rfl) ?_
  refine lv_bipush (v := 40) hx hb dX3_init_5 (by decide) ?_
  refine c_newi (atype := .char) (ty := .char) (cA := G.1) (t0 := 0) hx hb rfl rfl (hts (.arrayClass .char) (List.mem_of_getElem? (i := 4) rfl)) (fun h => h) hK rfl hP hS (n := 40) (N := 40) (by decide) (by decide) (Nat.le_of_ble_eq_true rfl) (Nat.le_of_ble_eq_true rfl) (Nat.le_of_ble_eq_true rfl) dX3_init_7 (fun H hP hS => ?_)
  refine c_putF (ci := 5) (fs := [.null, .int 0, .null, .null, .int 0]) (v := .ref (h0 + 1)) (ty := .array .char) (C := RX3) (T := TX3) (N := 5) hx hb hts inX3 tyX3 tyX3_ok nmX3 hown hK hP hS 0 (by decide) rfl rfl rfl 0 (by decide) (hts (.fieldLink RX3 9 "TileRunners$Text" "signs" "[C") (List.mem_of_getElem? (i := 5) rfl)) (fun _ h9 => h9) rfl hin rfl (by decide +kernel) rfl rfl (Nat.le_of_ble_eq_true rfl) dX3_init_9 (fun H locs hP hS => ?_)
  refine lv_aload_n hx hb dX3_init_12 rfl (lv_at hl 0 rfl) ?_
  refine lv_bipush (v := 20) hx hb dX3_init_13 (by decide) ?_
  refine c_newi (atype := .int) (ty := .int) (cA := G.2.1) (t0 := 1) hx hb rfl rfl (hts (.arrayClass .int) (List.mem_of_getElem? (i := 6) rfl)) (fun h => h) hK rfl hP hS (n := 20) (N := 20) (by decide) (by decide) (Nat.le_of_ble_eq_true rfl) (Nat.le_of_ble_eq_true rfl) (Nat.le_of_ble_eq_true rfl) dX3_init_15 (fun H hP hS => ?_)
  refine c_putF (ci := 5) (fs := [.ref (h0 + 1), .int 0, .null, .null, .int 0]) (v := .ref (h0 + 2)) (ty := .array .int) (C := RX3) (T := TX3) (N := 5) hx hb hts inX3 tyX3 tyX3_ok nmX3 hown hK hP hS 0 (by decide) rfl rfl rfl 2 (by decide) (hts (.fieldLink RX3 15 "TileRunners$Text" "commandKeys" "[I") (List.mem_of_getElem? (i := 7) rfl)) (fun _ h9 => h9) rfl hin rfl (by decide +kernel) rfl rfl (Nat.le_of_ble_eq_true rfl) dX3_init_17 (fun H locs hP hS => ?_)
  refine lv_aload_n hx hb dX3_init_20 rfl (lv_at hl 0 rfl) ?_
  refine lv_bipush (v := 20) hx hb dX3_init_21 (by decide) ?_
  refine c_newi (atype := .int) (ty := .int) (cA := G.2.1) (t0 := 1) hx hb rfl rfl (hts (.arrayClass .int) (List.mem_of_getElem? (i := 6) rfl)) (fun h => h) hK rfl hP hS (n := 20) (N := 20) (by decide) (by decide) (Nat.le_of_ble_eq_true rfl) (Nat.le_of_ble_eq_true rfl) (Nat.le_of_ble_eq_true rfl) dX3_init_23 (fun H hP hS => ?_)
  refine c_putF (ci := 5) (fs := [.ref (h0 + 1), .int 0, .ref (h0 + 2), .null, .int 0]) (v := .ref (h0 + 3)) (ty := .array .int) (C := RX3) (T := TX3) (N := 5) hx hb hts inX3 tyX3 tyX3_ok nmX3 hown hK hP hS 0 (by decide) rfl rfl rfl 3 (by decide) (hts (.fieldLink RX3 19 "TileRunners$Text" "commandTicks" "[I") (List.mem_of_getElem? (i := 8) rfl)) (fun _ h9 => h9) rfl hin rfl (by decide +kernel) rfl rfl (Nat.le_of_ble_eq_true rfl) dX3_init_25 (fun H locs hP hS => ?_)
  exact W.vret hx hb hr (fun t ht hW => ⟨⟨(), rfl, trivial, by show cP D h0 4 (w3 G h0) t.heap; rw [ht]; exact hP.cg (fun t ht h => by rcases (show t = 0 ∨ t = 1 ∨ t = 2 ∨ t = 3 by omega) with rfl | rfl | rfl | rfl <;> exact h)⟩, hS.F ht⟩) hS.2.2 dX3_init_28
set_option maxHeartbeats 4000000 in
set_option maxRecDepth 100000 in
theorem n7_init (l : Launch) {D : va_G} {G : CY} (h0 : Nat) : Met l yX7_init wsX7_init { frames := 1, cells := 10, slots := 7292, locals := 12 } (va_Pc [.ref h0] (Hc D G h0 (.inr (9, [.int 0, .null, .null, .null, .null, .null, .null, .null, .int 0, .int 0, .null, .null, .null, .int 0, .int 0, .int 0, .int 0])))) (va_Qv (fun _ : Unit => True) (fun _ t => cP D h0 11 (w7 G h0) t.heap) (AC h0)) 10 7292 (AC h0) := by
  refine Met.ofW (cc := cX7_init) (maxL := 1) (ret := none) (by decide) rfl ?_
  intro p e s m args below meth c s₁ B hml hv
  obtain ⟨rfl, hP, hK, hN⟩ := hv
  have hx := B.exec
  have hb := B.bytes
  have hr := B.returns
  have hts := atoms_spec (ws := wsX7_init) B.pre
  have hown : s.vm.findClass RX7 = some m.cls := findClass_of_methodNamed B.named
  have hlocks := B.notSynchronized
  have hin : meth.name = "<init>" := (name_of_methodNamed B.named B.method).1
  have inX7 : ∀ w ∈ wsX70, w ∈ wsX7_init := (fun w h => List.mem_cons_of_mem _ (List.mem_append_left _ (List.mem_append_right _ h)))
  have hS : va_S (AC h0) s.heap s.heap [] := va_S.rf
  have hl := lv_entry ([.ref h0]) (n := 1) (Nat.le_of_ble_eq_true rfl)
  rw [lg_entry_eq]
  generalize (lg_sl ([.ref h0]) ++ List.replicate (1 - (lg_sl ([.ref h0])).length) Slot.unset).toArray = ls at hl ⊢
  have hl : lv_has ls 1 [(0, .ref h0)] := hl
  refine lv_aload_n hx hb dX7_init_0 rfl (lv_at hl 0 rfl) ?_
  refine W.objInit hx hb hown (hts (.methodLink RX7 1 objectInit) (List.mem_of_getElem? (i := 1) rfl)) (hts (.instanceMethod objectInit) (List.mem_of_getElem? (i := 2) rfl)) (hts _ (List.mem_of_getElem? (i := 3) rfl)) rfl (by rw [hml]; exact hl.1) rfl dX7_init_1 (Nat.le_of_ble_eq_true rfl) (Nat.le_of_ble_eq_true rfl) ?_
  refine W.eq (g2 := F0 m 4 ls []) rfl ?_
  refine lv_aload_n hx hb dX7_init_4 rfl (lv_at hl 0 rfl) ?_
  refine lv_sipush (v := 480) hx hb dX7_init_5 (by decide) ?_
  refine c_newi (atype := .int) (ty := .int) (cA := G.2.1) (t0 := 1) hx hb rfl rfl (hts (.arrayClass .int) (List.mem_of_getElem? (i := 4) rfl)) (fun h => h) hK rfl hP hS (n := 480) (N := 480) (by decide) (by decide) (Nat.le_of_ble_eq_true rfl) (Nat.le_of_ble_eq_true rfl) (Nat.le_of_ble_eq_true rfl) dX7_init_8 (fun H hP hS => ?_)
  refine c_putF (ci := 9) (fs := [.int 0, .null, .null, .null, .null, .null, .null, .null, .int 0, .int 0, .null, .null, .null, .int 0, .int 0, .int 0, .int 0]) (v := .ref (h0 + 1)) (ty := .array .int) (C := RX7) (T := TX7) (N := 17) hx hb hts inX7 tyX7 tyX7_ok nmX7 hown hK hP hS 0 (by decide) rfl rfl rfl 1 (by decide) (hts (.fieldLink RX7 7 "TileRunnersModel" "world" "[I") (List.mem_of_getElem? (i := 5) rfl)) (fun _ h9 => h9) rfl hin rfl (by decide +kernel) rfl rfl (Nat.le_of_ble_eq_true rfl) dX7_init_10 (fun H locs hP hS => ?_)
  refine lv_aload_n hx hb dX7_init_13 rfl (lv_at hl 0 rfl) ?_
  refine lv_iconst (v := 4) hx hb dX7_init_14 (by decide) ?_
  refine c_newi (atype := .int) (ty := .int) (cA := G.2.1) (t0 := 1) hx hb rfl rfl (hts (.arrayClass .int) (List.mem_of_getElem? (i := 4) rfl)) (fun h => h) hK rfl hP hS (n := 4) (N := 4) (by decide) (by decide) (Nat.le_of_ble_eq_true rfl) (Nat.le_of_ble_eq_true rfl) (Nat.le_of_ble_eq_true rfl) dX7_init_15 (fun H hP hS => ?_)
  refine lv_dup hx hb dX7_init_17 rfl ?_
  refine lv_iconst (v := 0) hx hb dX7_init_18 (by decide) ?_
  refine lv_iconst (v := 5) hx hb dX7_init_19 (by decide) ?_
  refine c_iast (cA := G.2.1) hx hb hK hP hS 2 1 (by decide) rfl rfl rfl (vp_in_iff.mpr (by decide)) dX7_init_20 (fun H locs hP hS => ?_)
  refine lv_dup hx hb dX7_init_21 rfl ?_
  refine lv_iconst (v := 1) hx hb dX7_init_22 (by decide) ?_
  refine lv_bipush (v := 10) hx hb dX7_init_23 (by decide) ?_
  refine c_iast (cA := G.2.1) hx hb hK hP hS 2 1 (by decide) rfl rfl rfl (vp_in_iff.mpr (by decide)) dX7_init_25 (fun H locs hP hS => ?_)
  refine lv_dup hx hb dX7_init_26 rfl ?_
  refine lv_iconst (v := 2) hx hb dX7_init_27 (by decide) ?_
  refine lv_iconst (v := 4) hx hb dX7_init_28 (by decide) ?_
  refine c_iast (cA := G.2.1) hx hb hK hP hS 2 1 (by decide) rfl rfl rfl (vp_in_iff.mpr (by decide)) dX7_init_29 (fun H locs hP hS => ?_)
  refine lv_dup hx hb dX7_init_30 rfl ?_
  refine lv_iconst (v := 3) hx hb dX7_init_31 (by decide) ?_
  refine lv_iconst (v := 3) hx hb dX7_init_32 (by decide) ?_
  refine c_iast (cA := G.2.1) hx hb hK hP hS 2 1 (by decide) rfl rfl rfl (vp_in_iff.mpr (by decide)) dX7_init_33 (fun H locs hP hS => ?_)
  refine c_putF (ci := 9) (fs := [.int 0, .ref (h0 + 1), .null, .null, .null, .null, .null, .null, .int 0, .int 0, .null, .null, .null, .int 0, .int 0, .int 0, .int 0]) (v := .ref (h0 + 2)) (ty := .array .int) (C := RX7) (T := TX7) (N := 17) hx hb hts inX7 tyX7 tyX7_ok nmX7 hown hK hP hS 0 (by decide) rfl rfl rfl 2 (by decide) (hts (.fieldLink RX7 13 "TileRunnersModel" "setting" "[I") (List.mem_of_getElem? (i := 6) rfl)) (fun _ h9 => h9) rfl hin rfl (by decide +kernel) rfl rfl (Nat.le_of_ble_eq_true rfl) dX7_init_34 (fun H locs hP hS => ?_)
  refine lv_aload_n hx hb dX7_init_37 rfl (lv_at hl 0 rfl) ?_
  refine lv_iconst (v := 4) hx hb dX7_init_38 (by decide) ?_
  refine c_newi (atype := .int) (ty := .int) (cA := G.2.1) (t0 := 1) hx hb rfl rfl (hts (.arrayClass .int) (List.mem_of_getElem? (i := 4) rfl)) (fun h => h) hK rfl hP hS (n := 4) (N := 4) (by decide) (by decide) (Nat.le_of_ble_eq_true rfl) (Nat.le_of_ble_eq_true rfl) (Nat.le_of_ble_eq_true rfl) dX7_init_39 (fun H hP hS => ?_)
  refine c_putF (ci := 9) (fs := [.int 0, .ref (h0 + 1), .ref (h0 + 2), .null, .null, .null, .null, .null, .int 0, .int 0, .null, .null, .null, .int 0, .int 0, .int 0, .int 0]) (v := .ref (h0 + 3)) (ty := .array .int) (C := RX7) (T := TX7) (N := 17) hx hb hts inX7 tyX7 tyX7_ok nmX7 hown hK hP hS 0 (by decide) rfl rfl rfl 3 (by decide) (hts (.fieldLink RX7 16 "TileRunnersModel" "carrier" "[I") (List.mem_of_getElem? (i := 7) rfl)) (fun _ h9 => h9) rfl hin rfl (by decide +kernel) rfl rfl (Nat.le_of_ble_eq_true rfl) dX7_init_41 (fun H locs hP hS => ?_)
  refine lv_aload_n hx hb dX7_init_44 rfl (lv_at hl 0 rfl) ?_
  refine lv_sipush (v := 5760) hx hb dX7_init_45 (by decide) ?_
  refine c_newi (atype := .int) (ty := .int) (cA := G.2.1) (t0 := 1) hx hb rfl rfl (hts (.arrayClass .int) (List.mem_of_getElem? (i := 4) rfl)) (fun h => h) hK rfl hP hS (n := 5760) (N := 5760) (by decide) (by decide) (Nat.le_of_ble_eq_true rfl) (Nat.le_of_ble_eq_true rfl) (Nat.le_of_ble_eq_true rfl) dX7_init_48 (fun H hP hS => ?_)
  refine c_putF (ci := 9) (fs := [.int 0, .ref (h0 + 1), .ref (h0 + 2), .ref (h0 + 3), .null, .null, .null, .null, .int 0, .int 0, .null, .null, .null, .int 0, .int 0, .int 0, .int 0]) (v := .ref (h0 + 4)) (ty := .array .int) (C := RX7) (T := TX7) (N := 17) hx hb hts inX7 tyX7 tyX7_ok nmX7 hown hK hP hS 0 (by decide) rfl rfl rfl 4 (by decide) (hts (.fieldLink RX7 19 "TileRunnersModel" "earlier" "[I") (List.mem_of_getElem? (i := 8) rfl)) (fun _ h9 => h9) rfl hin rfl (by decide +kernel) rfl rfl (Nat.le_of_ble_eq_true rfl) dX7_init_50 (fun H locs hP hS => ?_)
  refine lv_aload_n hx hb dX7_init_53 rfl (lv_at hl 0 rfl) ?_
  refine lv_sipush (v := 480) hx hb dX7_init_54 (by decide) ?_
  refine c_newi (atype := .int) (ty := .int) (cA := G.2.1) (t0 := 1) hx hb rfl rfl (hts (.arrayClass .int) (List.mem_of_getElem? (i := 4) rfl)) (fun h => h) hK rfl hP hS (n := 480) (N := 480) (by decide) (by decide) (Nat.le_of_ble_eq_true rfl) (Nat.le_of_ble_eq_true rfl) (Nat.le_of_ble_eq_true rfl) dX7_init_57 (fun H hP hS => ?_)
  refine c_putF (ci := 9) (fs := [.int 0, .ref (h0 + 1), .ref (h0 + 2), .ref (h0 + 3), .ref (h0 + 4), .null, .null, .null, .int 0, .int 0, .null, .null, .null, .int 0, .int 0, .int 0, .int 0]) (v := .ref (h0 + 5)) (ty := .array .int) (C := RX7) (T := TX7) (N := 17) hx hb hts inX7 tyX7 tyX7_ok nmX7 hown hK hP hS 0 (by decide) rfl rfl rfl 5 (by decide) (hts (.fieldLink RX7 22 "TileRunnersModel" "spare" "[I") (List.mem_of_getElem? (i := 9) rfl)) (fun _ h9 => h9) rfl hin rfl (by decide +kernel) rfl rfl (Nat.le_of_ble_eq_true rfl) dX7_init_59 (fun H locs hP hS => ?_)
  refine lv_aload_n hx hb dX7_init_62 rfl (lv_at hl 0 rfl) ?_
  refine lv_sipush (v := 480) hx hb dX7_init_63 (by decide) ?_
  refine c_newi (atype := .int) (ty := .int) (cA := G.2.1) (t0 := 1) hx hb rfl rfl (hts (.arrayClass .int) (List.mem_of_getElem? (i := 4) rfl)) (fun h => h) hK rfl hP hS (n := 480) (N := 480) (by decide) (by decide) (Nat.le_of_ble_eq_true rfl) (Nat.le_of_ble_eq_true rfl) (Nat.le_of_ble_eq_true rfl) dX7_init_66 (fun H hP hS => ?_)
  refine c_putF (ci := 9) (fs := [.int 0, .ref (h0 + 1), .ref (h0 + 2), .ref (h0 + 3), .ref (h0 + 4), .ref (h0 + 5), .null, .null, .int 0, .int 0, .null, .null, .null, .int 0, .int 0, .int 0, .int 0]) (v := .ref (h0 + 6)) (ty := .array .int) (C := RX7) (T := TX7) (N := 17) hx hb hts inX7 tyX7 tyX7_ok nmX7 hown hK hP hS 0 (by decide) rfl rfl rfl 6 (by decide) (hts (.fieldLink RX7 25 "TileRunnersModel" "saved" "[I") (List.mem_of_getElem? (i := 10) rfl)) (fun _ h9 => h9) rfl hin rfl (by decide +kernel) rfl rfl (Nat.le_of_ble_eq_true rfl) dX7_init_68 (fun H locs hP hS => ?_)
  refine lv_aload_n hx hb dX7_init_71 rfl (lv_at hl 0 rfl) ?_
  refine lv_iconst (v := 4) hx hb dX7_init_72 (by decide) ?_
  refine c_newi (atype := .int) (ty := .int) (cA := G.2.1) (t0 := 1) hx hb rfl rfl (hts (.arrayClass .int) (List.mem_of_getElem? (i := 4) rfl)) (fun h => h) hK rfl hP hS (n := 4) (N := 4) (by decide) (by decide) (Nat.le_of_ble_eq_true rfl) (Nat.le_of_ble_eq_true rfl) (Nat.le_of_ble_eq_true rfl) dX7_init_73 (fun H hP hS => ?_)
  refine c_putF (ci := 9) (fs := [.int 0, .ref (h0 + 1), .ref (h0 + 2), .ref (h0 + 3), .ref (h0 + 4), .ref (h0 + 5), .ref (h0 + 6), .null, .int 0, .int 0, .null, .null, .null, .int 0, .int 0, .int 0, .int 0]) (v := .ref (h0 + 7)) (ty := .array .int) (C := RX7) (T := TX7) (N := 17) hx hb hts inX7 tyX7 tyX7_ok nmX7 hown hK hP hS 0 (by decide) rfl rfl rfl 7 (by decide) (hts (.fieldLink RX7 28 "TileRunnersModel" "savedSetting" "[I") (List.mem_of_getElem? (i := 11) rfl)) (fun _ h9 => h9) rfl hin rfl (by decide +kernel) rfl rfl (Nat.le_of_ble_eq_true rfl) dX7_init_75 (fun H locs hP hS => ?_)
  refine lv_aload_n hx hb dX7_init_78 rfl (lv_at hl 0 rfl) ?_
  refine lv_bipush (v := 40) hx hb dX7_init_79 (by decide) ?_
  refine c_newi (atype := .char) (ty := .char) (cA := G.1) (t0 := 0) hx hb rfl rfl (hts (.arrayClass .char) (List.mem_of_getElem? (i := 12) rfl)) (fun h => h) hK rfl hP hS (n := 40) (N := 40) (by decide) (by decide) (Nat.le_of_ble_eq_true rfl) (Nat.le_of_ble_eq_true rfl) (Nat.le_of_ble_eq_true rfl) dX7_init_81 (fun H hP hS => ?_)
  refine c_putF (ci := 9) (fs := [.int 0, .ref (h0 + 1), .ref (h0 + 2), .ref (h0 + 3), .ref (h0 + 4), .ref (h0 + 5), .ref (h0 + 6), .ref (h0 + 7), .int 0, .int 0, .null, .null, .null, .int 0, .int 0, .int 0, .int 0]) (v := .ref (h0 + 8)) (ty := .array .char) (C := RX7) (T := TX7) (N := 17) hx hb hts inX7 tyX7 tyX7_ok nmX7 hown hK hP hS 0 (by decide) rfl rfl rfl 10 (by decide) (hts (.fieldLink RX7 31 "TileRunnersModel" "text" "[C") (List.mem_of_getElem? (i := 13) rfl)) (fun _ h9 => h9) rfl hin rfl (by decide +kernel) rfl rfl (Nat.le_of_ble_eq_true rfl) dX7_init_83 (fun H locs hP hS => ?_)
  refine lv_aload_n hx hb dX7_init_86 rfl (lv_at hl 0 rfl) ?_
  refine lv_bipush (v := 20) hx hb dX7_init_87 (by decide) ?_
  refine c_newi (atype := .int) (ty := .int) (cA := G.2.1) (t0 := 1) hx hb rfl rfl (hts (.arrayClass .int) (List.mem_of_getElem? (i := 4) rfl)) (fun h => h) hK rfl hP hS (n := 20) (N := 20) (by decide) (by decide) (Nat.le_of_ble_eq_true rfl) (Nat.le_of_ble_eq_true rfl) (Nat.le_of_ble_eq_true rfl) dX7_init_89 (fun H hP hS => ?_)
  refine c_putF (ci := 9) (fs := [.int 0, .ref (h0 + 1), .ref (h0 + 2), .ref (h0 + 3), .ref (h0 + 4), .ref (h0 + 5), .ref (h0 + 6), .ref (h0 + 7), .int 0, .int 0, .ref (h0 + 8), .null, .null, .int 0, .int 0, .int 0, .int 0]) (v := .ref (h0 + 9)) (ty := .array .int) (C := RX7) (T := TX7) (N := 17) hx hb hts inX7 tyX7 tyX7_ok nmX7 hown hK hP hS 0 (by decide) rfl rfl rfl 11 (by decide) (hts (.fieldLink RX7 35 "TileRunnersModel" "keysOf" "[I") (List.mem_of_getElem? (i := 14) rfl)) (fun _ h9 => h9) rfl hin rfl (by decide +kernel) rfl rfl (Nat.le_of_ble_eq_true rfl) dX7_init_91 (fun H locs hP hS => ?_)
  refine lv_aload_n hx hb dX7_init_94 rfl (lv_at hl 0 rfl) ?_
  refine lv_bipush (v := 20) hx hb dX7_init_95 (by decide) ?_
  refine c_newi (atype := .int) (ty := .int) (cA := G.2.1) (t0 := 1) hx hb rfl rfl (hts (.arrayClass .int) (List.mem_of_getElem? (i := 4) rfl)) (fun h => h) hK rfl hP hS (n := 20) (N := 20) (by decide) (by decide) (Nat.le_of_ble_eq_true rfl) (Nat.le_of_ble_eq_true rfl) (Nat.le_of_ble_eq_true rfl) dX7_init_97 (fun H hP hS => ?_)
  refine c_putF (ci := 9) (fs := [.int 0, .ref (h0 + 1), .ref (h0 + 2), .ref (h0 + 3), .ref (h0 + 4), .ref (h0 + 5), .ref (h0 + 6), .ref (h0 + 7), .int 0, .int 0, .ref (h0 + 8), .ref (h0 + 9), .null, .int 0, .int 0, .int 0, .int 0]) (v := .ref (h0 + 10)) (ty := .array .int) (C := RX7) (T := TX7) (N := 17) hx hb hts inX7 tyX7 tyX7_ok nmX7 hown hK hP hS 0 (by decide) rfl rfl rfl 12 (by decide) (hts (.fieldLink RX7 38 "TileRunnersModel" "ticksOf" "[I") (List.mem_of_getElem? (i := 15) rfl)) (fun _ h9 => h9) rfl hin rfl (by decide +kernel) rfl rfl (Nat.le_of_ble_eq_true rfl) dX7_init_99 (fun H locs hP hS => ?_)
  refine lv_aload_n hx hb dX7_init_102 rfl (lv_at hl 0 rfl) ?_
  refine lv_iconst (v := -1) hx hb dX7_init_103 (by decide) ?_
  refine c_put (ci := 9) (fs := [.int 0, .ref (h0 + 1), .ref (h0 + 2), .ref (h0 + 3), .ref (h0 + 4), .ref (h0 + 5), .ref (h0 + 6), .ref (h0 + 7), .int 0, .int 0, .ref (h0 + 8), .ref (h0 + 9), .ref (h0 + 10), .int 0, .int 0, .int 0, .int 0]) (v := .int (-1)) (ty := .int) (C := RX7) (T := TX7) (N := 17) hx hb hts inX7 tyX7 tyX7_ok nmX7 hown hK hP hS 0 (by decide) rfl rfl rfl 16 (by decide) (hts (.fieldLink RX7 41 "TileRunnersModel" "faultAt" "I") (List.mem_of_getElem? (i := 16) rfl)) (fun _ h9 => h9) rfl (by decide +kernel) rfl rfl (Nat.le_of_ble_eq_true rfl) dX7_init_104 (fun H locs hP hS => ?_)
  exact W.vret hx hb hr (fun t ht hW => ⟨⟨(), rfl, trivial, by show cP D h0 11 (w7 G h0) t.heap; rw [ht]; exact hP.cg (fun t ht h => by rcases (show t = 0 ∨ t = 1 ∨ t = 2 ∨ t = 3 ∨ t = 4 ∨ t = 5 ∨ t = 6 ∨ t = 7 ∨ t = 8 ∨ t = 9 ∨ t = 10 by omega) with rfl | rfl | rfl | rfl | rfl | rfl | rfl | rfl | rfl | rfl | rfl <;> exact h)⟩, hS.F ht⟩) hS.2.2 dX7_init_107
