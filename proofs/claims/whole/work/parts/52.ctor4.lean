/-! CONSTRUCTOR of TileRunners -/
def fsS : Nat → Int32 := fun j => ([5, 10, 4, 3] : List Int32).getD j 0
theorem fs_ofn : (Array.ofFn (n := 4) fun j => Value.int (fsS j.val)) = #[.int 5, .int 10, .int 4, .int 3] := by
  first | rfl | decide | (simp [Array.ofFn, Array.ofFn.go, fsS])
theorem fs_fit (i : Nat) (v : Value) (h : (#[.int 5, .int 10, .int 4, .int 3] : Array Value)[i]? = some v) : fits .int v = true := by
  rcases i with _ | _ | _ | _ | i
  · cases h; rfl
  · cases h; rfl
  · cases h; rfl
  · cases h; rfl
  · simp at h
def FSt (A : Nat → Prop) (U : State) (H : Heap) : Prop := ∃ (t : Nat) (cell : Cell), va_Z RX6 "FIRST_SETTINGS" "[I" (.ref t) A U H ∧ H[t]? = some cell ∧ ¬ A t ∧ U.isArrayOf cell .int ∧ cell.vm ≠ .unknown ∧ cell.slots = #[.int 5, .int 10, .int 4, .int 3] ∧ U.vm.findClass "[I" = some cell.cls
theorem FSt.moved {A : Nat → Prop} {u U : State} {H : Heap} (hvm : u.vm.Alike U.vm) (h : FSt A u H) : FSt A U H := by
  obtain ⟨t, cell, h1, h2, h3, h4, h5, h6, h7⟩ := h
  exact ⟨t, cell, va_Z.moved hvm h1, h2, h3, State.isArrayOf_alike hvm h4, h5, h6, by rw [hvm.findClass]; exact h7⟩
def Hc6 (D : va_G) (G : CY) (h0 : Nat) (x : va_E) (U : State) : Prop := Hc D G h0 x U ∧ FSt (AC h0) U U.heap
theorem hc6_blind {D : va_G} {G : CY} {h0 : Nat} {x : va_E} {av : List Value} : FrameBlind (va_Pc av (Hc6 D G h0 x)) := fun a U g mk q => by
  obtain ⟨q0, qH, qF⟩ := q
  exact ⟨q0, (hc_blind (av := av) a U g mk ⟨q0, qH⟩).2, FSt.moved (u := U) (U := U.calling g mk a) (Vm.Alike.refl U.vm) qF⟩
section CLN
variable {p : Program} {l : Launch} {e : Env} {R : Room} {s : State} {m : MethodId} {args : Array Value} {below : List Frame} {meth : Method} {c : Code} {H : Heap} {locs : List Loc} {cells slots : Nat} {Q : State → Prop}
variable {cc : ByteArray} {pc : Nat} {ls : Array Slot} {rest : List Value} {D : va_G} {G : CY} {H0 : Heap} {h0 k : Nat} {f : Nat → va_E}
theorem c_clone (hexec : p.tables.exec = Jvm.exec) (hb : c.code = cc) (hml : c.maxLocals = ls.size) {own : String} {index : Nat} (hown : s.vm.findClass own = some m.cls)
    (hlink : (Cond.methodLink own index ⟨"[I", "clone", "()Ljava/lang/Object;"⟩).before args s = true) (hsame : (Cond.sameMethod "[I" "java/lang/Object" "clone" "()Ljava/lang/Object;").before args s = true)
    (hnat : (Cond.native ⟨"java/lang/Object", "clone", "()Ljava/lang/Object;"⟩).before args s = true) (hinst : (Cond.instanceMethod ⟨"java/lang/Object", "clone", "()Ljava/lang/Object;"⟩).before args s = true)
    (hsel : (Cond.selects "[I" ⟨"[I", "clone", "()Ljava/lang/Object;"⟩ ⟨"java/lang/Object", "clone", "()Ljava/lang/Object;"⟩).before args s = true) (hcl : va_Nw (.castable "[I" "java/lang/Cloneable") s)
    (hK : va_K D vwCl (tysG G) s) (hP : cP D h0 k f H) (hS : va_S (AC h0) H0 H locs) {a : Nat} {cell : Cell} (hcell : H[a]? = some cell) (harr : s.isArrayOf cell .int) (hkn : cell.vm ≠ .unknown) (hsl : cell.slots = #[.int 5, .int 10, .int 4, .int 3]) (hnm : s.vm.findClass "[I" = some cell.cls)
    (hframes : 1 ≤ R.frames) (hlocals : (rest.map fun v => v.category).sum + 14 ≤ R.locals) (hcells : cells + 1 ≤ R.cells) (hslots : slots + 4 ≤ R.slots) (hdg : decode cc pc = .ok (.invokevirtual index, 3))
    (kk : ∀ H1 : Heap, cP D h0 (k+1) (va_up f k (.inl (G.2.1, 4, .inl fsS))) H1 → va_S (AC h0) H0 H1 locs → W p l e R s m args below meth c H1 locs (cells + 1) (slots + 4) Q (F0 m (pc + 3) ls (.ref (h0 + k) :: rest))) : W p l e R s m args below meth c H locs cells slots Q (F0 m pc ls (.ref a :: rest)) := by
  have hcA : cell.cls = G.2.1 := Option.some.inj (hnm.symm.trans (hK.2 1 _ rfl).2)
  have hsz : cell.slots.size = 4 := by rw [hsl]; rfl
  have hz := hP.1
  obtain ⟨c0, t0', f1, f2, f3⟩ := Cond.castable_spec (va_Nw.use (A := args) rfl hcl)
  cases hnm.symm.trans f1
  intro T hT X
  have hcellT : T.heap[a]? = some cell := by rw [hT]; exact hcell
  obtain ⟨-, kA, hkA, comp, hkind⟩ := State.isArrayOf_alike X.warmed.alike harr
  obtain ⟨-, kS, hkS, compS, hkindS⟩ := id harr
  obtain ⟨vm', X', st⟩ := X.cloneArray hexec hown hlink hsame hnat hinst hsel (a := a) (cell := cell) hcellT harr.1 hkn hnm f2 f3
    (fun i v hv => by
      have hk' : T.vm.classes[cell.cls]? = some kA := hkA
      rw [hsl] at hv
      simpa [State.fitsSlot, State.slotType?, hk', hkind] using fs_fit i v hv)
    (g := F0 m pc ls (.ref a :: rest)) rfl (by rw [hml]) rfl (by rw [hb]; exact hdg) hframes (by show 2 * 0 + _ + 14 ≤ _; omega) hcells (by rw [hsz]; exact hslots) (hloader := Vm.clonesLoader_of_array hkS hkindS)
  have hcE : ({ cls := cell.cls, slots := cell.slots } : Cell) = vp_cell G.2.1 (4, .inl fsS) := by
    rw [vp_cell_i]
    unfold arrV
    rw [fs_ofn, hcA, hsl]
  rw [hcE, hsz] at X'
  generalize hH1 : H.push (vp_cell G.2.1 (4, .inl fsS)) = H1
  have z1 : H1.size = H.size + 1 := by rw [← hH1, Array.size_push]
  have e1 : H1[H.size]? = some (vp_cell G.2.1 (4, .inl fsS)) := by rw [← hH1, Array.getElem?_push_size]
  have o2 : ∀ q : Nat, q < H.size → H1[q]? = H[q]? := fun q hq => by rw [← hH1, Array.getElem?_push, if_neg (Nat.ne_of_lt hq)]
  obtain ⟨t, b1, b2⟩ := kk H1 (hP.push z1 o2 (by show H1[h0+k]? = _; rw [← hz]; exact e1)) (cS.push hS z1 o2) ((T.setVm vm').pushCell (vp_cell G.2.1 (4, .inl fsS))) (by rw [← hH1, ← hT]; rfl) X'
  refine ⟨t, st t ?_, b2⟩
  rw [hcE, hT, hz]
  exact b1
end CLN
def w6 (G : CY) (h0 : Nat) : Nat → va_E := fun t => if t = 0 then .inr (8, [.ref (h0 + 1), .ref (h0 + 19), .ref (h0 + 37), .ref (h0 + 55), .ref (h0 + 56), .ref (h0 + 57), .ref (h0 + 275), .int 0, .int (-1)]) else if t < 19 then w5 G (h0 + 1) (t - 1) else if t < 37 then w5 G (h0 + 19) (t - 19) else if t < 55 then w5 G (h0 + 37) (t - 37) else if t < 57 then .inl (G.2.1, 4, .inl fsS) else if t < 275 then w1 G (h0 + 57) (t - 57) else w3 G (h0 + 275) (t - 275)
set_option maxHeartbeats 4000000 in
set_option maxRecDepth 100000 in
theorem n6_init (l : Launch) {D : va_G} {G : CY} (h0 : Nat) : Met l yX6_init wsX6_init { frames := 4, cells := 278, slots := 7248, locals := 74 } (va_Pc [.ref h0] (Hc6 D G h0 (.inr (8, [.null, .null, .null, .null, .null, .null, .null, .int 0, .int 0])))) (va_Qv (fun _ : Unit => True) (fun _ t => cP D h0 279 (w6 G h0) t.heap) (AC h0)) 278 7248 (AC h0) := by
  refine Met.ofW (cc := cX6_init) (maxL := 1) (ret := none) (by decide) rfl ?_
  intro p e s m args below meth c s₁ B hml hv
  obtain ⟨rfl, ⟨hP, hK, hN⟩, ft, fcell, hZ, hfc, hfn, hfa, hfu, hfs, hfm⟩ := hv
  have hx := B.exec
  have hb := B.bytes
  have hr := B.returns
  have hts := atoms_spec (ws := wsX6_init) B.pre
  have hown : s.vm.findClass RX6 = some m.cls := findClass_of_methodNamed B.named
  have hlocks := B.notSynchronized
  have hin : meth.name = "<init>" := (name_of_methodNamed B.named B.method).1
  have inX1 : ∀ w ∈ wsX10, w ∈ wsX6_init := (fun w h => List.mem_cons_of_mem _ (List.mem_append_left _ (List.mem_append_left _ (List.mem_append_left _ (List.mem_append_left _ (List.mem_append_right _ h))))))
  have inX3 : ∀ w ∈ wsX30, w ∈ wsX6_init := (fun w h => List.mem_cons_of_mem _ (List.mem_append_left _ (List.mem_append_left _ (List.mem_append_left _ (List.mem_append_right _ h)))))
  have inX5 : ∀ w ∈ wsX50, w ∈ wsX6_init := (fun w h => List.mem_cons_of_mem _ (List.mem_append_left _ (List.mem_append_left _ (List.mem_append_left _ (List.mem_append_left _ (List.mem_append_left _ (List.mem_append_left _ (List.mem_append_right _ h))))))))
  have inX6 : ∀ w ∈ wsX60, w ∈ wsX6_init := (fun w h => List.mem_cons_of_mem _ (List.mem_append_left _ (List.mem_append_left _ (List.mem_append_left _ (List.mem_append_left _ (List.mem_append_left _ (List.mem_append_right _ h)))))))
  have hS : va_S (AC h0) s.heap s.heap [] := va_S.rf
  have hl := lv_entry ([.ref h0]) (n := 1) (Nat.le_of_ble_eq_true rfl)
  rw [lg_entry_eq]
  generalize (lg_sl ([.ref h0]) ++ List.replicate (1 - (lg_sl ([.ref h0])).length) Slot.unset).toArray = ls at hl ⊢
  have hl : lv_has ls 1 [(0, .ref h0)] := hl
  refine lv_aload_n hx hb dX6_init_0 rfl (lv_at hl 0 rfl) ?_
  refine W.objInit hx hb hown (hts (.methodLink RX6 3 objectInit) (List.mem_of_getElem? (i := 1) rfl)) (hts (.instanceMethod objectInit) (List.mem_of_getElem? (i := 2) rfl)) (hts _ (List.mem_of_getElem? (i := 3) rfl)) rfl (by rw [hml]; exact hl.1) rfl dX6_init_1 (Nat.le_of_ble_eq_true rfl) (Nat.le_of_ble_eq_true rfl) ?_
  refine W.eq (g2 := F0 m 4 ls []) rfl ?_
  refine lv_aload_n hx hb dX6_init_4 rfl (lv_at hl 0 rfl) ?_
  refine c_new (ci := 7) (fs := [.null, .null, .null, .null, .int 0, .int 0, .int 0]) (C := RX5) (T := TX5) (N := 7) hx hb hts inX5 tyX5 tyX5_ok hown (hts (.classLink RX6 9 RX5) (List.mem_of_getElem? (i := 4) rfl)) (hts (.instantiable RX5 7) (List.mem_of_getElem? (i := 5) rfl)) (hts (.initialized RX5) (List.mem_of_getElem? (i := 6) rfl)) hK hP hS rfl (fun j hj => by rcases (show j = 0 ∨ j = 1 ∨ j = 2 ∨ j = 3 ∨ j = 4 ∨ j = 5 ∨ j = 6 by omega) with rfl | rfl | rfl | rfl | rfl | rfl | rfl <;> rfl) (Nat.le_of_ble_eq_true rfl) (Nat.le_of_ble_eq_true rfl) dX6_init_5 (fun H hP hS => ?_)
  refine lv_dup hx hb dX6_init_8 rfl ?_
  have hPc := hP.last (b := 1) (x := .inr (7, [.null, .null, .null, .null, .int 0, .int 0, .int 0])) rfl
  refine va_callv (va_runI (As := []) (rest := [.ref (h0 + 1), .ref h0]) ⟨hx, hb, hml, hown, hts⟩ (n5_init l (D := D) (G := G) (h0 + 1)) (cwI 0 hts gX6_init_X5_init rfl rfl rfl (hts (.initialized RX5) (List.mem_of_getElem? (i := 6) rfl)) (hts (.methodLink RX6 11 yX5_init) (List.mem_of_getElem? (i := 29) rfl)) (hts (.instanceMethod yX5_init) (List.mem_of_getElem? (i := 30) rfl)) rfl (by decide +kernel) ⟨(Nat.le_of_ble_eq_true rfl), (Nat.le_of_ble_eq_true rfl)⟩) ⟨hc_blind, hc_pre hK hN hPc⟩ rfl rfl hl.1 rfl (lv_room (Nat.le_of_ble_eq_true rfl)) dX6_init_9 ⟨(Nat.le_of_ble_eq_true rfl), (Nat.le_of_ble_eq_true rfl)⟩) hS (fun q _ h => Nat.le_trans (Nat.le_add_right _ _) h) (fun q h => Nat.le_trans (Nat.le_add_right _ _) h) (fun u9 t H locs ht hvm hw9 hB hz1 hk1 hS => ?_)
  have hB : cP D (h0 + 1) 18 (w5 G (h0 + 1)) H := by rw [← ht]; exact hB
  have hP := hP.call (b := 1) hB hk1
  refine c_putF (ci := 8) (fs := [.null, .null, .null, .null, .null, .null, .null, .int 0, .int 0]) (v := .ref (h0 + 1)) (ty := .object "TileRunners$World") (C := RX6) (T := TX6) (N := 9) hx hb hts inX6 tyX6 tyX6_ok nmX6 hown hK hP hS 0 (by decide) rfl rfl rfl 0 (by decide) (hts (.fieldLink RX6 12 "TileRunners" "world" "LTileRunners$World;") (List.mem_of_getElem? (i := 7) rfl)) (fun _ h9 => h9) rfl hin rfl (by decide +kernel) rfl rfl (Nat.le_of_ble_eq_true rfl) dX6_init_12 (fun H locs hP hS => ?_)
  refine lv_aload_n hx hb dX6_init_15 rfl (lv_at hl 0 rfl) ?_
  refine c_new (ci := 7) (fs := [.null, .null, .null, .null, .int 0, .int 0, .int 0]) (C := RX5) (T := TX5) (N := 7) hx hb hts inX5 tyX5 tyX5_ok hown (hts (.classLink RX6 9 RX5) (List.mem_of_getElem? (i := 4) rfl)) (hts (.instantiable RX5 7) (List.mem_of_getElem? (i := 5) rfl)) (hts (.initialized RX5) (List.mem_of_getElem? (i := 6) rfl)) hK hP hS rfl (fun j hj => by rcases (show j = 0 ∨ j = 1 ∨ j = 2 ∨ j = 3 ∨ j = 4 ∨ j = 5 ∨ j = 6 by omega) with rfl | rfl | rfl | rfl | rfl | rfl | rfl <;> rfl) (Nat.le_of_ble_eq_true rfl) (Nat.le_of_ble_eq_true rfl) dX6_init_16 (fun H hP hS => ?_)
  refine lv_dup hx hb dX6_init_19 rfl ?_
  have hPc := hP.last (b := 19) (x := .inr (7, [.null, .null, .null, .null, .int 0, .int 0, .int 0])) rfl
  refine va_callv (va_runI (As := []) (rest := [.ref (h0 + 19), .ref h0]) ⟨hx, hb, hml, hown, hts⟩ (n5_init l (D := D) (G := G) (h0 + 19)) (cwI 0 hts gX6_init_X5_init rfl rfl rfl (hts (.initialized RX5) (List.mem_of_getElem? (i := 6) rfl)) (hts (.methodLink RX6 11 yX5_init) (List.mem_of_getElem? (i := 29) rfl)) (hts (.instanceMethod yX5_init) (List.mem_of_getElem? (i := 30) rfl)) rfl (by decide +kernel) ⟨(Nat.le_of_ble_eq_true rfl), (Nat.le_of_ble_eq_true rfl)⟩) ⟨hc_blind, hc_pre hK hN hPc⟩ rfl rfl hl.1 rfl (lv_room (Nat.le_of_ble_eq_true rfl)) dX6_init_20 ⟨(Nat.le_of_ble_eq_true rfl), (Nat.le_of_ble_eq_true rfl)⟩) hS (fun q _ h => Nat.le_trans (Nat.le_add_right _ _) h) (fun q h => Nat.le_trans (Nat.le_add_right _ _) h) (fun u9 t H locs ht hvm hw9 hB hz1 hk1 hS => ?_)
  have hB : cP D (h0 + 19) 18 (w5 G (h0 + 19)) H := by rw [← ht]; exact hB
  have hP := hP.call (b := 19) hB hk1
  refine c_putF (ci := 8) (fs := [.ref (h0 + 1), .null, .null, .null, .null, .null, .null, .int 0, .int 0]) (v := .ref (h0 + 19)) (ty := .object "TileRunners$World") (C := RX6) (T := TX6) (N := 9) hx hb hts inX6 tyX6 tyX6_ok nmX6 hown hK hP hS 0 (by decide) rfl rfl rfl 1 (by decide) (hts (.fieldLink RX6 16 "TileRunners" "trial" "LTileRunners$World;") (List.mem_of_getElem? (i := 8) rfl)) (fun _ h9 => h9) rfl hin rfl (by decide +kernel) rfl rfl (Nat.le_of_ble_eq_true rfl) dX6_init_23 (fun H locs hP hS => ?_)
  refine lv_aload_n hx hb dX6_init_26 rfl (lv_at hl 0 rfl) ?_
  refine c_new (ci := 7) (fs := [.null, .null, .null, .null, .int 0, .int 0, .int 0]) (C := RX5) (T := TX5) (N := 7) hx hb hts inX5 tyX5 tyX5_ok hown (hts (.classLink RX6 9 RX5) (List.mem_of_getElem? (i := 4) rfl)) (hts (.instantiable RX5 7) (List.mem_of_getElem? (i := 5) rfl)) (hts (.initialized RX5) (List.mem_of_getElem? (i := 6) rfl)) hK hP hS rfl (fun j hj => by rcases (show j = 0 ∨ j = 1 ∨ j = 2 ∨ j = 3 ∨ j = 4 ∨ j = 5 ∨ j = 6 by omega) with rfl | rfl | rfl | rfl | rfl | rfl | rfl <;> rfl) (Nat.le_of_ble_eq_true rfl) (Nat.le_of_ble_eq_true rfl) dX6_init_27 (fun H hP hS => ?_)
  refine lv_dup hx hb dX6_init_30 rfl ?_
  have hPc := hP.last (b := 37) (x := .inr (7, [.null, .null, .null, .null, .int 0, .int 0, .int 0])) rfl
  refine va_callv (va_runI (As := []) (rest := [.ref (h0 + 37), .ref h0]) ⟨hx, hb, hml, hown, hts⟩ (n5_init l (D := D) (G := G) (h0 + 37)) (cwI 0 hts gX6_init_X5_init rfl rfl rfl (hts (.initialized RX5) (List.mem_of_getElem? (i := 6) rfl)) (hts (.methodLink RX6 11 yX5_init) (List.mem_of_getElem? (i := 29) rfl)) (hts (.instanceMethod yX5_init) (List.mem_of_getElem? (i := 30) rfl)) rfl (by decide +kernel) ⟨(Nat.le_of_ble_eq_true rfl), (Nat.le_of_ble_eq_true rfl)⟩) ⟨hc_blind, hc_pre hK hN hPc⟩ rfl rfl hl.1 rfl (lv_room (Nat.le_of_ble_eq_true rfl)) dX6_init_31 ⟨(Nat.le_of_ble_eq_true rfl), (Nat.le_of_ble_eq_true rfl)⟩) hS (fun q _ h => Nat.le_trans (Nat.le_add_right _ _) h) (fun q h => Nat.le_trans (Nat.le_add_right _ _) h) (fun u9 t H locs ht hvm hw9 hB hz1 hk1 hS => ?_)
  have hB : cP D (h0 + 37) 18 (w5 G (h0 + 37)) H := by rw [← ht]; exact hB
  have hP := hP.call (b := 37) hB hk1
  refine c_putF (ci := 8) (fs := [.ref (h0 + 1), .ref (h0 + 19), .null, .null, .null, .null, .null, .int 0, .int 0]) (v := .ref (h0 + 37)) (ty := .object "TileRunners$World") (C := RX6) (T := TX6) (N := 9) hx hb hts inX6 tyX6 tyX6_ok nmX6 hown hK hP hS 0 (by decide) rfl rfl rfl 2 (by decide) (hts (.fieldLink RX6 19 "TileRunners" "saved" "LTileRunners$World;") (List.mem_of_getElem? (i := 9) rfl)) (fun _ h9 => h9) rfl hin rfl (by decide +kernel) rfl rfl (Nat.le_of_ble_eq_true rfl) dX6_init_34 (fun H locs hP hS => ?_)
  refine lv_aload_n hx hb dX6_init_37 rfl (lv_at hl 0 rfl) ?_
  refine va_gets hx hb hZ hS hown (hts (.fieldLink RX6 22 "TileRunners" "FIRST_SETTINGS" "[I") (List.mem_of_getElem? (i := 10) rfl)) (fun _ h9 => h9) dX6_init_38 ?_
  refine c_clone (rest := [.ref h0]) hx hb (by rw [hml]; exact hl.1.symm) hown (hts (.methodLink RX6 26 ⟨"[I", "clone", "()Ljava/lang/Object;"⟩) (List.mem_of_getElem? (i := 11) rfl)) (hts (.sameMethod "[I" "java/lang/Object" "clone" "()Ljava/lang/Object;") (List.mem_of_getElem? (i := 12) rfl)) (hts (.native ⟨"java/lang/Object", "clone", "()Ljava/lang/Object;"⟩) (List.mem_of_getElem? (i := 13) rfl)) (hts (.instanceMethod ⟨"java/lang/Object", "clone", "()Ljava/lang/Object;"⟩) (List.mem_of_getElem? (i := 14) rfl)) (hts (.selects "[I" ⟨"[I", "clone", "()Ljava/lang/Object;"⟩ ⟨"java/lang/Object", "clone", "()Ljava/lang/Object;"⟩) (List.mem_of_getElem? (i := 15) rfl)) hN.2.2.2.2.2.2.2 hK hP hS ((hS.2.1 ft (Array.getElem?_eq_some_iff.mp hfc).1 hfn).trans hfc) hfa hfu hfs hfm (Nat.le_of_ble_eq_true rfl) (Nat.le_of_ble_eq_true rfl) (Nat.le_of_ble_eq_true rfl) (Nat.le_of_ble_eq_true rfl) dX6_init_41 (fun H hP hS => ?_)
  refine va_castA (cA := G.2.1) (x := (4, .inl fsS)) hx hb hown (hts (.classLink RX6 27 "[I") (List.mem_of_getElem? (i := 16) rfl)) (hP.one 55 (by decide) rfl) 0 rfl (hK.2 1 _ rfl).2 dX6_init_44 ?_
  refine c_putF (ci := 8) (fs := [.ref (h0 + 1), .ref (h0 + 19), .ref (h0 + 37), .null, .null, .null, .null, .int 0, .int 0]) (v := .ref (h0 + 55)) (ty := .array .int) (C := RX6) (T := TX6) (N := 9) hx hb hts inX6 tyX6 tyX6_ok nmX6 hown hK hP hS 0 (by decide) rfl rfl rfl 3 (by decide) (hts (.fieldLink RX6 31 "TileRunners" "settings" "[I") (List.mem_of_getElem? (i := 17) rfl)) (fun _ h9 => h9) rfl hin rfl (by decide +kernel) rfl rfl (Nat.le_of_ble_eq_true rfl) dX6_init_47 (fun H locs hP hS => ?_)
  refine lv_aload_n hx hb dX6_init_50 rfl (lv_at hl 0 rfl) ?_
  refine va_gets hx hb hZ hS hown (hts (.fieldLink RX6 22 "TileRunners" "FIRST_SETTINGS" "[I") (List.mem_of_getElem? (i := 10) rfl)) (fun _ h9 => h9) dX6_init_51 ?_
  refine c_clone (rest := [.ref h0]) hx hb (by rw [hml]; exact hl.1.symm) hown (hts (.methodLink RX6 26 ⟨"[I", "clone", "()Ljava/lang/Object;"⟩) (List.mem_of_getElem? (i := 11) rfl)) (hts (.sameMethod "[I" "java/lang/Object" "clone" "()Ljava/lang/Object;") (List.mem_of_getElem? (i := 12) rfl)) (hts (.native ⟨"java/lang/Object", "clone", "()Ljava/lang/Object;"⟩) (List.mem_of_getElem? (i := 13) rfl)) (hts (.instanceMethod ⟨"java/lang/Object", "clone", "()Ljava/lang/Object;"⟩) (List.mem_of_getElem? (i := 14) rfl)) (hts (.selects "[I" ⟨"[I", "clone", "()Ljava/lang/Object;"⟩ ⟨"java/lang/Object", "clone", "()Ljava/lang/Object;"⟩) (List.mem_of_getElem? (i := 15) rfl)) hN.2.2.2.2.2.2.2 hK hP hS ((hS.2.1 ft (Array.getElem?_eq_some_iff.mp hfc).1 hfn).trans hfc) hfa hfu hfs hfm (Nat.le_of_ble_eq_true rfl) (Nat.le_of_ble_eq_true rfl) (Nat.le_of_ble_eq_true rfl) (Nat.le_of_ble_eq_true rfl) dX6_init_54 (fun H hP hS => ?_)
  refine va_castA (cA := G.2.1) (x := (4, .inl fsS)) hx hb hown (hts (.classLink RX6 27 "[I") (List.mem_of_getElem? (i := 16) rfl)) (hP.one 56 (by decide) rfl) 0 rfl (hK.2 1 _ rfl).2 dX6_init_57 ?_
  refine c_putF (ci := 8) (fs := [.ref (h0 + 1), .ref (h0 + 19), .ref (h0 + 37), .ref (h0 + 55), .null, .null, .null, .int 0, .int 0]) (v := .ref (h0 + 56)) (ty := .array .int) (C := RX6) (T := TX6) (N := 9) hx hb hts inX6 tyX6 tyX6_ok nmX6 hown hK hP hS 0 (by decide) rfl rfl rfl 4 (by decide) (hts (.fieldLink RX6 34 "TileRunners" "savedSettings" "[I") (List.mem_of_getElem? (i := 18) rfl)) (fun _ h9 => h9) rfl hin rfl (by decide +kernel) rfl rfl (Nat.le_of_ble_eq_true rfl) dX6_init_60 (fun H locs hP hS => ?_)
  refine lv_aload_n hx hb dX6_init_63 rfl (lv_at hl 0 rfl) ?_
  refine c_new (ci := 3) (fs := [.null, .int 0, .int 0]) (C := RX1) (T := TX1) (N := 3) hx hb hts inX1 tyX1 tyX1_ok hown (hts (.classLink RX6 37 RX1) (List.mem_of_getElem? (i := 19) rfl)) (hts (.instantiable RX1 3) (List.mem_of_getElem? (i := 20) rfl)) (hts (.initialized RX1) (List.mem_of_getElem? (i := 21) rfl)) hK hP hS rfl (fun j hj => by rcases (show j = 0 ∨ j = 1 ∨ j = 2 by omega) with rfl | rfl | rfl <;> rfl) (Nat.le_of_ble_eq_true rfl) (Nat.le_of_ble_eq_true rfl) dX6_init_64 (fun H hP hS => ?_)
  refine lv_dup hx hb dX6_init_67 rfl ?_
  have hPc := hP.last (b := 57) (x := .inr (3, [.null, .int 0, .int 0])) rfl
  refine va_callv (va_runI (As := []) (rest := [.ref (h0 + 57), .ref h0]) ⟨hx, hb, hml, hown, hts⟩ (n1_init l (D := D) (G := G) (h0 + 57)) (cwI 0 hts gX6_init_X1_init rfl rfl rfl (hts (.initialized RX1) (List.mem_of_getElem? (i := 21) rfl)) (hts (.methodLink RX6 39 yX1_init) (List.mem_of_getElem? (i := 58) rfl)) (hts (.instanceMethod yX1_init) (List.mem_of_getElem? (i := 59) rfl)) rfl (by decide +kernel) ⟨(Nat.le_of_ble_eq_true rfl), (Nat.le_of_ble_eq_true rfl)⟩) ⟨hc_blind, hc_pre hK hN hPc⟩ rfl rfl hl.1 rfl (lv_room (Nat.le_of_ble_eq_true rfl)) dX6_init_68 ⟨(Nat.le_of_ble_eq_true rfl), (Nat.le_of_ble_eq_true rfl)⟩) hS (fun q _ h => Nat.le_trans (Nat.le_add_right _ _) h) (fun q h => Nat.le_trans (Nat.le_add_right _ _) h) (fun u9 t H locs ht hvm hw9 hB hz1 hk1 hS => ?_)
  have hB : cP D (h0 + 57) 218 (w1 G (h0 + 57)) H := by rw [← ht]; exact hB
  have hP := hP.call (b := 57) hB hk1
  refine c_putF (ci := 8) (fs := [.ref (h0 + 1), .ref (h0 + 19), .ref (h0 + 37), .ref (h0 + 55), .ref (h0 + 56), .null, .null, .int 0, .int 0]) (v := .ref (h0 + 57)) (ty := .object "TileRunners$History") (C := RX6) (T := TX6) (N := 9) hx hb hts inX6 tyX6 tyX6_ok nmX6 hown hK hP hS 0 (by decide) rfl rfl rfl 5 (by decide) (hts (.fieldLink RX6 40 "TileRunners" "history" "LTileRunners$History;") (List.mem_of_getElem? (i := 22) rfl)) (fun _ h9 => h9) rfl hin rfl (by decide +kernel) rfl rfl (Nat.le_of_ble_eq_true rfl) dX6_init_71 (fun H locs hP hS => ?_)
  refine lv_aload_n hx hb dX6_init_74 rfl (lv_at hl 0 rfl) ?_
  refine c_new (ci := 5) (fs := [.null, .int 0, .null, .null, .int 0]) (C := RX3) (T := TX3) (N := 5) hx hb hts inX3 tyX3 tyX3_ok hown (hts (.classLink RX6 44 RX3) (List.mem_of_getElem? (i := 23) rfl)) (hts (.instantiable RX3 5) (List.mem_of_getElem? (i := 24) rfl)) (hts (.initialized RX3) (List.mem_of_getElem? (i := 25) rfl)) hK hP hS rfl (fun j hj => by rcases (show j = 0 ∨ j = 1 ∨ j = 2 ∨ j = 3 ∨ j = 4 by omega) with rfl | rfl | rfl | rfl | rfl <;> rfl) (Nat.le_of_ble_eq_true rfl) (Nat.le_of_ble_eq_true rfl) dX6_init_75 (fun H hP hS => ?_)
  refine lv_dup hx hb dX6_init_78 rfl ?_
  have hPc := hP.last (b := 275) (x := .inr (5, [.null, .int 0, .null, .null, .int 0])) rfl
  refine va_callv (va_runIN (As := []) (rest := [.ref (h0 + 275), .ref h0]) ⟨hx, hb, hml, hown, hts⟩ (n3_init l (D := D) (G := G) (h0 + 275)) ⟨va_cnB 0 hts gX6_init_X3_init_n46 rfl rfl rfl hN.2.2.2.2.2.2.1 (hts (.initialized RX3) (List.mem_of_getElem? (i := 25) rfl)) (by decide +kernel) ⟨(Nat.le_of_ble_eq_true rfl), (Nat.le_of_ble_eq_true rfl)⟩, rfl, (hts (.instanceMethod yX3_init) (List.mem_of_getElem? (i := 65) rfl))⟩ ⟨hc_blind, hc_pre hK hN hPc⟩ rfl rfl hl.1 rfl (lv_room (Nat.le_of_ble_eq_true rfl)) dX6_init_79 ⟨(Nat.le_of_ble_eq_true rfl), (Nat.le_of_ble_eq_true rfl)⟩) hS (fun q _ h => Nat.le_trans (Nat.le_add_right _ _) h) (fun q h => Nat.le_trans (Nat.le_add_right _ _) h) (fun u9 t H locs ht hvm hw9 hB hz1 hk1 hS => ?_)
  have hB : cP D (h0 + 275) 4 (w3 G (h0 + 275)) H := by rw [← ht]; exact hB
  have hP := hP.call (b := 275) hB hk1
  refine c_putF (ci := 8) (fs := [.ref (h0 + 1), .ref (h0 + 19), .ref (h0 + 37), .ref (h0 + 55), .ref (h0 + 56), .ref (h0 + 57), .null, .int 0, .int 0]) (v := .ref (h0 + 275)) (ty := .object "TileRunners$Text") (C := RX6) (T := TX6) (N := 9) hx hb hts inX6 tyX6 tyX6_ok nmX6 hown hK hP hS 0 (by decide) rfl rfl rfl 6 (by decide) (hts (.fieldLink RX6 47 "TileRunners" "text" "LTileRunners$Text;") (List.mem_of_getElem? (i := 26) rfl)) (fun _ h9 => h9) rfl hin rfl (by decide +kernel) rfl rfl (Nat.le_of_ble_eq_true rfl) dX6_init_82 (fun H locs hP hS => ?_)
  refine lv_aload_n hx hb dX6_init_85 rfl (lv_at hl 0 rfl) ?_
  refine lv_iconst (v := 0) hx hb dX6_init_86 (by decide) ?_
  refine c_put (ci := 8) (fs := [.ref (h0 + 1), .ref (h0 + 19), .ref (h0 + 37), .ref (h0 + 55), .ref (h0 + 56), .ref (h0 + 57), .ref (h0 + 275), .int 0, .int 0]) (v := .int 0) (ty := .boolean) (C := RX6) (T := TX6) (N := 9) hx hb hts inX6 tyX6 tyX6_ok nmX6 hown hK hP hS 0 (by decide) rfl rfl rfl 7 (by decide) (hts (.fieldLink RX6 51 "TileRunners" "hasSnapshot" "Z") (List.mem_of_getElem? (i := 27) rfl)) (fun _ h9 => h9) rfl (by decide +kernel) rfl rfl (Nat.le_of_ble_eq_true rfl) dX6_init_87 (fun H locs hP hS => ?_)
  refine lv_aload_n hx hb dX6_init_90 rfl (lv_at hl 0 rfl) ?_
  refine lv_iconst (v := -1) hx hb dX6_init_91 (by decide) ?_
  refine c_put (ci := 8) (fs := [.ref (h0 + 1), .ref (h0 + 19), .ref (h0 + 37), .ref (h0 + 55), .ref (h0 + 56), .ref (h0 + 57), .ref (h0 + 275), .int 0, .int 0]) (v := .int (-1)) (ty := .int) (C := RX6) (T := TX6) (N := 9) hx hb hts inX6 tyX6 tyX6_ok nmX6 hown hK hP hS 0 (by decide) rfl rfl rfl 8 (by decide) (hts (.fieldLink RX6 55 "TileRunners" "fault" "I") (List.mem_of_getElem? (i := 28) rfl)) (fun _ h9 => h9) rfl (by decide +kernel) rfl rfl (Nat.le_of_ble_eq_true rfl) dX6_init_92 (fun H locs hP hS => ?_)
  exact W.vret hx hb hr (fun t ht hW => ⟨⟨(), rfl, trivial, by
    show cP D h0 279 (w6 G h0) t.heap
    rw [ht]
    refine hP.cg (fun t ht h => ?_)
    by_cases e : t = 0
    · subst e; exact h
    · simp only [va_up, cj, if_neg e] at h
      unfold w6
      rw [if_neg e]
      by_cases r1 : t < 19
      · repeat (first | rw [if_pos (by omega)] at h | rw [if_neg (by omega)] at h)
        rw [if_pos r1]; exact h
      · by_cases r2 : t < 37
        · repeat (first | rw [if_pos (by omega)] at h | rw [if_neg (by omega)] at h)
          rw [if_neg r1, if_pos r2]; exact h
        · by_cases r3 : t < 55
          · repeat (first | rw [if_pos (by omega)] at h | rw [if_neg (by omega)] at h)
            rw [if_neg r1, if_neg r2, if_pos r3]; exact h
          · by_cases r4 : t < 57
            · rw [if_neg r1, if_neg r2, if_neg r3, if_pos r4]
              rcases (show t = 55 ∨ t = 56 by omega) with rfl | rfl
              · exact h
              · exact h
            · by_cases r5 : t < 275
              · repeat (first | rw [if_pos (by omega)] at h | rw [if_neg (by omega)] at h)
                rw [if_neg r1, if_neg r2, if_neg r3, if_neg r4, if_pos r5]; exact h
              · repeat (first | rw [if_pos (by omega)] at h | rw [if_neg (by omega)] at h)
                rw [if_neg r1, if_neg r2, if_neg r3, if_neg r4, if_neg r5]; exact h⟩, hS.F ht⟩) hS.2.2 dX6_init_95
