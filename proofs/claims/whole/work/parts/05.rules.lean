/-! RULES over the pool: reading and writing its cells, calls -/
def NW (U : State) : Prop := va_Nw (.methodLinkNest RX4 21 yX6_isTile RX6) U ∧ va_Nw (.methodLinkNest RX4 49 yX6_isSlope RX6) U ∧ va_Nw (.methodLinkNest RX4 30 yX6_isFirm RX6) U ∧ va_Nw (.methodLinkNest RX0 71 yX6_isWithin RX6) U ∧ va_Nw (.methodLinkNest RX2 38 yX6_isWithin RX6) U
theorem NW.warm {s U : State} (hW : s.WarmedH U.vm) (h : NW s) : NW U := ⟨va_Nw.warmM hW h.1, va_Nw.warmM hW h.2.1, va_Nw.warmM hW h.2.2.1, va_Nw.warmM hW h.2.2.2.1, va_Nw.warmM hW h.2.2.2.2⟩
theorem NW.same {s U : State} (hW : s.vm = U.vm) (h : NW s) : NW U := ⟨va_Nw.same rfl hW h.1, va_Nw.same rfl hW h.2.1, va_Nw.same rfl hW h.2.2.1, va_Nw.same rfl hW h.2.2.2.1, va_Nw.same rfl hW h.2.2.2.2⟩
/-- what holds at a method's entry -/
def Hp (D : va_G) (G : CY) (ad : Nat → Nat) (σ : Nat → Nat → Int32) (U : State) : Prop := va_P D vwCl (pool G ad σ) U.heap ∧ va_K D vwCl (tysG G) U ∧ NW U
/-- what holds behind it -/
def Ho (D : va_G) (G : CY) (ad : Nat → Nat) (σ : Nat → Nat → Int32) (U : State) : Prop := va_P D vwCl (pool G ad σ) U.heap
theorem hp_blind {D : va_G} {G : CY} {ad : Nat → Nat} {σ : Nat → Nat → Int32} {av : List Value} : FrameBlind (va_Pc av (Hp D G ad σ)) := fun a U g mk q => by
  obtain ⟨q0, qP, qK, qN⟩ := q
  exact ⟨q0, qP, va_K.moved (u := U) (U := U.calling g mk a) (Vm.Alike.refl U.vm) qK, NW.same (s := U) (U := U.calling g mk a) rfl qN⟩
theorem hp_pre {D : va_G} {G : CY} {ad : Nat → Nat} {σ : Nat → Nat → Int32} {av : List Value} {s : State} {H : Heap} (hK : va_K D vwCl (tysG G) s) (hN : NW s) (hP : va_P D vwCl (pool G ad σ) H) : ∀ U : State, U.heap = H → s.WarmedH U.vm → va_Pc av (Hp D G ad σ) av.toArray U := fun U hU hW => ⟨rfl, by rw [hU]; exact hP, va_K.moved hW.alike hK, NW.warm hW hN⟩
theorem c_o {G : CY} {ad : Nat → Nat} {σ : Nat → Nat → Int32} {u : Nat → Int32} {w : Nat} (hw : w < 15) : (pool G ad (va_up σ w u))[18*w+0]? = some (ad (18*w+0), ocel ad (18*w) u) := pool_atE (by omega) (cel_f hw (by omega))
theorem c_t {G : CY} {ad : Nat → Nat} {σ : Nat → Nat → Int32} {u : Nat → Int32} {w : Nat} (hw : w < 15) : (pool G ad (va_up σ w u))[18*w+1]? = some (ad (18*w+1), .inr (6, [.ref (ad (18*w+2))])) := pool_atE (by omega) (cel_f hw (by omega))
theorem c_k {G : CY} {ad : Nat → Nat} {σ : Nat → Nat → Int32} {u : Nat → Int32} {w : Nat} (hw : w < 15) : (pool G ad (va_up σ w u))[18*w+2]? = some (ad (18*w+2), kcel G u) := pool_atE (by omega) (cel_f hw (by omega))
theorem c_bs {G : CY} {ad : Nat → Nat} {σ : Nat → Nat → Int32} {w : Nat} (hw : w < 15) : (pool G ad σ)[18*w+3]? = some (ad (18*w+3), qcel G.2.2.1 4 (fun i => ad (18*w+(6+2*i)))) := pool_atE (by omega) (cel_w hw (by omega))
theorem c_ps {G : CY} {ad : Nat → Nat} {σ : Nat → Nat → Int32} {w : Nat} (hw : w < 15) : (pool G ad σ)[18*w+4]? = some (ad (18*w+4), qcel G.2.2.2.1 4 (fun i => ad (18*w+(14+i)))) := pool_atE (by omega) (cel_w hw (by omega))
theorem c_a {G : CY} {ad : Nat → Nat} {σ : Nat → Nat → Int32} {u : Nat → Int32} {w : Nat} (hw : w < 15) : (pool G ad (va_up σ w u))[18*w+5]? = some (ad (18*w+5), acel G u) := pool_atE (by omega) (cel_f hw (by omega))
theorem c_b {G : CY} {ad : Nat → Nat} {σ : Nat → Nat → Int32} {u : Nat → Int32} {w i : Nat} (hw : w < 15) (hi : i < 4) : (pool G ad (va_up σ w u))[18*w+(6+2*i)]? = some (ad (18*w+(6+2*i)), bcel ad (18*w) u i) := pool_atE (by omega) ((cel_f hw (by omega)).trans (wcel_b hi))
theorem c_s {G : CY} {ad : Nat → Nat} {σ : Nat → Nat → Int32} {u : Nat → Int32} {w i : Nat} (hw : w < 15) (hi : i < 4) : (pool G ad (va_up σ w u))[18*w+(7+2*i)]? = some (ad (18*w+(7+2*i)), scel G u i) := pool_atE (by omega) ((cel_f hw (by omega)).trans (wcel_s hi))
theorem c_p {G : CY} {ad : Nat → Nat} {σ : Nat → Nat → Int32} {u : Nat → Int32} {w i : Nat} (hw : w < 15) (hi : i < 4) : (pool G ad (va_up σ w u))[18*w+(14+i)]? = some (ad (18*w+(14+i)), pcel u i) := pool_atE (by omega) ((cel_f hw (by omega)).trans wcel_p)
/-- a place of another row is read as it stands -/
theorem f_eta {D : va_G} {G : CY} {ad : Nat → Nat} {σ : Nat → Nat → Int32} {H : Heap} (w : Nat) (hP : va_P D vwCl (pool G ad σ) H) : va_P D vwCl (pool G ad (va_up σ w (σ w))) H := by rw [up_eta]; exact hP

theorem pput {p : Program} {l : Launch} {e : Env} {R : Room} {s : State} {m : MethodId} {args : Array Value} {below : List Frame} {meth : Method} {c : Code} {H : Heap} {locs : List Loc} {cells slots : Nat} {Q : State → Prop} {cc : ByteArray} {pc : Nat} {ls : Array Slot} {rest : List Value} {H0 : Heap} {D : va_G} {G : CY} {ad : Nat → Nat} {σ : Nat → Nat → Int32} {u : Nat → Int32} {B0 : Nat} (hx : p.tables.exec = Jvm.exec) (hb : c.code = cc) {own9 ref C : String} {T : u_T} {N ci index : Nat} {Ts : List Cond} (hts : ∀ w ∈ Ts, w.before args s = true) (hin : ∀ w ∈ u_ws C T N, w ∈ Ts) (ty0 : Nat → FieldType) (hty : ∀ k, k < N → parseFieldDescriptor (T k).2.2.1 = some (ty0 k)) (hnm : ∀ a, a < N → ∀ b, b < N → a ≠ b → (T a).2.1 ≠ (T b).2.1) (hown : s.vm.findClass own9 = some m.cls) (hK : va_K D vwCl (tysG G) s) {w j : Nat} (hP : va_P D vwCl (pool G ad (va_up σ w u)) H) (hA : adOK B0 ad) (hS : va_S (AA B0) H0 H locs) (hw : w < 15) (hj : j < 18) {fs : List Value} (hcel : wcel G ad (18*w) u j = .inr (ci, fs)) (hc : vwCl[ci]? = some (C, T, N)) (k : Nat) (hk : k < N) (hlink : (Cond.fieldLink own9 index ref (T k).2.1 (T k).2.2.1).before args s = true) (hsame : ∀ x, s.fieldFound? (T k).1 (T k).2.1 (T k).2.2.1 = some x → s.fieldFound? ref (T k).2.1 (T k).2.2.1 = some x) (hfin : (T k).2.2.2 = false) {ty : FieldType} {x : Int32} (hd : parseFieldDescriptor (T k).2.2.1 = some ty) (hn : narrow ty (.int x) = .int x) (hfit : fits ty (.int x) = true) (hl : k < fs.length) (t : Nat) (ht : own t = j) (hnew : wcel G ad (18*w) (va_up u t x) j = .inr (ci, fs.set k (.int x))) (hdg : decode cc pc = .ok (.putfield index, 3))
    (kk : ∀ (u1 : Nat → Int32) (H1 : Heap) (locs1 : List Loc), u1 = va_up u t x → va_P D vwCl (pool G ad (va_up σ w u1)) H1 → va_S (AA B0) H0 H1 locs1 → W p l e R s m args below meth c H1 locs1 cells slots Q (F0 m (pc + 3) ls rest)) : W p l e R s m args below meth c H locs cells slots Q (F0 m pc ls (.int x :: .ref (ad (18*w+j)) :: rest)) :=
  va_put hx hb hts hin ty0 hty hnm hown hK hP (pool_D hA) hS (18*w+j) (pool_atE (by omega) ((cel_f hw hj).trans hcel)) hc k hk hlink hsame hfin hd hn hfit hl hdg (fun H1 locs1 hP1 _ hS1 => kk _ H1 locs1 rfl (by rw [pool_setw hw hj rfl ht hnew] at hP1; exact hP1) hS1)
theorem pput15 {p : Program} {l : Launch} {e : Env} {R : Room} {s : State} {m : MethodId} {args : Array Value} {below : List Frame} {meth : Method} {c : Code} {H : Heap} {locs : List Loc} {cells slots : Nat} {Q : State → Prop} {cc : ByteArray} {pc : Nat} {ls : Array Slot} {rest : List Value} {H0 : Heap} {D : va_G} {G : CY} {ad : Nat → Nat} {σ : Nat → Nat → Int32} {u : Nat → Int32} {B0 : Nat} (hx : p.tables.exec = Jvm.exec) (hb : c.code = cc) {own9 ref C : String} {T : u_T} {N ci index : Nat} {Ts : List Cond} (hts : ∀ w ∈ Ts, w.before args s = true) (hin : ∀ w ∈ u_ws C T N, w ∈ Ts) (ty0 : Nat → FieldType) (hty : ∀ k, k < N → parseFieldDescriptor (T k).2.2.1 = some (ty0 k)) (hnm : ∀ a, a < N → ∀ b, b < N → a ≠ b → (T a).2.1 ≠ (T b).2.1) (hown : s.vm.findClass own9 = some m.cls) (hK : va_K D vwCl (tysG G) s) {j : Nat} (hP : va_P D vwCl (pool G ad (va_up σ 15 u)) H) (hA : adOK B0 ad) (hS : va_S (AA B0) H0 H locs) (h0 : 270 ≤ j) (hj : j < 290) {fs : List Value} (hcel : ccel G ad u (σ 16) j = .inr (ci, fs)) (hc : vwCl[ci]? = some (C, T, N)) (k : Nat) (hk : k < N) (hlink : (Cond.fieldLink own9 index ref (T k).2.1 (T k).2.2.1).before args s = true) (hsame : ∀ x, s.fieldFound? (T k).1 (T k).2.1 (T k).2.2.1 = some x → s.fieldFound? ref (T k).2.1 (T k).2.2.1 = some x) (hfin : (T k).2.2.2 = false) {ty : FieldType} {x : Int32} (hd : parseFieldDescriptor (T k).2.2.1 = some ty) (hn : narrow ty (.int x) = .int x) (hfit : fits ty (.int x) = true) (hl : k < fs.length) (t : Nat) (ht : own15 t = j) (hnew : ccel G ad (va_up u t x) (σ 16) j = .inr (ci, fs.set k (.int x))) (hdg : decode cc pc = .ok (.putfield index, 3))
    (kk : ∀ (u1 : Nat → Int32) (H1 : Heap) (locs1 : List Loc), u1 = va_up u t x → va_P D vwCl (pool G ad (va_up σ 15 u1)) H1 → va_S (AA B0) H0 H1 locs1 → W p l e R s m args below meth c H1 locs1 cells slots Q (F0 m (pc + 3) ls rest)) : W p l e R s m args below meth c H locs cells slots Q (F0 m pc ls (.int x :: .ref (ad j) :: rest)) :=
  va_put hx hb hts hin ty0 hty hnm hown hK hP (pool_D hA) hS j (pool_atE hj ((cel_c h0).trans (by rw [va_up_self, va_up_ne _ _ (by decide : ¬ 16 = 15)]; exact hcel))) hc k hk hlink hsame hfin hd hn hfit hl hdg (fun H1 locs1 hP1 _ hS1 => kk _ H1 locs1 rfl (by rw [pool_set15 h0 hj rfl ht hnew] at hP1; exact hP1) hS1)
theorem pput16 {p : Program} {l : Launch} {e : Env} {R : Room} {s : State} {m : MethodId} {args : Array Value} {below : List Frame} {meth : Method} {c : Code} {H : Heap} {locs : List Loc} {cells slots : Nat} {Q : State → Prop} {cc : ByteArray} {pc : Nat} {ls : Array Slot} {rest : List Value} {H0 : Heap} {D : va_G} {G : CY} {ad : Nat → Nat} {σ : Nat → Nat → Int32} {u : Nat → Int32} {B0 : Nat} (hx : p.tables.exec = Jvm.exec) (hb : c.code = cc) {own9 ref C : String} {T : u_T} {N ci index : Nat} {Ts : List Cond} (hts : ∀ w ∈ Ts, w.before args s = true) (hin : ∀ w ∈ u_ws C T N, w ∈ Ts) (ty0 : Nat → FieldType) (hty : ∀ k, k < N → parseFieldDescriptor (T k).2.2.1 = some (ty0 k)) (hnm : ∀ a, a < N → ∀ b, b < N → a ≠ b → (T a).2.1 ≠ (T b).2.1) (hown : s.vm.findClass own9 = some m.cls) (hK : va_K D vwCl (tysG G) s) {j : Nat} (hP : va_P D vwCl (pool G ad (va_up σ 16 u)) H) (hA : adOK B0 ad) (hS : va_S (AA B0) H0 H locs) (h0 : 270 ≤ j) (hj : j < 290) {fs : List Value} (hcel : ccel G ad (σ 15) u j = .inr (ci, fs)) (hc : vwCl[ci]? = some (C, T, N)) (k : Nat) (hk : k < N) (hlink : (Cond.fieldLink own9 index ref (T k).2.1 (T k).2.2.1).before args s = true) (hsame : ∀ x, s.fieldFound? (T k).1 (T k).2.1 (T k).2.2.1 = some x → s.fieldFound? ref (T k).2.1 (T k).2.2.1 = some x) (hfin : (T k).2.2.2 = false) {ty : FieldType} {x : Int32} (hd : parseFieldDescriptor (T k).2.2.1 = some ty) (hn : narrow ty (.int x) = .int x) (hfit : fits ty (.int x) = true) (hl : k < fs.length) (t : Nat) (ht : own16 t = j) (hnew : ccel G ad (σ 15) (va_up u t x) j = .inr (ci, fs.set k (.int x))) (hdg : decode cc pc = .ok (.putfield index, 3))
    (kk : ∀ (u1 : Nat → Int32) (H1 : Heap) (locs1 : List Loc), u1 = va_up u t x → va_P D vwCl (pool G ad (va_up σ 16 u1)) H1 → va_S (AA B0) H0 H1 locs1 → W p l e R s m args below meth c H1 locs1 cells slots Q (F0 m (pc + 3) ls rest)) : W p l e R s m args below meth c H locs cells slots Q (F0 m pc ls (.int x :: .ref (ad j) :: rest)) :=
  va_put hx hb hts hin ty0 hty hnm hown hK hP (pool_D hA) hS j (pool_atE hj ((cel_c h0).trans (by rw [va_up_self, va_up_ne _ _ (by decide : ¬ 15 = 16)]; exact hcel))) hc k hk hlink hsame hfin hd hn hfit hl hdg (fun H1 locs1 hP1 _ hS1 => kk _ H1 locs1 rfl (by rw [pool_set16 h0 hj rfl ht hnew] at hP1; exact hP1) hS1)
theorem pcst15 {p : Program} {l : Launch} {e : Env} {R : Room} {s : State} {m : MethodId} {args : Array Value} {below : List Frame} {meth : Method} {c : Code} {H : Heap} {locs : List Loc} {cells slots : Nat} {Q : State → Prop} {cc : ByteArray} {pc : Nat} {ls : Array Slot} {rest : List Value} {H0 : Heap} {D : va_G} {G : CY} {ad : Nat → Nat} {σ : Nat → Nat → Int32} {u : Nat → Int32} {B0 : Nat} (hx : p.tables.exec = Jvm.exec) (hb : c.code = cc) (hK : va_K D vwCl (tysG G) s) {n o j : Nat} (hP : va_P D vwCl (pool G ad (va_up σ 15 u)) H) (hA : adOK B0 ad) (hS : va_S (AA B0) H0 H locs) (h0 : 270 ≤ j) (hj : j < 290) (hcel : ∀ v z : Nat → Int32, ccel G ad v z j = hcel G n o v) (hown : ∀ k, k < n → own15 (o + k) = j) {i x : Int32} {t : Nat} (hin : vp_in i n) (ht9 : o + i.toNatClampNeg = t) (hdg : decode cc pc = .ok (.castore, 1))
    (kk : ∀ (u1 : Nat → Int32) (H1 : Heap) (locs1 : List Loc), u1 = va_up u t (vp_nar .char x) → va_P D vwCl (pool G ad (va_up σ 15 u1)) H1 → va_S (AA B0) H0 H1 locs1 → W p l e R s m args below meth c H1 locs1 cells slots Q (F0 m (pc + 1) ls rest)) : W p l e R s m args below meth c H locs cells slots Q (F0 m pc ls (.int x :: .int i :: .ref (ad j) :: rest)) :=
  va_cast hx hb hK hP (pool_D hA) hS j 0 (pool_atE hj ((cel_c h0).trans (by rw [va_up_self]; exact hcel u _))) rfl hin hdg (fun H1 locs1 hP1 _ hS1 => kk _ H1 locs1 rfl (by rw [tr_upd (in_lt hin), ht9, pool_set15 h0 hj rfl (ht9 ▸ hown _ (in_lt hin)) (hcel _ _)] at hP1; exact hP1) hS1)
theorem pcst16 {p : Program} {l : Launch} {e : Env} {R : Room} {s : State} {m : MethodId} {args : Array Value} {below : List Frame} {meth : Method} {c : Code} {H : Heap} {locs : List Loc} {cells slots : Nat} {Q : State → Prop} {cc : ByteArray} {pc : Nat} {ls : Array Slot} {rest : List Value} {H0 : Heap} {D : va_G} {G : CY} {ad : Nat → Nat} {σ : Nat → Nat → Int32} {u : Nat → Int32} {B0 : Nat} (hx : p.tables.exec = Jvm.exec) (hb : c.code = cc) (hK : va_K D vwCl (tysG G) s) {n o j : Nat} (hP : va_P D vwCl (pool G ad (va_up σ 16 u)) H) (hA : adOK B0 ad) (hS : va_S (AA B0) H0 H locs) (h0 : 270 ≤ j) (hj : j < 290) (hcel : ∀ v z : Nat → Int32, ccel G ad z v j = hcel G n o v) (hown : ∀ k, k < n → own16 (o + k) = j) {i x : Int32} {t : Nat} (hin : vp_in i n) (ht9 : o + i.toNatClampNeg = t) (hdg : decode cc pc = .ok (.castore, 1))
    (kk : ∀ (u1 : Nat → Int32) (H1 : Heap) (locs1 : List Loc), u1 = va_up u t (vp_nar .char x) → va_P D vwCl (pool G ad (va_up σ 16 u1)) H1 → va_S (AA B0) H0 H1 locs1 → W p l e R s m args below meth c H1 locs1 cells slots Q (F0 m (pc + 1) ls rest)) : W p l e R s m args below meth c H locs cells slots Q (F0 m pc ls (.int x :: .int i :: .ref (ad j) :: rest)) :=
  va_cast hx hb hK hP (pool_D hA) hS j 0 (pool_atE hj ((cel_c h0).trans (by rw [va_up_self]; exact hcel u _))) rfl hin hdg (fun H1 locs1 hP1 _ hS1 => kk _ H1 locs1 rfl (by rw [tr_upd (in_lt hin), ht9, pool_set16 h0 hj rfl (ht9 ▸ hown _ (in_lt hin)) (hcel _ _)] at hP1; exact hP1) hS1)
theorem pald {p : Program} {l : Launch} {e : Env} {R : Room} {s : State} {m : MethodId} {args : Array Value} {below : List Frame} {meth : Method} {c : Code} {H : Heap} {locs : List Loc} {cells slots : Nat} {Q : State → Prop} {cc : ByteArray} {pc : Nat} {ls : Array Slot} {rest : List Value} {D : va_G} {G : CY} {ad : Nat → Nat} {σ : Nat → Nat → Int32} {u : Nat → Int32} (hx : p.tables.exec = Jvm.exec) (hb : c.code = cc) (hK : va_K D vwCl (tysG G) s) {n o j : Nat} (hP : va_P D vwCl (pool G ad σ) H) (hat : (pool G ad σ)[j]? = some (ad j, icel G n o u)) {i : Int32} {t : Nat} (hin : vp_in i n) (ht9 : o + i.toNatClampNeg = t) (hdg : decode cc pc = .ok (.iaload, 1))
    (kk : W p l e R s m args below meth c H locs cells slots Q (F0 m (pc + 1) ls (.int (u t) :: rest))) : W p l e R s m args below meth c H locs cells slots Q (F0 m pc ls (.int i :: .ref (ad j) :: rest)) :=
  va_iald hx hb hK hP j 1 hat rfl hin hdg (by rw [tr_at (in_lt hin), ht9]; exact kk)
theorem pcald {p : Program} {l : Launch} {e : Env} {R : Room} {s : State} {m : MethodId} {args : Array Value} {below : List Frame} {meth : Method} {c : Code} {H : Heap} {locs : List Loc} {cells slots : Nat} {Q : State → Prop} {cc : ByteArray} {pc : Nat} {ls : Array Slot} {rest : List Value} {D : va_G} {G : CY} {ad : Nat → Nat} {σ : Nat → Nat → Int32} {u : Nat → Int32} (hx : p.tables.exec = Jvm.exec) (hb : c.code = cc) (hK : va_K D vwCl (tysG G) s) {n o j : Nat} (hP : va_P D vwCl (pool G ad σ) H) (hat : (pool G ad σ)[j]? = some (ad j, hcel G n o u)) {i : Int32} {t : Nat} (hin : vp_in i n) (ht9 : o + i.toNatClampNeg = t) (hdg : decode cc pc = .ok (.caload, 1))
    (kk : W p l e R s m args below meth c H locs cells slots Q (F0 m (pc + 1) ls (.int (u t) :: rest))) : W p l e R s m args below meth c H locs cells slots Q (F0 m pc ls (.int i :: .ref (ad j) :: rest)) :=
  va_cald hx hb hK hP j 0 hat rfl hin hdg (by rw [tr_at (in_lt hin), ht9]; exact kk)
theorem pqald {p : Program} {l : Launch} {e : Env} {R : Room} {s : State} {m : MethodId} {args : Array Value} {below : List Frame} {meth : Method} {c : Code} {H : Heap} {locs : List Loc} {cells slots : Nat} {Q : State → Prop} {cc : ByteArray} {pc : Nat} {ls : Array Slot} {rest : List Value} {D : va_G} {G : CY} {ad : Nat → Nat} {σ : Nat → Nat → Int32} (hx : p.tables.exec = Jvm.exec) (hb : c.code = cc) (hK : va_K D vwCl (tysG G) s) {n j t0 : Nat} {f : Nat → Nat} {cA : ClassId} {C : String} (hP : va_P D vwCl (pool G ad σ) H) (hat : (pool G ad σ)[j]? = some (ad j, qcel cA n f)) (ht : (tysG G)[t0]? = some (cA, .object C)) {i : Int32} (hin : vp_in i n) (hdg : decode cc pc = .ok (.aaload, 1))
    (kk : W p l e R s m args below meth c H locs cells slots Q (F0 m (pc + 1) ls (.ref (f i.toNatClampNeg) :: rest))) : W p l e R s m args below meth c H locs cells slots Q (F0 m pc ls (.int i :: .ref (ad j) :: rest)) :=
  va_aldq hx hb hK hP j t0 hat ht hin hdg kk
theorem past {p : Program} {l : Launch} {e : Env} {R : Room} {s : State} {m : MethodId} {args : Array Value} {below : List Frame} {meth : Method} {c : Code} {H : Heap} {locs : List Loc} {cells slots : Nat} {Q : State → Prop} {cc : ByteArray} {pc : Nat} {ls : Array Slot} {rest : List Value} {H0 : Heap} {D : va_G} {G : CY} {ad : Nat → Nat} {σ : Nat → Nat → Int32} {u : Nat → Int32} {B0 : Nat} (hx : p.tables.exec = Jvm.exec) (hb : c.code = cc) (hK : va_K D vwCl (tysG G) s) {n o j w : Nat} (hP : va_P D vwCl (pool G ad (va_up σ w u)) H) (hA : adOK B0 ad) (hS : va_S (AA B0) H0 H locs) (hw : w < 15) (hj : j < 18) (hcel : ∀ v : Nat → Int32, wcel G ad (18*w) v j = icel G n o v) (hown : ∀ k, k < n → own (o + k) = j) {i x : Int32} {t : Nat} (hin : vp_in i n) (ht9 : o + i.toNatClampNeg = t) (hdg : decode cc pc = .ok (.iastore, 1))
    (kk : ∀ (u1 : Nat → Int32) (H1 : Heap) (locs1 : List Loc), u1 = va_up u t x → va_P D vwCl (pool G ad (va_up σ w u1)) H1 → va_S (AA B0) H0 H1 locs1 → W p l e R s m args below meth c H1 locs1 cells slots Q (F0 m (pc + 1) ls rest)) : W p l e R s m args below meth c H locs cells slots Q (F0 m pc ls (.int x :: .int i :: .ref (ad (18*w+j)) :: rest)) :=
  va_iast hx hb hK hP (pool_D hA) hS (18*w+j) 1 (pool_atE (by omega) ((cel_f hw hj).trans (hcel u))) rfl hin hdg (fun H1 locs1 hP1 _ hS1 => kk _ H1 locs1 rfl (by rw [tr_upd (in_lt hin), ht9, pool_setw hw hj rfl (ht9 ▸ hown _ (in_lt hin)) (hcel _)] at hP1; exact hP1) hS1)
theorem past16 {p : Program} {l : Launch} {e : Env} {R : Room} {s : State} {m : MethodId} {args : Array Value} {below : List Frame} {meth : Method} {c : Code} {H : Heap} {locs : List Loc} {cells slots : Nat} {Q : State → Prop} {cc : ByteArray} {pc : Nat} {ls : Array Slot} {rest : List Value} {H0 : Heap} {D : va_G} {G : CY} {ad : Nat → Nat} {σ : Nat → Nat → Int32} {u : Nat → Int32} {B0 : Nat} (hx : p.tables.exec = Jvm.exec) (hb : c.code = cc) (hK : va_K D vwCl (tysG G) s) {n o j : Nat} (hP : va_P D vwCl (pool G ad (va_up σ 16 u)) H) (hA : adOK B0 ad) (hS : va_S (AA B0) H0 H locs) (h0 : 270 ≤ j) (hj : j < 290) (hcel : ∀ v z : Nat → Int32, ccel G ad z v j = icel G n o v) (hown : ∀ k, k < n → own16 (o + k) = j) {i x : Int32} {t : Nat} (hin : vp_in i n) (ht9 : o + i.toNatClampNeg = t) (hdg : decode cc pc = .ok (.iastore, 1))
    (kk : ∀ (u1 : Nat → Int32) (H1 : Heap) (locs1 : List Loc), u1 = va_up u t x → va_P D vwCl (pool G ad (va_up σ 16 u1)) H1 → va_S (AA B0) H0 H1 locs1 → W p l e R s m args below meth c H1 locs1 cells slots Q (F0 m (pc + 1) ls rest)) : W p l e R s m args below meth c H locs cells slots Q (F0 m pc ls (.int x :: .int i :: .ref (ad j) :: rest)) :=
  va_iast hx hb hK hP (pool_D hA) hS j 1 (pool_atE hj ((cel_c h0).trans (by rw [va_up_self]; exact hcel u _))) rfl hin hdg (fun H1 locs1 hP1 _ hS1 => kk _ H1 locs1 rfl (by rw [tr_upd (in_lt hin), ht9, pool_set16 h0 hj rfl (ht9 ▸ hown _ (in_lt hin)) (hcel _ _)] at hP1; exact hP1) hS1)
theorem past15 {p : Program} {l : Launch} {e : Env} {R : Room} {s : State} {m : MethodId} {args : Array Value} {below : List Frame} {meth : Method} {c : Code} {H : Heap} {locs : List Loc} {cells slots : Nat} {Q : State → Prop} {cc : ByteArray} {pc : Nat} {ls : Array Slot} {rest : List Value} {H0 : Heap} {D : va_G} {G : CY} {ad : Nat → Nat} {σ : Nat → Nat → Int32} {u : Nat → Int32} {B0 : Nat} (hx : p.tables.exec = Jvm.exec) (hb : c.code = cc) (hK : va_K D vwCl (tysG G) s) {n o j : Nat} (hP : va_P D vwCl (pool G ad (va_up σ 15 u)) H) (hA : adOK B0 ad) (hS : va_S (AA B0) H0 H locs) (h0 : 270 ≤ j) (hj : j < 290) (hcel : ∀ v z : Nat → Int32, ccel G ad v z j = icel G n o v) (hown : ∀ k, k < n → own15 (o + k) = j) {i x : Int32} {t : Nat} (hin : vp_in i n) (ht9 : o + i.toNatClampNeg = t) (hdg : decode cc pc = .ok (.iastore, 1))
    (kk : ∀ (u1 : Nat → Int32) (H1 : Heap) (locs1 : List Loc), u1 = va_up u t x → va_P D vwCl (pool G ad (va_up σ 15 u1)) H1 → va_S (AA B0) H0 H1 locs1 → W p l e R s m args below meth c H1 locs1 cells slots Q (F0 m (pc + 1) ls rest)) : W p l e R s m args below meth c H locs cells slots Q (F0 m pc ls (.int x :: .int i :: .ref (ad j) :: rest)) :=
  va_iast hx hb hK hP (pool_D hA) hS j 1 (pool_atE hj ((cel_c h0).trans (by rw [va_up_self]; exact hcel u _))) rfl hin hdg (fun H1 locs1 hP1 _ hS1 => kk _ H1 locs1 rfl (by rw [tr_upd (in_lt hin), ht9, pool_set15 h0 hj rfl (ht9 ▸ hown _ (in_lt hin)) (hcel _ _)] at hP1; exact hP1) hS1)
theorem setB_0 {G : CY} {ad : Nat → Nat} {b : Nat} {u : Nat → Int32} {i : Nat} {x : Int32} (hi : i < 4) : wcel G ad b (va_up u (336+24*i+0) x) (6+2*i) = .inr (2, ([.int (u (336+24*i+0)), .int (u (336+24*i+1)), .int (u (336+24*i+7)), .int (u (336+24*i+8)), .int (u (336+24*i+12)), .int (u (336+24*i+13)), .int (u (336+24*i+2)), .int (u (336+24*i+3)), .int (u (336+24*i+4)), .int (u (336+24*i+5)), .int (u (336+24*i+6)), .int (u (336+24*i+9)), .int (u (336+24*i+10)), .int (nb (u (336+24*i+11))), .int (u (336+24*i+21)), .ref (ad (b+(7+2*i)))] : List Value).set 0 (.int x)) := by
  have hh : ∀ a, a ≠ 0 → va_up u (336+24*i+0) x (336+24*i+a) = u (336+24*i+a) := fun a ha => va_up_ne _ _ (by omega)
  rw [wcel_b hi]
  simp only [bcel]
  rw [hh 1 (by decide), hh 7 (by decide), hh 8 (by decide), hh 12 (by decide), hh 13 (by decide), hh 2 (by decide), hh 3 (by decide), hh 4 (by decide), hh 5 (by decide), hh 6 (by decide), hh 9 (by decide), hh 10 (by decide), hh 11 (by decide), hh 21 (by decide), va_up_self]
  rfl
theorem setB_1 {G : CY} {ad : Nat → Nat} {b : Nat} {u : Nat → Int32} {i : Nat} {x : Int32} (hi : i < 4) : wcel G ad b (va_up u (336+24*i+1) x) (6+2*i) = .inr (2, ([.int (u (336+24*i+0)), .int (u (336+24*i+1)), .int (u (336+24*i+7)), .int (u (336+24*i+8)), .int (u (336+24*i+12)), .int (u (336+24*i+13)), .int (u (336+24*i+2)), .int (u (336+24*i+3)), .int (u (336+24*i+4)), .int (u (336+24*i+5)), .int (u (336+24*i+6)), .int (u (336+24*i+9)), .int (u (336+24*i+10)), .int (nb (u (336+24*i+11))), .int (u (336+24*i+21)), .ref (ad (b+(7+2*i)))] : List Value).set 1 (.int x)) := by
  have hh : ∀ a, a ≠ 1 → va_up u (336+24*i+1) x (336+24*i+a) = u (336+24*i+a) := fun a ha => va_up_ne _ _ (by omega)
  rw [wcel_b hi]
  simp only [bcel]
  rw [hh 0 (by decide), hh 7 (by decide), hh 8 (by decide), hh 12 (by decide), hh 13 (by decide), hh 2 (by decide), hh 3 (by decide), hh 4 (by decide), hh 5 (by decide), hh 6 (by decide), hh 9 (by decide), hh 10 (by decide), hh 11 (by decide), hh 21 (by decide), va_up_self]
  rfl
theorem setB_2 {G : CY} {ad : Nat → Nat} {b : Nat} {u : Nat → Int32} {i : Nat} {x : Int32} (hi : i < 4) : wcel G ad b (va_up u (336+24*i+7) x) (6+2*i) = .inr (2, ([.int (u (336+24*i+0)), .int (u (336+24*i+1)), .int (u (336+24*i+7)), .int (u (336+24*i+8)), .int (u (336+24*i+12)), .int (u (336+24*i+13)), .int (u (336+24*i+2)), .int (u (336+24*i+3)), .int (u (336+24*i+4)), .int (u (336+24*i+5)), .int (u (336+24*i+6)), .int (u (336+24*i+9)), .int (u (336+24*i+10)), .int (nb (u (336+24*i+11))), .int (u (336+24*i+21)), .ref (ad (b+(7+2*i)))] : List Value).set 2 (.int x)) := by
  have hh : ∀ a, a ≠ 7 → va_up u (336+24*i+7) x (336+24*i+a) = u (336+24*i+a) := fun a ha => va_up_ne _ _ (by omega)
  rw [wcel_b hi]
  simp only [bcel]
  rw [hh 0 (by decide), hh 1 (by decide), hh 8 (by decide), hh 12 (by decide), hh 13 (by decide), hh 2 (by decide), hh 3 (by decide), hh 4 (by decide), hh 5 (by decide), hh 6 (by decide), hh 9 (by decide), hh 10 (by decide), hh 11 (by decide), hh 21 (by decide), va_up_self]
  rfl
theorem setB_3 {G : CY} {ad : Nat → Nat} {b : Nat} {u : Nat → Int32} {i : Nat} {x : Int32} (hi : i < 4) : wcel G ad b (va_up u (336+24*i+8) x) (6+2*i) = .inr (2, ([.int (u (336+24*i+0)), .int (u (336+24*i+1)), .int (u (336+24*i+7)), .int (u (336+24*i+8)), .int (u (336+24*i+12)), .int (u (336+24*i+13)), .int (u (336+24*i+2)), .int (u (336+24*i+3)), .int (u (336+24*i+4)), .int (u (336+24*i+5)), .int (u (336+24*i+6)), .int (u (336+24*i+9)), .int (u (336+24*i+10)), .int (nb (u (336+24*i+11))), .int (u (336+24*i+21)), .ref (ad (b+(7+2*i)))] : List Value).set 3 (.int x)) := by
  have hh : ∀ a, a ≠ 8 → va_up u (336+24*i+8) x (336+24*i+a) = u (336+24*i+a) := fun a ha => va_up_ne _ _ (by omega)
  rw [wcel_b hi]
  simp only [bcel]
  rw [hh 0 (by decide), hh 1 (by decide), hh 7 (by decide), hh 12 (by decide), hh 13 (by decide), hh 2 (by decide), hh 3 (by decide), hh 4 (by decide), hh 5 (by decide), hh 6 (by decide), hh 9 (by decide), hh 10 (by decide), hh 11 (by decide), hh 21 (by decide), va_up_self]
  rfl
theorem setB_4 {G : CY} {ad : Nat → Nat} {b : Nat} {u : Nat → Int32} {i : Nat} {x : Int32} (hi : i < 4) : wcel G ad b (va_up u (336+24*i+12) x) (6+2*i) = .inr (2, ([.int (u (336+24*i+0)), .int (u (336+24*i+1)), .int (u (336+24*i+7)), .int (u (336+24*i+8)), .int (u (336+24*i+12)), .int (u (336+24*i+13)), .int (u (336+24*i+2)), .int (u (336+24*i+3)), .int (u (336+24*i+4)), .int (u (336+24*i+5)), .int (u (336+24*i+6)), .int (u (336+24*i+9)), .int (u (336+24*i+10)), .int (nb (u (336+24*i+11))), .int (u (336+24*i+21)), .ref (ad (b+(7+2*i)))] : List Value).set 4 (.int x)) := by
  have hh : ∀ a, a ≠ 12 → va_up u (336+24*i+12) x (336+24*i+a) = u (336+24*i+a) := fun a ha => va_up_ne _ _ (by omega)
  rw [wcel_b hi]
  simp only [bcel]
  rw [hh 0 (by decide), hh 1 (by decide), hh 7 (by decide), hh 8 (by decide), hh 13 (by decide), hh 2 (by decide), hh 3 (by decide), hh 4 (by decide), hh 5 (by decide), hh 6 (by decide), hh 9 (by decide), hh 10 (by decide), hh 11 (by decide), hh 21 (by decide), va_up_self]
  rfl
theorem setB_5 {G : CY} {ad : Nat → Nat} {b : Nat} {u : Nat → Int32} {i : Nat} {x : Int32} (hi : i < 4) : wcel G ad b (va_up u (336+24*i+13) x) (6+2*i) = .inr (2, ([.int (u (336+24*i+0)), .int (u (336+24*i+1)), .int (u (336+24*i+7)), .int (u (336+24*i+8)), .int (u (336+24*i+12)), .int (u (336+24*i+13)), .int (u (336+24*i+2)), .int (u (336+24*i+3)), .int (u (336+24*i+4)), .int (u (336+24*i+5)), .int (u (336+24*i+6)), .int (u (336+24*i+9)), .int (u (336+24*i+10)), .int (nb (u (336+24*i+11))), .int (u (336+24*i+21)), .ref (ad (b+(7+2*i)))] : List Value).set 5 (.int x)) := by
  have hh : ∀ a, a ≠ 13 → va_up u (336+24*i+13) x (336+24*i+a) = u (336+24*i+a) := fun a ha => va_up_ne _ _ (by omega)
  rw [wcel_b hi]
  simp only [bcel]
  rw [hh 0 (by decide), hh 1 (by decide), hh 7 (by decide), hh 8 (by decide), hh 12 (by decide), hh 2 (by decide), hh 3 (by decide), hh 4 (by decide), hh 5 (by decide), hh 6 (by decide), hh 9 (by decide), hh 10 (by decide), hh 11 (by decide), hh 21 (by decide), va_up_self]
  rfl
theorem setB_6 {G : CY} {ad : Nat → Nat} {b : Nat} {u : Nat → Int32} {i : Nat} {x : Int32} (hi : i < 4) : wcel G ad b (va_up u (336+24*i+2) x) (6+2*i) = .inr (2, ([.int (u (336+24*i+0)), .int (u (336+24*i+1)), .int (u (336+24*i+7)), .int (u (336+24*i+8)), .int (u (336+24*i+12)), .int (u (336+24*i+13)), .int (u (336+24*i+2)), .int (u (336+24*i+3)), .int (u (336+24*i+4)), .int (u (336+24*i+5)), .int (u (336+24*i+6)), .int (u (336+24*i+9)), .int (u (336+24*i+10)), .int (nb (u (336+24*i+11))), .int (u (336+24*i+21)), .ref (ad (b+(7+2*i)))] : List Value).set 6 (.int x)) := by
  have hh : ∀ a, a ≠ 2 → va_up u (336+24*i+2) x (336+24*i+a) = u (336+24*i+a) := fun a ha => va_up_ne _ _ (by omega)
  rw [wcel_b hi]
  simp only [bcel]
  rw [hh 0 (by decide), hh 1 (by decide), hh 7 (by decide), hh 8 (by decide), hh 12 (by decide), hh 13 (by decide), hh 3 (by decide), hh 4 (by decide), hh 5 (by decide), hh 6 (by decide), hh 9 (by decide), hh 10 (by decide), hh 11 (by decide), hh 21 (by decide), va_up_self]
  rfl
theorem setB_7 {G : CY} {ad : Nat → Nat} {b : Nat} {u : Nat → Int32} {i : Nat} {x : Int32} (hi : i < 4) : wcel G ad b (va_up u (336+24*i+3) x) (6+2*i) = .inr (2, ([.int (u (336+24*i+0)), .int (u (336+24*i+1)), .int (u (336+24*i+7)), .int (u (336+24*i+8)), .int (u (336+24*i+12)), .int (u (336+24*i+13)), .int (u (336+24*i+2)), .int (u (336+24*i+3)), .int (u (336+24*i+4)), .int (u (336+24*i+5)), .int (u (336+24*i+6)), .int (u (336+24*i+9)), .int (u (336+24*i+10)), .int (nb (u (336+24*i+11))), .int (u (336+24*i+21)), .ref (ad (b+(7+2*i)))] : List Value).set 7 (.int x)) := by
  have hh : ∀ a, a ≠ 3 → va_up u (336+24*i+3) x (336+24*i+a) = u (336+24*i+a) := fun a ha => va_up_ne _ _ (by omega)
  rw [wcel_b hi]
  simp only [bcel]
  rw [hh 0 (by decide), hh 1 (by decide), hh 7 (by decide), hh 8 (by decide), hh 12 (by decide), hh 13 (by decide), hh 2 (by decide), hh 4 (by decide), hh 5 (by decide), hh 6 (by decide), hh 9 (by decide), hh 10 (by decide), hh 11 (by decide), hh 21 (by decide), va_up_self]
  rfl
theorem setB_8 {G : CY} {ad : Nat → Nat} {b : Nat} {u : Nat → Int32} {i : Nat} {x : Int32} (hi : i < 4) : wcel G ad b (va_up u (336+24*i+4) x) (6+2*i) = .inr (2, ([.int (u (336+24*i+0)), .int (u (336+24*i+1)), .int (u (336+24*i+7)), .int (u (336+24*i+8)), .int (u (336+24*i+12)), .int (u (336+24*i+13)), .int (u (336+24*i+2)), .int (u (336+24*i+3)), .int (u (336+24*i+4)), .int (u (336+24*i+5)), .int (u (336+24*i+6)), .int (u (336+24*i+9)), .int (u (336+24*i+10)), .int (nb (u (336+24*i+11))), .int (u (336+24*i+21)), .ref (ad (b+(7+2*i)))] : List Value).set 8 (.int x)) := by
  have hh : ∀ a, a ≠ 4 → va_up u (336+24*i+4) x (336+24*i+a) = u (336+24*i+a) := fun a ha => va_up_ne _ _ (by omega)
  rw [wcel_b hi]
  simp only [bcel]
  rw [hh 0 (by decide), hh 1 (by decide), hh 7 (by decide), hh 8 (by decide), hh 12 (by decide), hh 13 (by decide), hh 2 (by decide), hh 3 (by decide), hh 5 (by decide), hh 6 (by decide), hh 9 (by decide), hh 10 (by decide), hh 11 (by decide), hh 21 (by decide), va_up_self]
  rfl
theorem setB_9 {G : CY} {ad : Nat → Nat} {b : Nat} {u : Nat → Int32} {i : Nat} {x : Int32} (hi : i < 4) : wcel G ad b (va_up u (336+24*i+5) x) (6+2*i) = .inr (2, ([.int (u (336+24*i+0)), .int (u (336+24*i+1)), .int (u (336+24*i+7)), .int (u (336+24*i+8)), .int (u (336+24*i+12)), .int (u (336+24*i+13)), .int (u (336+24*i+2)), .int (u (336+24*i+3)), .int (u (336+24*i+4)), .int (u (336+24*i+5)), .int (u (336+24*i+6)), .int (u (336+24*i+9)), .int (u (336+24*i+10)), .int (nb (u (336+24*i+11))), .int (u (336+24*i+21)), .ref (ad (b+(7+2*i)))] : List Value).set 9 (.int x)) := by
  have hh : ∀ a, a ≠ 5 → va_up u (336+24*i+5) x (336+24*i+a) = u (336+24*i+a) := fun a ha => va_up_ne _ _ (by omega)
  rw [wcel_b hi]
  simp only [bcel]
  rw [hh 0 (by decide), hh 1 (by decide), hh 7 (by decide), hh 8 (by decide), hh 12 (by decide), hh 13 (by decide), hh 2 (by decide), hh 3 (by decide), hh 4 (by decide), hh 6 (by decide), hh 9 (by decide), hh 10 (by decide), hh 11 (by decide), hh 21 (by decide), va_up_self]
  rfl
theorem setB_10 {G : CY} {ad : Nat → Nat} {b : Nat} {u : Nat → Int32} {i : Nat} {x : Int32} (hi : i < 4) : wcel G ad b (va_up u (336+24*i+6) x) (6+2*i) = .inr (2, ([.int (u (336+24*i+0)), .int (u (336+24*i+1)), .int (u (336+24*i+7)), .int (u (336+24*i+8)), .int (u (336+24*i+12)), .int (u (336+24*i+13)), .int (u (336+24*i+2)), .int (u (336+24*i+3)), .int (u (336+24*i+4)), .int (u (336+24*i+5)), .int (u (336+24*i+6)), .int (u (336+24*i+9)), .int (u (336+24*i+10)), .int (nb (u (336+24*i+11))), .int (u (336+24*i+21)), .ref (ad (b+(7+2*i)))] : List Value).set 10 (.int x)) := by
  have hh : ∀ a, a ≠ 6 → va_up u (336+24*i+6) x (336+24*i+a) = u (336+24*i+a) := fun a ha => va_up_ne _ _ (by omega)
  rw [wcel_b hi]
  simp only [bcel]
  rw [hh 0 (by decide), hh 1 (by decide), hh 7 (by decide), hh 8 (by decide), hh 12 (by decide), hh 13 (by decide), hh 2 (by decide), hh 3 (by decide), hh 4 (by decide), hh 5 (by decide), hh 9 (by decide), hh 10 (by decide), hh 11 (by decide), hh 21 (by decide), va_up_self]
  rfl
theorem setB_11 {G : CY} {ad : Nat → Nat} {b : Nat} {u : Nat → Int32} {i : Nat} {x : Int32} (hi : i < 4) : wcel G ad b (va_up u (336+24*i+9) x) (6+2*i) = .inr (2, ([.int (u (336+24*i+0)), .int (u (336+24*i+1)), .int (u (336+24*i+7)), .int (u (336+24*i+8)), .int (u (336+24*i+12)), .int (u (336+24*i+13)), .int (u (336+24*i+2)), .int (u (336+24*i+3)), .int (u (336+24*i+4)), .int (u (336+24*i+5)), .int (u (336+24*i+6)), .int (u (336+24*i+9)), .int (u (336+24*i+10)), .int (nb (u (336+24*i+11))), .int (u (336+24*i+21)), .ref (ad (b+(7+2*i)))] : List Value).set 11 (.int x)) := by
  have hh : ∀ a, a ≠ 9 → va_up u (336+24*i+9) x (336+24*i+a) = u (336+24*i+a) := fun a ha => va_up_ne _ _ (by omega)
  rw [wcel_b hi]
  simp only [bcel]
  rw [hh 0 (by decide), hh 1 (by decide), hh 7 (by decide), hh 8 (by decide), hh 12 (by decide), hh 13 (by decide), hh 2 (by decide), hh 3 (by decide), hh 4 (by decide), hh 5 (by decide), hh 6 (by decide), hh 10 (by decide), hh 11 (by decide), hh 21 (by decide), va_up_self]
  rfl
theorem setB_12 {G : CY} {ad : Nat → Nat} {b : Nat} {u : Nat → Int32} {i : Nat} {x : Int32} (hi : i < 4) : wcel G ad b (va_up u (336+24*i+10) x) (6+2*i) = .inr (2, ([.int (u (336+24*i+0)), .int (u (336+24*i+1)), .int (u (336+24*i+7)), .int (u (336+24*i+8)), .int (u (336+24*i+12)), .int (u (336+24*i+13)), .int (u (336+24*i+2)), .int (u (336+24*i+3)), .int (u (336+24*i+4)), .int (u (336+24*i+5)), .int (u (336+24*i+6)), .int (u (336+24*i+9)), .int (u (336+24*i+10)), .int (nb (u (336+24*i+11))), .int (u (336+24*i+21)), .ref (ad (b+(7+2*i)))] : List Value).set 12 (.int x)) := by
  have hh : ∀ a, a ≠ 10 → va_up u (336+24*i+10) x (336+24*i+a) = u (336+24*i+a) := fun a ha => va_up_ne _ _ (by omega)
  rw [wcel_b hi]
  simp only [bcel]
  rw [hh 0 (by decide), hh 1 (by decide), hh 7 (by decide), hh 8 (by decide), hh 12 (by decide), hh 13 (by decide), hh 2 (by decide), hh 3 (by decide), hh 4 (by decide), hh 5 (by decide), hh 6 (by decide), hh 9 (by decide), hh 11 (by decide), hh 21 (by decide), va_up_self]
  rfl
theorem setB_13 {G : CY} {ad : Nat → Nat} {b : Nat} {u : Nat → Int32} {i : Nat} {x : Int32} (hi : i < 4) (hx9 : nb x = x) : wcel G ad b (va_up u (336+24*i+11) x) (6+2*i) = .inr (2, ([.int (u (336+24*i+0)), .int (u (336+24*i+1)), .int (u (336+24*i+7)), .int (u (336+24*i+8)), .int (u (336+24*i+12)), .int (u (336+24*i+13)), .int (u (336+24*i+2)), .int (u (336+24*i+3)), .int (u (336+24*i+4)), .int (u (336+24*i+5)), .int (u (336+24*i+6)), .int (u (336+24*i+9)), .int (u (336+24*i+10)), .int (nb (u (336+24*i+11))), .int (u (336+24*i+21)), .ref (ad (b+(7+2*i)))] : List Value).set 13 (.int x)) := by
  have hh : ∀ a, a ≠ 11 → va_up u (336+24*i+11) x (336+24*i+a) = u (336+24*i+a) := fun a ha => va_up_ne _ _ (by omega)
  rw [wcel_b hi]
  simp only [bcel]
  rw [hh 0 (by decide), hh 1 (by decide), hh 7 (by decide), hh 8 (by decide), hh 12 (by decide), hh 13 (by decide), hh 2 (by decide), hh 3 (by decide), hh 4 (by decide), hh 5 (by decide), hh 6 (by decide), hh 9 (by decide), hh 10 (by decide), hh 21 (by decide), va_up_self, hx9]
  rfl
theorem setB_14 {G : CY} {ad : Nat → Nat} {b : Nat} {u : Nat → Int32} {i : Nat} {x : Int32} (hi : i < 4) : wcel G ad b (va_up u (336+24*i+21) x) (6+2*i) = .inr (2, ([.int (u (336+24*i+0)), .int (u (336+24*i+1)), .int (u (336+24*i+7)), .int (u (336+24*i+8)), .int (u (336+24*i+12)), .int (u (336+24*i+13)), .int (u (336+24*i+2)), .int (u (336+24*i+3)), .int (u (336+24*i+4)), .int (u (336+24*i+5)), .int (u (336+24*i+6)), .int (u (336+24*i+9)), .int (u (336+24*i+10)), .int (nb (u (336+24*i+11))), .int (u (336+24*i+21)), .ref (ad (b+(7+2*i)))] : List Value).set 14 (.int x)) := by
  have hh : ∀ a, a ≠ 21 → va_up u (336+24*i+21) x (336+24*i+a) = u (336+24*i+a) := fun a ha => va_up_ne _ _ (by omega)
  rw [wcel_b hi]
  simp only [bcel]
  rw [hh 0 (by decide), hh 1 (by decide), hh 7 (by decide), hh 8 (by decide), hh 12 (by decide), hh 13 (by decide), hh 2 (by decide), hh 3 (by decide), hh 4 (by decide), hh 5 (by decide), hh 6 (by decide), hh 9 (by decide), hh 10 (by decide), hh 11 (by decide), va_up_self]
  rfl
theorem setP_0 {G : CY} {ad : Nat → Nat} {b : Nat} {u : Nat → Int32} {i : Nat} {x : Int32} : wcel G ad b (va_up u (432+8*i+0) x) (14+i) = .inr (4, ([.int (u (432+8*i+0)), .int (u (432+8*i+1)), .int (u (432+8*i+2)), .int (u (432+8*i+3)), .int (u (432+8*i+4)), .int (u (432+8*i+6)), .int (u (432+8*i+5))] : List Value).set 0 (.int x)) := by
  have hh : ∀ a, a ≠ 0 → va_up u (432+8*i+0) x (432+8*i+a) = u (432+8*i+a) := fun a ha => va_up_ne _ _ (by omega)
  rw [wcel_p]
  simp only [pcel]
  rw [hh 1 (by decide), hh 2 (by decide), hh 3 (by decide), hh 4 (by decide), hh 6 (by decide), hh 5 (by decide), va_up_self]
  rfl
theorem setP_1 {G : CY} {ad : Nat → Nat} {b : Nat} {u : Nat → Int32} {i : Nat} {x : Int32} : wcel G ad b (va_up u (432+8*i+1) x) (14+i) = .inr (4, ([.int (u (432+8*i+0)), .int (u (432+8*i+1)), .int (u (432+8*i+2)), .int (u (432+8*i+3)), .int (u (432+8*i+4)), .int (u (432+8*i+6)), .int (u (432+8*i+5))] : List Value).set 1 (.int x)) := by
  have hh : ∀ a, a ≠ 1 → va_up u (432+8*i+1) x (432+8*i+a) = u (432+8*i+a) := fun a ha => va_up_ne _ _ (by omega)
  rw [wcel_p]
  simp only [pcel]
  rw [hh 0 (by decide), hh 2 (by decide), hh 3 (by decide), hh 4 (by decide), hh 6 (by decide), hh 5 (by decide), va_up_self]
  rfl
theorem setP_2 {G : CY} {ad : Nat → Nat} {b : Nat} {u : Nat → Int32} {i : Nat} {x : Int32} : wcel G ad b (va_up u (432+8*i+2) x) (14+i) = .inr (4, ([.int (u (432+8*i+0)), .int (u (432+8*i+1)), .int (u (432+8*i+2)), .int (u (432+8*i+3)), .int (u (432+8*i+4)), .int (u (432+8*i+6)), .int (u (432+8*i+5))] : List Value).set 2 (.int x)) := by
  have hh : ∀ a, a ≠ 2 → va_up u (432+8*i+2) x (432+8*i+a) = u (432+8*i+a) := fun a ha => va_up_ne _ _ (by omega)
  rw [wcel_p]
  simp only [pcel]
  rw [hh 0 (by decide), hh 1 (by decide), hh 3 (by decide), hh 4 (by decide), hh 6 (by decide), hh 5 (by decide), va_up_self]
  rfl
theorem setP_3 {G : CY} {ad : Nat → Nat} {b : Nat} {u : Nat → Int32} {i : Nat} {x : Int32} : wcel G ad b (va_up u (432+8*i+3) x) (14+i) = .inr (4, ([.int (u (432+8*i+0)), .int (u (432+8*i+1)), .int (u (432+8*i+2)), .int (u (432+8*i+3)), .int (u (432+8*i+4)), .int (u (432+8*i+6)), .int (u (432+8*i+5))] : List Value).set 3 (.int x)) := by
  have hh : ∀ a, a ≠ 3 → va_up u (432+8*i+3) x (432+8*i+a) = u (432+8*i+a) := fun a ha => va_up_ne _ _ (by omega)
  rw [wcel_p]
  simp only [pcel]
  rw [hh 0 (by decide), hh 1 (by decide), hh 2 (by decide), hh 4 (by decide), hh 6 (by decide), hh 5 (by decide), va_up_self]
  rfl
theorem setP_4 {G : CY} {ad : Nat → Nat} {b : Nat} {u : Nat → Int32} {i : Nat} {x : Int32} : wcel G ad b (va_up u (432+8*i+4) x) (14+i) = .inr (4, ([.int (u (432+8*i+0)), .int (u (432+8*i+1)), .int (u (432+8*i+2)), .int (u (432+8*i+3)), .int (u (432+8*i+4)), .int (u (432+8*i+6)), .int (u (432+8*i+5))] : List Value).set 4 (.int x)) := by
  have hh : ∀ a, a ≠ 4 → va_up u (432+8*i+4) x (432+8*i+a) = u (432+8*i+a) := fun a ha => va_up_ne _ _ (by omega)
  rw [wcel_p]
  simp only [pcel]
  rw [hh 0 (by decide), hh 1 (by decide), hh 2 (by decide), hh 3 (by decide), hh 6 (by decide), hh 5 (by decide), va_up_self]
  rfl
theorem setP_5 {G : CY} {ad : Nat → Nat} {b : Nat} {u : Nat → Int32} {i : Nat} {x : Int32} : wcel G ad b (va_up u (432+8*i+6) x) (14+i) = .inr (4, ([.int (u (432+8*i+0)), .int (u (432+8*i+1)), .int (u (432+8*i+2)), .int (u (432+8*i+3)), .int (u (432+8*i+4)), .int (u (432+8*i+6)), .int (u (432+8*i+5))] : List Value).set 5 (.int x)) := by
  have hh : ∀ a, a ≠ 6 → va_up u (432+8*i+6) x (432+8*i+a) = u (432+8*i+a) := fun a ha => va_up_ne _ _ (by omega)
  rw [wcel_p]
  simp only [pcel]
  rw [hh 0 (by decide), hh 1 (by decide), hh 2 (by decide), hh 3 (by decide), hh 4 (by decide), hh 5 (by decide), va_up_self]
  rfl
theorem setP_6 {G : CY} {ad : Nat → Nat} {b : Nat} {u : Nat → Int32} {i : Nat} {x : Int32} : wcel G ad b (va_up u (432+8*i+5) x) (14+i) = .inr (4, ([.int (u (432+8*i+0)), .int (u (432+8*i+1)), .int (u (432+8*i+2)), .int (u (432+8*i+3)), .int (u (432+8*i+4)), .int (u (432+8*i+6)), .int (u (432+8*i+5))] : List Value).set 6 (.int x)) := by
  have hh : ∀ a, a ≠ 5 → va_up u (432+8*i+5) x (432+8*i+a) = u (432+8*i+a) := fun a ha => va_up_ne _ _ (by omega)
  rw [wcel_p]
  simp only [pcel]
  rw [hh 0 (by decide), hh 1 (by decide), hh 2 (by decide), hh 3 (by decide), hh 4 (by decide), hh 6 (by decide), va_up_self]
  rfl
theorem setO_4 {G : CY} {ad : Nat → Nat} {b : Nat} {u : Nat → Int32} {x : Int32} : wcel G ad b (va_up u 464 x) 0 = .inr (7, ([.ref (ad (b+1)), .ref (ad (b+3)), .ref (ad (b+4)), .ref (ad (b+5)), .int (u 464), .int (u 465), .int (u 466)] : List Value).set 4 (.int x)) := by
  show ocel ad b (va_up u 464 x) = _
  simp only [ocel]
  rw [va_up_ne _ _ (by decide : 465 ≠ 464), va_up_ne _ _ (by decide : 466 ≠ 464), va_up_self]
  rfl
theorem setO_5 {G : CY} {ad : Nat → Nat} {b : Nat} {u : Nat → Int32} {x : Int32} : wcel G ad b (va_up u 465 x) 0 = .inr (7, ([.ref (ad (b+1)), .ref (ad (b+3)), .ref (ad (b+4)), .ref (ad (b+5)), .int (u 464), .int (u 465), .int (u 466)] : List Value).set 5 (.int x)) := by
  show ocel ad b (va_up u 465 x) = _
  simp only [ocel]
  rw [va_up_ne _ _ (by decide : 464 ≠ 465), va_up_ne _ _ (by decide : 466 ≠ 465), va_up_self]
  rfl
theorem setO_6 {G : CY} {ad : Nat → Nat} {b : Nat} {u : Nat → Int32} {x : Int32} : wcel G ad b (va_up u 466 x) 0 = .inr (7, ([.ref (ad (b+1)), .ref (ad (b+3)), .ref (ad (b+4)), .ref (ad (b+5)), .int (u 464), .int (u 465), .int (u 466)] : List Value).set 6 (.int x)) := by
  show ocel ad b (va_up u 466 x) = _
  simp only [ocel]
  rw [va_up_ne _ _ (by decide : 464 ≠ 466), va_up_ne _ _ (by decide : 465 ≠ 466), va_up_self]
  rfl
theorem setR_7 {G : CY} {ad : Nat → Nat} {u z : Nat → Int32} {x : Int32} (hx9 : nb x = x) : ccel G ad (va_up u 0 x) z 270 = .inr (8, ([.ref (ad 0), .ref (ad 18), .ref (ad 36), .ref (ad 271), .ref (ad 272), .ref (ad 273), .ref (ad 275), .int (nb (u 0)), .int (u 1)] : List Value).set 7 (.int x)) := by
  show rcel ad (va_up u 0 x) = _
  simp only [rcel]
  rw [va_up_ne _ _ (by decide : 1 ≠ 0), va_up_self, hx9]
  rfl
theorem setR_8 {G : CY} {ad : Nat → Nat} {u z : Nat → Int32} {x : Int32} : ccel G ad (va_up u 1 x) z 270 = .inr (8, ([.ref (ad 0), .ref (ad 18), .ref (ad 36), .ref (ad 271), .ref (ad 272), .ref (ad 273), .ref (ad 275), .int (nb (u 0)), .int (u 1)] : List Value).set 8 (.int x)) := by
  show rcel ad (va_up u 1 x) = _
  simp only [rcel]
  rw [va_up_ne _ _ (by decide : 0 ≠ 1), va_up_self]
  rfl
theorem setY_1 {G : CY} {ad : Nat → Nat} {u z : Nat → Int32} {x : Int32} : ccel G ad (va_up u 2 x) z 273 = .inr (3, ([.ref (ad 274), .int (u 2), .int (u 3)] : List Value).set 1 (.int x)) := by
  show ycel ad (va_up u 2 x) = _
  simp only [ycel]
  rw [va_up_ne _ _ (by decide : 3 ≠ 2), va_up_self]
  rfl
theorem setY_2 {G : CY} {ad : Nat → Nat} {u z : Nat → Int32} {x : Int32} : ccel G ad (va_up u 3 x) z 273 = .inr (3, ([.ref (ad 274), .int (u 2), .int (u 3)] : List Value).set 2 (.int x)) := by
  show ycel ad (va_up u 3 x) = _
  simp only [ycel]
  rw [va_up_ne _ _ (by decide : 2 ≠ 3), va_up_self]
  rfl
theorem setX_1 {G : CY} {ad : Nat → Nat} {u z : Nat → Int32} {x : Int32} : ccel G ad (va_up u 4 x) z 275 = .inr (5, ([.ref (ad 276), .int (u 4), .ref (ad 277), .ref (ad 278), .int (u 5)] : List Value).set 1 (.int x)) := by
  show xcel ad (va_up u 4 x) = _
  simp only [xcel]
  rw [va_up_ne _ _ (by decide : 5 ≠ 4), va_up_self]
  rfl
theorem setX_4 {G : CY} {ad : Nat → Nat} {u z : Nat → Int32} {x : Int32} : ccel G ad (va_up u 5 x) z 275 = .inr (5, ([.ref (ad 276), .int (u 4), .ref (ad 277), .ref (ad 278), .int (u 5)] : List Value).set 4 (.int x)) := by
  show xcel ad (va_up u 5 x) = _
  simp only [xcel]
  rw [va_up_ne _ _ (by decide : 4 ≠ 5), va_up_self]
  rfl
theorem setM_0 {G : CY} {ad : Nat → Nat} {u z : Nat → Int32} {x : Int32} : ccel G ad z (va_up u 490 x) 279 = .inr (9, ([.int (u 490), .ref (ad 280), .ref (ad 281), .ref (ad 282), .ref (ad 283), .ref (ad 284), .ref (ad 285), .ref (ad 286), .int (u 491), .int (nb (u 492)), .ref (ad 287), .ref (ad 288), .ref (ad 289), .int (u 493), .int (u 494), .int (u 495), .int (u 496)] : List Value).set 0 (.int x)) := by
  show mcel ad (va_up u 490 x) = _
  simp only [mcel]
  rw [va_up_ne _ _ (by decide : 491 ≠ 490), va_up_ne _ _ (by decide : 492 ≠ 490), va_up_ne _ _ (by decide : 493 ≠ 490), va_up_ne _ _ (by decide : 494 ≠ 490), va_up_ne _ _ (by decide : 495 ≠ 490), va_up_ne _ _ (by decide : 496 ≠ 490), va_up_self]
  rfl
theorem setM_8 {G : CY} {ad : Nat → Nat} {u z : Nat → Int32} {x : Int32} : ccel G ad z (va_up u 491 x) 279 = .inr (9, ([.int (u 490), .ref (ad 280), .ref (ad 281), .ref (ad 282), .ref (ad 283), .ref (ad 284), .ref (ad 285), .ref (ad 286), .int (u 491), .int (nb (u 492)), .ref (ad 287), .ref (ad 288), .ref (ad 289), .int (u 493), .int (u 494), .int (u 495), .int (u 496)] : List Value).set 8 (.int x)) := by
  show mcel ad (va_up u 491 x) = _
  simp only [mcel]
  rw [va_up_ne _ _ (by decide : 490 ≠ 491), va_up_ne _ _ (by decide : 492 ≠ 491), va_up_ne _ _ (by decide : 493 ≠ 491), va_up_ne _ _ (by decide : 494 ≠ 491), va_up_ne _ _ (by decide : 495 ≠ 491), va_up_ne _ _ (by decide : 496 ≠ 491), va_up_self]
  rfl
theorem setM_9 {G : CY} {ad : Nat → Nat} {u z : Nat → Int32} {x : Int32} (hx9 : nb x = x) : ccel G ad z (va_up u 492 x) 279 = .inr (9, ([.int (u 490), .ref (ad 280), .ref (ad 281), .ref (ad 282), .ref (ad 283), .ref (ad 284), .ref (ad 285), .ref (ad 286), .int (u 491), .int (nb (u 492)), .ref (ad 287), .ref (ad 288), .ref (ad 289), .int (u 493), .int (u 494), .int (u 495), .int (u 496)] : List Value).set 9 (.int x)) := by
  show mcel ad (va_up u 492 x) = _
  simp only [mcel]
  rw [va_up_ne _ _ (by decide : 490 ≠ 492), va_up_ne _ _ (by decide : 491 ≠ 492), va_up_ne _ _ (by decide : 493 ≠ 492), va_up_ne _ _ (by decide : 494 ≠ 492), va_up_ne _ _ (by decide : 495 ≠ 492), va_up_ne _ _ (by decide : 496 ≠ 492), va_up_self, hx9]
  rfl
theorem setM_13 {G : CY} {ad : Nat → Nat} {u z : Nat → Int32} {x : Int32} : ccel G ad z (va_up u 493 x) 279 = .inr (9, ([.int (u 490), .ref (ad 280), .ref (ad 281), .ref (ad 282), .ref (ad 283), .ref (ad 284), .ref (ad 285), .ref (ad 286), .int (u 491), .int (nb (u 492)), .ref (ad 287), .ref (ad 288), .ref (ad 289), .int (u 493), .int (u 494), .int (u 495), .int (u 496)] : List Value).set 13 (.int x)) := by
  show mcel ad (va_up u 493 x) = _
  simp only [mcel]
  rw [va_up_ne _ _ (by decide : 490 ≠ 493), va_up_ne _ _ (by decide : 491 ≠ 493), va_up_ne _ _ (by decide : 492 ≠ 493), va_up_ne _ _ (by decide : 494 ≠ 493), va_up_ne _ _ (by decide : 495 ≠ 493), va_up_ne _ _ (by decide : 496 ≠ 493), va_up_self]
  rfl
theorem setM_14 {G : CY} {ad : Nat → Nat} {u z : Nat → Int32} {x : Int32} : ccel G ad z (va_up u 494 x) 279 = .inr (9, ([.int (u 490), .ref (ad 280), .ref (ad 281), .ref (ad 282), .ref (ad 283), .ref (ad 284), .ref (ad 285), .ref (ad 286), .int (u 491), .int (nb (u 492)), .ref (ad 287), .ref (ad 288), .ref (ad 289), .int (u 493), .int (u 494), .int (u 495), .int (u 496)] : List Value).set 14 (.int x)) := by
  show mcel ad (va_up u 494 x) = _
  simp only [mcel]
  rw [va_up_ne _ _ (by decide : 490 ≠ 494), va_up_ne _ _ (by decide : 491 ≠ 494), va_up_ne _ _ (by decide : 492 ≠ 494), va_up_ne _ _ (by decide : 493 ≠ 494), va_up_ne _ _ (by decide : 495 ≠ 494), va_up_ne _ _ (by decide : 496 ≠ 494), va_up_self]
  rfl
theorem setM_15 {G : CY} {ad : Nat → Nat} {u z : Nat → Int32} {x : Int32} : ccel G ad z (va_up u 495 x) 279 = .inr (9, ([.int (u 490), .ref (ad 280), .ref (ad 281), .ref (ad 282), .ref (ad 283), .ref (ad 284), .ref (ad 285), .ref (ad 286), .int (u 491), .int (nb (u 492)), .ref (ad 287), .ref (ad 288), .ref (ad 289), .int (u 493), .int (u 494), .int (u 495), .int (u 496)] : List Value).set 15 (.int x)) := by
  show mcel ad (va_up u 495 x) = _
  simp only [mcel]
  rw [va_up_ne _ _ (by decide : 490 ≠ 495), va_up_ne _ _ (by decide : 491 ≠ 495), va_up_ne _ _ (by decide : 492 ≠ 495), va_up_ne _ _ (by decide : 493 ≠ 495), va_up_ne _ _ (by decide : 494 ≠ 495), va_up_ne _ _ (by decide : 496 ≠ 495), va_up_self]
  rfl
theorem setM_16 {G : CY} {ad : Nat → Nat} {u z : Nat → Int32} {x : Int32} : ccel G ad z (va_up u 496 x) 279 = .inr (9, ([.int (u 490), .ref (ad 280), .ref (ad 281), .ref (ad 282), .ref (ad 283), .ref (ad 284), .ref (ad 285), .ref (ad 286), .int (u 491), .int (nb (u 492)), .ref (ad 287), .ref (ad 288), .ref (ad 289), .int (u 493), .int (u 494), .int (u 495), .int (u 496)] : List Value).set 16 (.int x)) := by
  show mcel ad (va_up u 496 x) = _
  simp only [mcel]
  rw [va_up_ne _ _ (by decide : 490 ≠ 496), va_up_ne _ _ (by decide : 491 ≠ 496), va_up_ne _ _ (by decide : 492 ≠ 496), va_up_ne _ _ (by decide : 493 ≠ 496), va_up_ne _ _ (by decide : 494 ≠ 496), va_up_ne _ _ (by decide : 495 ≠ 496), va_up_self]
  rfl
theorem c_270 {G : CY} {ad : Nat → Nat} {σ : Nat → Nat → Int32} {u : Nat → Int32} : (pool G ad (va_up σ 15 u))[270]? = some (ad 270, rcel ad u) := pool_atE (by decide) (by rw [cel_c (by decide), va_up_self, va_up_ne _ _ (by decide : 16 ≠ 15)]; rfl)
theorem c_271 {G : CY} {ad : Nat → Nat} {σ : Nat → Nat → Int32} {u : Nat → Int32} : (pool G ad (va_up σ 15 u))[271]? = some (ad 271, icel G 4 10 u) := pool_atE (by decide) (by rw [cel_c (by decide), va_up_self, va_up_ne _ _ (by decide : 16 ≠ 15)]; rfl)
theorem c_272 {G : CY} {ad : Nat → Nat} {σ : Nat → Nat → Int32} {u : Nat → Int32} : (pool G ad (va_up σ 15 u))[272]? = some (ad 272, icel G 4 14 u) := pool_atE (by decide) (by rw [cel_c (by decide), va_up_self, va_up_ne _ _ (by decide : 16 ≠ 15)]; rfl)
theorem c_273 {G : CY} {ad : Nat → Nat} {σ : Nat → Nat → Int32} {u : Nat → Int32} : (pool G ad (va_up σ 15 u))[273]? = some (ad 273, ycel ad u) := pool_atE (by decide) (by rw [cel_c (by decide), va_up_self, va_up_ne _ _ (by decide : 16 ≠ 15)]; rfl)
theorem c_275 {G : CY} {ad : Nat → Nat} {σ : Nat → Nat → Int32} {u : Nat → Int32} : (pool G ad (va_up σ 15 u))[275]? = some (ad 275, xcel ad u) := pool_atE (by decide) (by rw [cel_c (by decide), va_up_self, va_up_ne _ _ (by decide : 16 ≠ 15)]; rfl)
theorem c_276 {G : CY} {ad : Nat → Nat} {σ : Nat → Nat → Int32} {u : Nat → Int32} : (pool G ad (va_up σ 15 u))[276]? = some (ad 276, hcel G 40 20 u) := pool_atE (by decide) (by rw [cel_c (by decide), va_up_self, va_up_ne _ _ (by decide : 16 ≠ 15)]; rfl)
theorem c_277 {G : CY} {ad : Nat → Nat} {σ : Nat → Nat → Int32} {u : Nat → Int32} : (pool G ad (va_up σ 15 u))[277]? = some (ad 277, icel G 20 60 u) := pool_atE (by decide) (by rw [cel_c (by decide), va_up_self, va_up_ne _ _ (by decide : 16 ≠ 15)]; rfl)
theorem c_278 {G : CY} {ad : Nat → Nat} {σ : Nat → Nat → Int32} {u : Nat → Int32} : (pool G ad (va_up σ 15 u))[278]? = some (ad 278, icel G 20 80 u) := pool_atE (by decide) (by rw [cel_c (by decide), va_up_self, va_up_ne _ _ (by decide : 16 ≠ 15)]; rfl)
theorem c_279 {G : CY} {ad : Nat → Nat} {σ : Nat → Nat → Int32} {u : Nat → Int32} : (pool G ad (va_up σ 16 u))[279]? = some (ad 279, mcel ad u) := pool_atE (by decide) (by rw [cel_c (by decide), va_up_self, va_up_ne _ _ (by decide : 15 ≠ 16)]; rfl)
theorem c_280 {G : CY} {ad : Nat → Nat} {σ : Nat → Nat → Int32} {u : Nat → Int32} : (pool G ad (va_up σ 16 u))[280]? = some (ad 280, icel G 480 0 u) := pool_atE (by decide) (by rw [cel_c (by decide), va_up_self, va_up_ne _ _ (by decide : 15 ≠ 16)]; rfl)
theorem c_281 {G : CY} {ad : Nat → Nat} {σ : Nat → Nat → Int32} {u : Nat → Int32} : (pool G ad (va_up σ 16 u))[281]? = some (ad 281, icel G 4 480 u) := pool_atE (by decide) (by rw [cel_c (by decide), va_up_self, va_up_ne _ _ (by decide : 15 ≠ 16)]; rfl)
theorem c_282 {G : CY} {ad : Nat → Nat} {σ : Nat → Nat → Int32} {u : Nat → Int32} : (pool G ad (va_up σ 16 u))[282]? = some (ad 282, icel G 4 484 u) := pool_atE (by decide) (by rw [cel_c (by decide), va_up_self, va_up_ne _ _ (by decide : 15 ≠ 16)]; rfl)
theorem c_283 {G : CY} {ad : Nat → Nat} {σ : Nat → Nat → Int32} {u : Nat → Int32} : (pool G ad (va_up σ 16 u))[283]? = some (ad 283, icel G 5760 2000 u) := pool_atE (by decide) (by rw [cel_c (by decide), va_up_self, va_up_ne _ _ (by decide : 15 ≠ 16)]; rfl)
theorem c_284 {G : CY} {ad : Nat → Nat} {σ : Nat → Nat → Int32} {u : Nat → Int32} : (pool G ad (va_up σ 16 u))[284]? = some (ad 284, icel G 480 600 u) := pool_atE (by decide) (by rw [cel_c (by decide), va_up_self, va_up_ne _ _ (by decide : 15 ≠ 16)]; rfl)
theorem c_285 {G : CY} {ad : Nat → Nat} {σ : Nat → Nat → Int32} {u : Nat → Int32} : (pool G ad (va_up σ 16 u))[285]? = some (ad 285, icel G 480 1100 u) := pool_atE (by decide) (by rw [cel_c (by decide), va_up_self, va_up_ne _ _ (by decide : 15 ≠ 16)]; rfl)
theorem c_286 {G : CY} {ad : Nat → Nat} {σ : Nat → Nat → Int32} {u : Nat → Int32} : (pool G ad (va_up σ 16 u))[286]? = some (ad 286, icel G 4 580 u) := pool_atE (by decide) (by rw [cel_c (by decide), va_up_self, va_up_ne _ _ (by decide : 15 ≠ 16)]; rfl)
theorem c_287 {G : CY} {ad : Nat → Nat} {σ : Nat → Nat → Int32} {u : Nat → Int32} : (pool G ad (va_up σ 16 u))[287]? = some (ad 287, hcel G 40 500 u) := pool_atE (by decide) (by rw [cel_c (by decide), va_up_self, va_up_ne _ _ (by decide : 15 ≠ 16)]; rfl)
theorem c_288 {G : CY} {ad : Nat → Nat} {σ : Nat → Nat → Int32} {u : Nat → Int32} : (pool G ad (va_up σ 16 u))[288]? = some (ad 288, icel G 20 540 u) := pool_atE (by decide) (by rw [cel_c (by decide), va_up_self, va_up_ne _ _ (by decide : 15 ≠ 16)]; rfl)
theorem c_289 {G : CY} {ad : Nat → Nat} {σ : Nat → Nat → Int32} {u : Nat → Int32} : (pool G ad (va_up σ 16 u))[289]? = some (ad 289, icel G 20 560 u) := pool_atE (by decide) (by rw [cel_c (by decide), va_up_self, va_up_ne _ _ (by decide : 15 ≠ 16)]; rfl)
theorem c_274 {G : CY} {ad : Nat → Nat} {σ : Nat → Nat → Int32} : (pool G ad σ)[274]? = some (ad 274, qcel G.2.2.2.2 12 (fun i => ad (18*(3+i)))) := pool_atE (by decide) (by rw [cel_c (by decide)]; rfl)

/-! the invariants of the other rows, more names -/
theorem ho_at {D : va_G} {G : CY} {ad : Nat → Nat} {σ : Nat → Nat → Int32} {t : State} {H : Heap} (ht : t.heap = H) (h : Ho D G ad σ t) : va_P D vwCl (pool G ad σ) H := ht ▸ h
theorem ho_of {D : va_G} {G : CY} {ad : Nat → Nat} {σ : Nat → Nat → Int32} {t : State} {H : Heap} (ht : t.heap = H) (h : va_P D vwCl (pool G ad σ) H) : Ho D G ad σ t := by unfold Ho; rw [ht]; exact h
theorem g_o {G : CY} {ad : Nat → Nat} {σ : Nat → Nat → Int32} {w : Nat} (hw : w < 15) : (pool G ad σ)[18*w+0]? = some (ad (18*w+0), ocel ad (18*w) (σ w)) := pool_atE (by omega) (cel_w hw (by omega))
theorem g_t {G : CY} {ad : Nat → Nat} {σ : Nat → Nat → Int32} {w : Nat} (hw : w < 15) : (pool G ad σ)[18*w+1]? = some (ad (18*w+1), .inr (6, [.ref (ad (18*w+2))])) := pool_atE (by omega) (cel_w hw (by omega))
theorem g_k {G : CY} {ad : Nat → Nat} {σ : Nat → Nat → Int32} {w : Nat} (hw : w < 15) : (pool G ad σ)[18*w+2]? = some (ad (18*w+2), kcel G (σ w)) := pool_atE (by omega) (cel_w hw (by omega))
theorem g_a {G : CY} {ad : Nat → Nat} {σ : Nat → Nat → Int32} {w : Nat} (hw : w < 15) : (pool G ad σ)[18*w+5]? = some (ad (18*w+5), acel G (σ w)) := pool_atE (by omega) (cel_w hw (by omega))
theorem g_b {G : CY} {ad : Nat → Nat} {σ : Nat → Nat → Int32} {w i : Nat} (hw : w < 15) (hi : i < 4) : (pool G ad σ)[18*w+(6+2*i)]? = some (ad (18*w+(6+2*i)), bcel ad (18*w) (σ w) i) := pool_atE (by omega) ((cel_w hw (by omega)).trans (wcel_b hi))
theorem g_s {G : CY} {ad : Nat → Nat} {σ : Nat → Nat → Int32} {w i : Nat} (hw : w < 15) (hi : i < 4) : (pool G ad σ)[18*w+(7+2*i)]? = some (ad (18*w+(7+2*i)), scel G (σ w) i) := pool_atE (by omega) ((cel_w hw (by omega)).trans (wcel_s hi))
theorem g_p {G : CY} {ad : Nat → Nat} {σ : Nat → Nat → Int32} {w i : Nat} (hw : w < 15) (hi : i < 4) : (pool G ad σ)[18*w+(14+i)]? = some (ad (18*w+(14+i)), pcel (σ w) i) := pool_atE (by omega) ((cel_w hw (by omega)).trans wcel_p)
theorem g_270 {G : CY} {ad : Nat → Nat} {σ : Nat → Nat → Int32} : (pool G ad σ)[270]? = some (ad 270, rcel ad (σ 15)) := pool_atE (by decide) (by rw [cel_c (by decide)]; rfl)
theorem g_271 {G : CY} {ad : Nat → Nat} {σ : Nat → Nat → Int32} : (pool G ad σ)[271]? = some (ad 271, icel G 4 10 (σ 15)) := pool_atE (by decide) (by rw [cel_c (by decide)]; rfl)
theorem g_272 {G : CY} {ad : Nat → Nat} {σ : Nat → Nat → Int32} : (pool G ad σ)[272]? = some (ad 272, icel G 4 14 (σ 15)) := pool_atE (by decide) (by rw [cel_c (by decide)]; rfl)
theorem g_273 {G : CY} {ad : Nat → Nat} {σ : Nat → Nat → Int32} : (pool G ad σ)[273]? = some (ad 273, ycel ad (σ 15)) := pool_atE (by decide) (by rw [cel_c (by decide)]; rfl)
theorem g_275 {G : CY} {ad : Nat → Nat} {σ : Nat → Nat → Int32} : (pool G ad σ)[275]? = some (ad 275, xcel ad (σ 15)) := pool_atE (by decide) (by rw [cel_c (by decide)]; rfl)
theorem g_276 {G : CY} {ad : Nat → Nat} {σ : Nat → Nat → Int32} : (pool G ad σ)[276]? = some (ad 276, hcel G 40 20 (σ 15)) := pool_atE (by decide) (by rw [cel_c (by decide)]; rfl)
theorem g_277 {G : CY} {ad : Nat → Nat} {σ : Nat → Nat → Int32} : (pool G ad σ)[277]? = some (ad 277, icel G 20 60 (σ 15)) := pool_atE (by decide) (by rw [cel_c (by decide)]; rfl)
theorem g_278 {G : CY} {ad : Nat → Nat} {σ : Nat → Nat → Int32} : (pool G ad σ)[278]? = some (ad 278, icel G 20 80 (σ 15)) := pool_atE (by decide) (by rw [cel_c (by decide)]; rfl)
theorem g_279 {G : CY} {ad : Nat → Nat} {σ : Nat → Nat → Int32} : (pool G ad σ)[279]? = some (ad 279, mcel ad (σ 16)) := pool_atE (by decide) (by rw [cel_c (by decide)]; rfl)
theorem g_280 {G : CY} {ad : Nat → Nat} {σ : Nat → Nat → Int32} : (pool G ad σ)[280]? = some (ad 280, icel G 480 0 (σ 16)) := pool_atE (by decide) (by rw [cel_c (by decide)]; rfl)
theorem g_281 {G : CY} {ad : Nat → Nat} {σ : Nat → Nat → Int32} : (pool G ad σ)[281]? = some (ad 281, icel G 4 480 (σ 16)) := pool_atE (by decide) (by rw [cel_c (by decide)]; rfl)
theorem g_282 {G : CY} {ad : Nat → Nat} {σ : Nat → Nat → Int32} : (pool G ad σ)[282]? = some (ad 282, icel G 4 484 (σ 16)) := pool_atE (by decide) (by rw [cel_c (by decide)]; rfl)
theorem g_283 {G : CY} {ad : Nat → Nat} {σ : Nat → Nat → Int32} : (pool G ad σ)[283]? = some (ad 283, icel G 5760 2000 (σ 16)) := pool_atE (by decide) (by rw [cel_c (by decide)]; rfl)
theorem g_284 {G : CY} {ad : Nat → Nat} {σ : Nat → Nat → Int32} : (pool G ad σ)[284]? = some (ad 284, icel G 480 600 (σ 16)) := pool_atE (by decide) (by rw [cel_c (by decide)]; rfl)
theorem g_285 {G : CY} {ad : Nat → Nat} {σ : Nat → Nat → Int32} : (pool G ad σ)[285]? = some (ad 285, icel G 480 1100 (σ 16)) := pool_atE (by decide) (by rw [cel_c (by decide)]; rfl)
theorem g_286 {G : CY} {ad : Nat → Nat} {σ : Nat → Nat → Int32} : (pool G ad σ)[286]? = some (ad 286, icel G 4 580 (σ 16)) := pool_atE (by decide) (by rw [cel_c (by decide)]; rfl)
theorem g_287 {G : CY} {ad : Nat → Nat} {σ : Nat → Nat → Int32} : (pool G ad σ)[287]? = some (ad 287, hcel G 40 500 (σ 16)) := pool_atE (by decide) (by rw [cel_c (by decide)]; rfl)
theorem g_288 {G : CY} {ad : Nat → Nat} {σ : Nat → Nat → Int32} : (pool G ad σ)[288]? = some (ad 288, icel G 20 540 (σ 16)) := pool_atE (by decide) (by rw [cel_c (by decide)]; rfl)
theorem g_289 {G : CY} {ad : Nat → Nat} {σ : Nat → Nat → Int32} : (pool G ad σ)[289]? = some (ad 289, icel G 20 560 (σ 16)) := pool_atE (by decide) (by rw [cel_c (by decide)]; rfl)
theorem c_set {G : CY} {ad : Nat → Nat} {σ : Nat → Nat → Int32} {u : Nat → Int32} {w : Nat} (hw : w < 15) : (pool G ad (va_up σ w u))[271]? = some (ad 271, icel G 4 10 (σ 15)) := pool_atE (by decide) (by rw [cel_c (by decide), va_up_ne _ _ (by omega : 15 ≠ w)]; rfl)

/-- as Met.ofW (the same walk of its lines), for a method of a class with overridden members, none of them this one -/
theorem met_ofF {l : Launch} {y : MethodName} {ws ws' : List Cond} {rm : Room} {Pc : Array Value → State → Prop} {Qc : Array Value → State → Outcome → State → Prop} {mc ms : Nat} {free : Addr → Prop} {cc : ByteArray} {maxL : Nat} {ret : Option FieldType}
    (hy : plainFor y = true) (hw : ws = Cond.code y cc maxL ret :: ws')
    (body : ∀ p e s m args below meth c s₁, BodyLoose p l y (headSpec ws rm) cc maxL ret e s m args below meth c s₁ → c.maxLocals = maxL → Pc args s →
      W p l e (headSpec ws rm).room s m args below meth c s.heap [] 0 0 (MQ below Qc args s mc ms free) (entryFrame m args maxL)) : Met l y ws rm Pc Qc mc ms free := by
  refine MetFree.of_bodySF (code := cc) (maxLocals := maxL) (ret := ret) hy ?_ ?_
  · intro args s m h hn
    obtain ⟨meth, c, h1, h2, h3, h4, h5, h6, -, -⟩ := Cond.code_spec hn (atoms_spec (ws := ws) h _ (by rw [hw]; exact List.mem_cons_self))
    exact ⟨meth, c, h1, h2, h3, h4, h5, h6⟩
  · intro p e s m args below meth c s₁ B hml hP _
    have hh0 : s₁.heap = s.heap := by rw [B.state]; rfl
    obtain ⟨t, a1, o, b1, b2, b3⟩ := body p e s m args below meth c s₁ B hml hP s₁ hh0 (Stand.of_body B)
    exact ⟨t, o, a1, b1, b2, ⟨b3.1, b3.2⟩⟩
