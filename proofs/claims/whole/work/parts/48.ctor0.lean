/-! CONSTRUCTORS: rows over cells that lie side by side from h0 on. They go as the kit's rows va_new, va_newq, va_put, va_putF, va_astq, va_iast, va_clone go, but keep the heap's size. -/
abbrev AC (h0 : Nat) : Nat → Prop := fun q => h0 ≤ q
def cP (D : va_G) (h0 k : Nat) (f : Nat → va_E) (H : Heap) : Prop := H.size = h0 + k ∧ ∀ t, t < k → va_at D vwCl (h0 + t, f t) H
def cj (f : Nat → va_E) (b : Nat) (g : Nat → va_E) : Nat → va_E := fun t => if t < b then f t else g (t - b)
theorem cP.push {D : va_G} {H H1 : Heap} {h0 k : Nat} {f : Nat → va_E} {x : va_E} (h : cP D h0 k f H) (z : H1.size = H.size + 1) (o : ∀ q, q < H.size → H1[q]? = H[q]?) (hx : va_at D vwCl (h0 + k, x) H1) : cP D h0 (k+1) (va_up f k x) H1 := by
  have hz := h.1
  refine ⟨by omega, fun t ht => ?_⟩
  by_cases e : t = k
  · subst e; rw [va_up_self]; exact hx
  · rw [va_up_ne _ _ e]; exact (h.2 t (by omega)).kept (o _ (by show h0 + t < _; omega))
theorem cP.set {D : va_G} {H H1 : Heap} {h0 k : Nat} {f : Nat → va_E} {x : va_E} {t0 : Nat} (h : cP D h0 k f H) (z : H1.size = H.size) (o : ∀ q, q ≠ h0 + t0 → H1[q]? = H[q]?) (hx : va_at D vwCl (h0 + t0, x) H1) : cP D h0 k (va_up f t0 x) H1 := by
  have hz := h.1
  refine ⟨by omega, fun t ht => ?_⟩
  by_cases e : t = t0
  · subst e; rw [va_up_self]; exact hx
  · rw [va_up_ne _ _ e]; exact (h.2 t ht).kept (o _ (by show h0 + t ≠ _; omega))
theorem cP.call {D : va_G} {H H1 : Heap} {h0 b k2 : Nat} {f g : Nat → va_E} (h : cP D h0 (b+1) f H) (h2 : cP D (h0+b) k2 g H1) (ho : ∀ q, q < H.size → ¬ AC (h0+b) q → H1[q]? = H[q]?) : cP D h0 (b+k2) (cj f b g) H1 := by
  have hz := h.1
  have hz2 := h2.1
  refine ⟨by omega, fun t ht => ?_⟩
  unfold cj
  by_cases e : t < b
  · rw [if_pos e]; exact (h.2 t (by omega)).kept (ho _ (by show h0 + t < _; omega) (by show ¬ h0 + b ≤ h0 + t; omega))
  · rw [if_neg e]
    have h9 := h2.2 (t - b) (by omega)
    rw [show h0 + b + (t - b) = h0 + t by omega] at h9
    exact h9
theorem cP.last {D : va_G} {H : Heap} {h0 b : Nat} {f : Nat → va_E} {x : va_E} (h : cP D h0 (b+1) f H) (e : f b = x) : cP D (h0+b) 1 (fun _ => x) H := by
  have hz := h.1
  refine ⟨by omega, fun t ht => ?_⟩
  have h9 := h.2 b (by omega)
  rw [e] at h9
  rw [show h0 + b + t = h0 + b by omega]; exact h9
theorem cP.cg {D : va_G} {H : Heap} {h0 k : Nat} {f g : Nat → va_E} (h : cP D h0 k f H) (e : ∀ t, t < k → va_at D vwCl (h0 + t, f t) H → va_at D vwCl (h0 + t, g t) H) : cP D h0 k g H := ⟨h.1, fun t ht => e t ht (h.2 t ht)⟩
theorem cS.push {A : Nat → Prop} {H0 H H1 : Heap} {locs : List Loc} (h : va_S A H0 H locs) (z : H1.size = H.size + 1) (o : ∀ q, q < H.size → H1[q]? = H[q]?) : va_S A H0 H1 locs := ⟨Nat.le_trans h.1 (by omega), fun x h1 h2 => (o x (Nat.lt_of_lt_of_le h1 h.1)).trans (h.2.1 x h1 h2), h.2.2⟩
/-- rows of references, of ints: what lies beyond the length doesn't count -/
theorem cell_q {D : va_G} {H : Heap} {a n : Nat} {cA : ClassId} {f g : Nat → Option Nat} (e : ∀ i, i < n → f i = g i) (h : va_at D vwCl (a, .inl (cA, n, .inr (.inr (.inr (.inr f))))) H) : va_at D vwCl (a, .inl (cA, n, .inr (.inr (.inr (.inr g))))) H := by
  have h : H[a]? = some (vp_cell cA (n, .inr (.inr (.inr (.inr f))))) := h
  show H[a]? = some (vp_cell cA (n, .inr (.inr (.inr (.inr g)))))
  rw [h, vp_cell_q, vp_cell_q]
  unfold arrV
  congr 2
  exact congrArg Array.ofFn (funext fun j => congrArg va_rf (e j.val j.isLt))
theorem cell_i {D : va_G} {H : Heap} {a n : Nat} {cA : ClassId} {f g : Nat → Int32} (e : ∀ i, i < n → f i = g i) (h : va_at D vwCl (a, .inl (cA, n, .inl f)) H) : va_at D vwCl (a, .inl (cA, n, .inl g)) H := by
  have h : H[a]? = some (vp_cell cA (n, .inl f)) := h
  show H[a]? = some (vp_cell cA (n, .inl g))
  rw [h, vp_cell_i, vp_cell_i]
  unfold arrV
  congr 2
  exact congrArg Array.ofFn (funext fun j => congrArg Value.int (e j.val j.isLt))
section CTR
variable {p : Program} {l : Launch} {e : Env} {R : Room} {s : State} {m : MethodId} {args : Array Value} {below : List Frame} {meth : Method} {c : Code} {H : Heap} {locs : List Loc} {cells slots : Nat} {Q : State → Prop}
variable {cc : ByteArray} {pc : Nat} {ls : Array Slot} {rest : List Value} {D : va_G} {tys : List (ClassId × FieldType)} {H0 : Heap} {h0 k : Nat} {f : Nat → va_E}
theorem c_new (hexec : p.tables.exec = Jvm.exec) (hb : c.code = cc) {own C : String} {T : u_T} {N ci index : Nat} {Ts : List Cond} (hts : ∀ w ∈ Ts, w.before args s = true) (hin : ∀ w ∈ u_ws C T N, w ∈ Ts) (ty : Nat → FieldType) (hty : ∀ k, k < N → parseFieldDescriptor (T k).2.2.1 = some (ty k)) (hown : s.vm.findClass own = some m.cls) (hcl : (Cond.classLink own index C).before args s = true) (hinst : (Cond.instantiable C N).before args s = true) (hini : (Cond.initialized C).before args s = true)
    (hK : va_K D vwCl tys s) (hP : cP D h0 k f H) (hS : va_S (AC h0) H0 H locs) (hc : vwCl[ci]? = some (C, T, N)) {fs : List Value} (hfs : ∀ j, j < N → defaultValue (ty j) = vp_V fs j) (hcells : cells + 1 ≤ R.cells) (hslots : slots + N ≤ R.slots) (hdg : decode cc pc = .ok (.new index, 3))
    (kk : ∀ H1 : Heap, cP D h0 (k+1) (va_up f k (.inr (ci, fs))) H1 → va_S (AC h0) H0 H1 locs → W p l e R s m args below meth c H1 locs (cells + 1) (slots + N) Q (F0 m (pc + 3) ls (.ref (h0 + k) :: rest))) : W p l e R s m args below meth c H locs cells slots Q (F0 m pc ls rest) := by
  have hKn := hK.1 ci _ hc
  have hz := hP.1
  refine W.newcK hexec hb hown hcl hinst hini rfl hdg hcells hslots hKn.2.1 hz fun H1 kC hkC e1 z1 o1 => ?_
  have o2 : ∀ q, q < H.size → H1[q]? = H[q]? := fun q hq => o1 q (by omega)
  exact kk H1 (hP.push (by omega) o2 ⟨_, hc, (u_born ty hts hin hKn hkC e1 hty).to hfs⟩) (cS.push hS (by omega) o2)
theorem c_newi (hexec : p.tables.exec = Jvm.exec) (hb : c.code = cc) {atype : ArrayType} {ty : FieldType} {cA : ClassId} {t0 : Nat} (hty : newarray.typeOf atype = ty) (hd : defaultValue ty = .int 0) (harr : (Cond.arrayClass ty).before args s = true) (hRA : va_RA s cA ty → s.vm.findClass ("[" ++ ty.toString) = some cA) (hK : va_K D vwCl tys s) (ht : tys[t0]? = some (cA, ty)) (hP : cP D h0 k f H) (hS : va_S (AC h0) H0 H locs)
    {n : Int32} {N : Nat} (hn : ¬ n < 0) (hN : n.toNatClampNeg = N) (hbytes : N * componentBytes ty ≤ 536870912) (hcells : cells + 1 ≤ R.cells) (hslots : slots + N ≤ R.slots) (hdg : decode cc pc = .ok (.newarray atype, 2))
    (kk : ∀ H1 : Heap, cP D h0 (k+1) (va_up f k (.inl (cA, N, .inl (fun _ => 0)))) H1 → va_S (AC h0) H0 H1 locs → W p l e R s m args below meth c H1 locs (cells + 1) (slots + N) Q (F0 m (pc + 2) ls (.ref (h0 + k) :: rest))) : W p l e R s m args below meth c H locs cells slots Q (F0 m pc ls (.int n :: rest)) := by
  subst hty
  have hz := hP.1
  refine va_newaK hexec hb harr rfl hdg rfl hn hN hbytes hcells hslots hz fun H1 c2 e1 z1 o1 hAr hNm => ?_
  have hc2 : c2 = cA := Option.some.inj (hNm.symm.trans (hRA (hK.2 t0 _ ht).2))
  subst hc2
  have o2 : ∀ q, q < H.size → H1[q]? = H[q]? := fun q hq => o1 q (by omega)
  refine kk H1 (hP.push (by omega) o2 ?_) (cS.push hS (by omega) o2)
  show H1[h0+k]? = some (vp_cell _ _)
  rw [e1, hd, vp_cell_i]
theorem c_newq (hexec : p.tables.exec = Jvm.exec) (hb : c.code = cc) {own C : String} {index t0 : Nat} {cA : ClassId} (hown : s.vm.findClass own = some m.cls) (hclink : (Cond.classLink own index C).before args s = true) (hover : va_AO C s) (hK : va_K D vwCl tys s) (ht : tys[t0]? = some (cA, .object C)) (hP : cP D h0 k f H) (hS : va_S (AC h0) H0 H locs)
    {n : Int32} {N : Nat} (hn : ¬ n < 0) (hN : n.toNatClampNeg = N) (hbytes : N * 4 ≤ 536870912) (hcells : cells + 1 ≤ R.cells) (hslots : slots + N ≤ R.slots) (hdg : decode cc pc = .ok (.anewarray index, 3))
    (kk : ∀ H1 : Heap, cP D h0 (k+1) (va_up f k (.inl (cA, N, .inr (.inr (.inr (.inr (fun _ => none))))))) H1 → va_S (AC h0) H0 H1 locs → W p l e R s m args below meth c H1 locs (cells + 1) (slots + N) Q (F0 m (pc + 3) ls (.ref (h0 + k) :: rest))) : W p l e R s m args below meth c H locs cells slots Q (F0 m pc ls (.int n :: rest)) := by
  subst hN
  have hz := hP.1
  refine W.anew hexec hb hown hclink (va_AO.use hover) rfl hdg rfl hn hbytes hcells hslots fun c2 kA comp f1 f2 f3 f4 => ?_
  obtain ⟨kA2, comp2, r1, r2, r3, r4⟩ := (hK.2 t0 _ ht).2
  have hc2 : c2 = cA := Option.some.inj (f1.symm.trans r4)
  subst hc2
  generalize hH1 : H.push ({ cls := c2, slots := Array.replicate n.toNatClampNeg .null, vm := .none } : Cell) = H1
  have z1 : H1.size = H.size + 1 := by rw [← hH1, Array.size_push]
  have e1 : H1[H.size]? = some (arrV c2 n.toNatClampNeg (fun _ => .null)) := by rw [← hH1, Array.getElem?_push_size, ← arrV_new]
  have o2 : ∀ q : Nat, q < H.size → H1[q]? = H[q]? := fun q hq => by rw [← hH1, Array.getElem?_push, if_neg (Nat.ne_of_lt hq)]
  have k9 := kk H1 (hP.push z1 o2 (by
    show H1[h0+k]? = some (vp_cell _ _)
    rw [← hz, e1, vp_cell_q]
    rfl)) (cS.push hS z1 o2)
  rw [← hz] at k9
  exact k9
theorem c_put (hexec : p.tables.exec = Jvm.exec) (hb : c.code = cc) {own ref C : String} {T : u_T} {N ci index : Nat} {Ts : List Cond} (hts : ∀ w ∈ Ts, w.before args s = true) (hin : ∀ w ∈ u_ws C T N, w ∈ Ts) (ty0 : Nat → FieldType) (hty : ∀ k, k < N → parseFieldDescriptor (T k).2.2.1 = some (ty0 k)) (hnm : ∀ a, a < N → ∀ b, b < N → a ≠ b → (T a).2.1 ≠ (T b).2.1) (hown : s.vm.findClass own = some m.cls) (hK : va_K D vwCl tys s) (hP : cP D h0 k f H) (hS0 : va_S (AC h0) H0 H locs) (t0 : Nat) (ht0 : t0 < k) {a : Nat} (ha : h0 + t0 = a) {fs : List Value} (he : f t0 = .inr (ci, fs)) (hc : vwCl[ci]? = some (C, T, N)) (j : Nat) (hj : j < N) (hlink : (Cond.fieldLink own index ref (T j).2.1 (T j).2.2.1).before args s = true) (hsame : ∀ x, s.fieldFound? (T j).1 (T j).2.1 (T j).2.2.1 = some x → s.fieldFound? ref (T j).2.1 (T j).2.2.1 = some x) (hfin : (T j).2.2.2 = false) {ty : FieldType} {v : Value} (hd : parseFieldDescriptor (T j).2.2.1 = some ty) (hn : narrow ty v = v) (hfit : fits ty v = true) (hl : j < fs.length)
    (hdg : decode cc pc = .ok (.putfield index, 3)) (kk : ∀ (H1 : Heap) (locs1 : List Loc), cP D h0 k (va_up f t0 (.inr (ci, fs.set j v))) H1 → va_S (AC h0) H0 H1 locs1 → W p l e R s m args below meth c H1 locs1 cells slots Q (F0 m (pc + 3) ls rest)) : W p l e R s m args below meth c H locs cells slots Q (F0 m pc ls (v :: .ref a :: rest)) := by
  subst ha
  have hap := va_apart (own := own) hts hin ty0 hty hnm hK hc
  have hat := hP.2 t0 ht0
  rw [he] at hat
  obtain ⟨r, h1, cell, q1, q2, q3, q4⟩ := hat
  have hr : r = (C, T, N) := Option.some.inj (h1.symm.trans hc)
  subst hr
  obtain ⟨hS, hfc, kC, hkC, hkind⟩ := hK.1 ci _ hc
  obtain ⟨cf, kf, fi, fd, hi, hsl⟩ := hS j hj
  have hlay := hts _ (hin _ (u_in_lay hj))
  unfold u_lay at hlay
  rw [if_neg (by rw [hfin]; decide)] at hlay
  have hst := (u_facts hfc hkC (u_lays hts hin hj) hi).1
  have h6 := u_store hfc hkC hkind hlay hi hd hn hfit
  refine W.putK hexec hb (f := fd) ⟨hown, hlink, ⟨_, _, _, hsame _ hi⟩, hst⟩ (by rw [q2]; exact h6) q1 q3 (by rw [hsl]; exact k2_hasslot (q4 j hj)) rfl rfl hdg fun H' e1 e2 e3 => ?_
  rw [hsl] at e1 ⊢
  exact kk H' _ (hP.set e2 e3 ⟨_, hc, t_OB.to (V := updV (vp_V fs) j v) ⟨_, e1, q2, q3, t_set q4 hap hj v⟩ (fun i _ => vp_updV_set hl v i)⟩) (hS0.put e2 e3 (by show h0 ≤ h0 + t0; omega))
theorem c_putF (hexec : p.tables.exec = Jvm.exec) (hb : c.code = cc) {own ref C : String} {T : u_T} {N ci index : Nat} {Ts : List Cond} (hts : ∀ w ∈ Ts, w.before args s = true) (hin : ∀ w ∈ u_ws C T N, w ∈ Ts) (ty0 : Nat → FieldType) (hty : ∀ k, k < N → parseFieldDescriptor (T k).2.2.1 = some (ty0 k)) (hnm : ∀ a, a < N → ∀ b, b < N → a ≠ b → (T a).2.1 ≠ (T b).2.1) (hown : s.vm.findClass own = some m.cls) (hK : va_K D vwCl tys s) (hP : cP D h0 k f H) (hS0 : va_S (AC h0) H0 H locs) (t0 : Nat) (ht0 : t0 < k) {a : Nat} (ha : h0 + t0 = a) {fs : List Value} (he : f t0 = .inr (ci, fs)) (hc : vwCl[ci]? = some (C, T, N)) (j : Nat) (hj : j < N) (hlink : (Cond.fieldLink own index ref (T j).2.1 (T j).2.2.1).before args s = true) (hsame : ∀ x, s.fieldFound? (T j).1 (T j).2.1 (T j).2.2.1 = some x → s.fieldFound? ref (T j).2.1 (T j).2.2.1 = some x) (hfin : (T j).2.2.2 = true) (hin2 : meth.name = "<init>") (hdecl : (T j).1 = own) {ty : FieldType} {v : Value} (hd : parseFieldDescriptor (T j).2.2.1 = some ty) (hn : narrow ty v = v) (hfit : fits ty v = true) (hl : j < fs.length)
    (hdg : decode cc pc = .ok (.putfield index, 3)) (kk : ∀ (H1 : Heap) (locs1 : List Loc), cP D h0 k (va_up f t0 (.inr (ci, fs.set j v))) H1 → va_S (AC h0) H0 H1 locs1 → W p l e R s m args below meth c H1 locs1 cells slots Q (F0 m (pc + 3) ls rest)) : W p l e R s m args below meth c H locs cells slots Q (F0 m pc ls (v :: .ref a :: rest)) := by
  subst ha
  have hap := va_apart (own := own) hts hin ty0 hty hnm hK hc
  have hat := hP.2 t0 ht0
  rw [he] at hat
  obtain ⟨r, h1, cell, q1, q2, q3, q4⟩ := hat
  have hr : r = (C, T, N) := Option.some.inj (h1.symm.trans hc)
  subst hr
  obtain ⟨hS, hfc, kC, hkC, hkind⟩ := hK.1 ci _ hc
  obtain ⟨cf, kf, fi, fd, hi, hsl⟩ := hS j hj
  have hlay := hts _ (hin _ (u_in_lay hj))
  unfold u_lay at hlay
  rw [if_pos hfin] at hlay
  have hst := (u_facts hfc hkC (u_lays hts hin hj) hi).1
  have hcf : m.cls = cf := by
    obtain ⟨_, _, c', _, _, _, -, -, hf', -, -, -, hown2, -⟩ := Cond.laysFinal_spec hlay
    have e1 : c' = cf := by have := hi.symm.trans hf'; simp at this; exact this.1.symm
    rw [hdecl] at hown2
    rw [← e1]; exact Option.some.inj (hown.symm.trans hown2)
  have h6 := u_fits hfc hkC hkind (Or.inr hlay) hi hd hn hfit
  refine W.putFinK hexec hb hown hlink (hsame _ hi) hst hcf hin2 (by rw [q2]; exact h6) q1 q3 (by rw [hsl]; exact k2_hasslot (q4 j hj)) rfl rfl hdg fun H' e1 e2 e3 => ?_
  rw [hsl] at e1 ⊢
  exact kk H' _ (hP.set e2 e3 ⟨_, hc, t_OB.to (V := updV (vp_V fs) j v) ⟨_, e1, q2, q3, t_set q4 hap hj v⟩ (fun i _ => vp_updV_set hl v i)⟩) (hS0.put e2 e3 (by show h0 ≤ h0 + t0; omega))
theorem c_astq (hexec : p.tables.exec = Jvm.exec) (hb : c.code = cc) (hK : va_K D vwCl tys s) (hP : cP D h0 k f H) (hS : va_S (AC h0) H0 H locs) (q0 t0 qk ci : Nat) (hq0 : q0 < k) (hqk : qk < k) {a v : Nat} (ea : h0 + q0 = a) (ev : h0 + qk = v) {cA : ClassId} {r : vw_C} {n : Nat} {vs : List Value} {g : Nat → Option Nat} (ha : f q0 = .inl (cA, n, .inr (.inr (.inr (.inr g))))) (ht : tys[t0]? = some (cA, .object r.1)) (hv : f qk = .inr (ci, vs)) (hc : vwCl[ci]? = some r) {i : Int32} (hin : vp_in i n) (hdg : decode cc pc = .ok (.aastore, 1))
    (kk : ∀ (H1 : Heap) (locs1 : List Loc), cP D h0 k (va_up f q0 (.inl (cA, n, .inr (.inr (.inr (.inr (va_up g i.toNatClampNeg (some v)))))))) H1 → va_S (AC h0) H0 H1 locs1 → W p l e R s m args below meth c H1 locs1 cells slots Q (F0 m (pc + 1) ls rest)) : W p l e R s m args below meth c H locs cells slots Q (F0 m pc ls (.ref v :: .int i :: .ref a :: rest)) := by
  subst ea ev
  have hlt : i.toNatClampNeg < n := Nat.not_le.mp fun q => hin (Or.inr q)
  have hz0 : ¬ i < 0 := fun q => hin (Or.inl q)
  have hat := hP.2 q0 hq0
  rw [ha] at hat
  have hav := hP.2 qk hqk
  rw [hv] at hav
  obtain ⟨r', hr', cellV, g1, g2, g3, -⟩ := hav
  have hcls := (hK.1 ci r hc).2
  obtain ⟨kA, comp, k1, k2, k3, -⟩ := (hK.2 t0 _ ht).2
  have hcomp : comp = D.1 ci := Option.some.inj (k3.symm.trans hcls.1)
  subst hcomp
  obtain ⟨kC, hkC, -⟩ := hcls.2
  refine W.aast hexec hb hat (fun q h => by cases h) (fun h => by cases h) k1 k2 rfl hkC ⟨hz0, by show _ < (arrV _ _ _).slots.size; rw [arrV_size]; exact hlt⟩ g1 (fun q h => by rw [g3] at h; cases h) (by rw [g2]; exact hkC) (by rw [g2]; exact va_assign hcls) rfl rfl hdg fun H1 e z oq => ?_
  refine kk H1 _ (hP.set z oq ?_) (hS.put z oq (by show h0 ≤ h0 + q0; omega))
  show H1[h0+q0]? = some (vp_cell _ _)
  rw [e]
  rw [vp_cell_q, vp_cell_q, arrV_store]
  congr 2
  funext q
  by_cases hq : q = i.toNatClampNeg
  · subst hq
    simp [updV, va_up, va_rf]
  · simp [updV, va_up, hq]
theorem c_iast (hexec : p.tables.exec = Jvm.exec) (hb : c.code = cc) (hK : va_K D vwCl tys s) (hP : cP D h0 k f H) (hS : va_S (AC h0) H0 H locs) (q0 t0 : Nat) (hq0 : q0 < k) {a : Nat} (ea : h0 + q0 = a) {cA : ClassId} {n : Nat} {g : Nat → Int32} (ha : f q0 = .inl (cA, n, .inl g)) (ht : tys[t0]? = some (cA, .int)) {i : Int32} {x : Int32} (hin : vp_in i n) (hdg : decode cc pc = .ok (.iastore, 1))
    (kk : ∀ (H1 : Heap) (locs1 : List Loc), cP D h0 k (va_up f q0 (.inl (cA, n, .inl (upd g i.toNatClampNeg x)))) H1 → va_S (AC h0) H0 H1 locs1 → W p l e R s m args below meth c H1 locs1 cells slots Q (F0 m (pc + 1) ls rest)) : W p l e R s m args below meth c H locs cells slots Q (F0 m pc ls (.int x :: .int i :: .ref a :: rest)) := by
  subst ea
  have hat := hP.2 q0 hq0
  rw [ha] at hat
  refine W.iast hexec hb hat ((hK.2 t0 _ ht).1 n (fun j => .int (g j))) (fun q => by cases q) (by show ¬ (i < 0 ∨ (arrV _ _ _).slots.size ≤ _); rw [arrV_size]; exact hin) rfl rfl hdg fun H1 e z oq => ?_
  refine kk H1 _ (hP.set z oq ?_) (hS.put z oq (by show h0 ≤ h0 + q0; omega))
  show H1[h0+q0]? = some (vp_cell _ _)
  rw [e]
  rw [vp_cell_i, vp_cell_i, arrV_store]
  congr 2
  funext q
  by_cases hq : q = i.toNatClampNeg
  · subst hq
    simp [updV, upd]
  · simp [updV, upd, hq]
end CTR
