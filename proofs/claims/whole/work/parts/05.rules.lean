/-! RULES over the pool: reading and writing its cells, calls -/
def okW (u : Nat → Int32) : Prop := 0 ≤ (u 464).toInt ∧ (u 464).toInt ≤ 4 ∧ 0 ≤ (u 465).toInt ∧ (u 465).toInt ≤ 4
def NW (U : State) : Prop := va_Nw (.methodLinkNest RX4 21 yX6_isTile RX6) U ∧ va_Nw (.methodLinkNest RX4 49 yX6_isSlope RX6) U ∧ va_Nw (.methodLinkNest RX4 30 yX6_isFirm RX6) U ∧ va_Nw (.methodLinkNest RX0 71 yX6_isWithin RX6) U ∧ va_Nw (.methodLinkNest RX2 38 yX6_isWithin RX6) U
theorem NW.warm {s U : State} (hW : s.WarmedH U.vm) (h : NW s) : NW U := ⟨va_Nw.warmM hW h.1, va_Nw.warmM hW h.2.1, va_Nw.warmM hW h.2.2.1, va_Nw.warmM hW h.2.2.2.1, va_Nw.warmM hW h.2.2.2.2⟩
theorem NW.same {s U : State} (hW : s.vm = U.vm) (h : NW s) : NW U := ⟨va_Nw.same rfl hW h.1, va_Nw.same rfl hW h.2.1, va_Nw.same rfl hW h.2.2.1, va_Nw.same rfl hW h.2.2.2.1, va_Nw.same rfl hW h.2.2.2.2⟩
/-- what holds at a method's entry -/
def Hp (D : va_G) (G : CY) (ad : Nat → Nat) (σ : Nat → Nat → Int32) (U : State) : Prop := va_P D vwCl (pool G ad σ) U.heap ∧ va_K D vwCl (tysG G) U ∧ NW U
/-- what holds behind it -/
def Ho (D : va_G) (G : CY) (ad : Nat → Nat) (σ : Nat → Nat → Int32) (U : State) : Prop := va_P D vwCl (pool G ad σ) U.heap
abbrev AA (B0 : Nat) : Nat → Prop := fun q => B0 ≤ q
theorem hp_blind {D : va_G} {G : CY} {ad : Nat → Nat} {σ : Nat → Nat → Int32} {av : List Value} : FrameBlind (va_Pc av (Hp D G ad σ)) := fun a U g mk q => by
  obtain ⟨q0, qP, qK, qN⟩ := q
  exact ⟨q0, qP, va_K.moved (u := U) (U := U.calling g mk a) (Vm.Alike.refl U.vm) qK, NW.same (s := U) (U := U.calling g mk a) rfl qN⟩
theorem hp_pre {D : va_G} {G : CY} {ad : Nat → Nat} {σ : Nat → Nat → Int32} {av : List Value} {s : State} {H : Heap} (hK : va_K D vwCl (tysG G) s) (hN : NW s) (hP : va_P D vwCl (pool G ad σ) H) : ∀ U : State, U.heap = H → s.WarmedH U.vm → va_Pc av (Hp D G ad σ) av.toArray U := fun U hU hW => ⟨rfl, by rw [hU]; exact hP, va_K.moved hW.alike hK, NW.warm hW hN⟩
def bnd {α β : Type} (x : α) (k : α → β) : β := k x
def bnd2 {α γ β : Type} (x : α × γ) (k : α → γ → β) : β := k x.1 x.2
theorem bnd_s {α β : Type} {x p : α} {k : α → β} {F : β} (hp : p = x) (hF : bnd x k = F) : k p = F := by subst hp; exact hF
theorem bnd2_s {α γ β : Type} {x : α × γ} {r : α} {u : γ} {k : α → γ → β} {F : β} (hp : (r, u) = x) (hF : bnd2 x k = F) : k r u = F := by subst hp; exact hF
theorem ift {α : Type} {c : Prop} {i : Decidable c} {a b F : α} (h : c) (hF : @ite α c i a b = F) : a = F := (if_pos h).symm.trans hF
theorem iff_ {α : Type} {c : Prop} {i : Decidable c} {a b F : α} (h : ¬ c) (hF : @ite α c i a b = F) : b = F := (if_neg h).symm.trans hF
def BIG : Nat := 4294967296 + 8
def bl (x : Int32) : Prop := x = 0 ∨ x = 1
theorem bl0 : bl 0 := Or.inl rfl
theorem bl1 : bl 1 := Or.inr rfl
theorem bl_nar {x : Int32} (h : bl x) : narrow .boolean (.int x) = .int x := by rcases h with rfl | rfl <;> rfl
theorem bl_fit {x : Int32} (h : bl x) : fits .boolean (.int x) = true := by rcases h with rfl | rfl <;> rfl
theorem bl_nb {x : Int32} (h : bl x) : nb x = x := by rcases h with rfl | rfl <;> rfl
theorem nb_bl (x : Int32) : bl (nb x) := by
  have h : ∀ b : BitVec 32, b &&& 1#32 = 0#32 ∨ b &&& 1#32 = 1#32 := fun b => by
    by_cases hb : b.getLsbD 0 = true
    · right
      refine BitVec.eq_of_getLsbD_eq (fun i hi => ?_)
      rw [BitVec.getLsbD_and]
      by_cases h0 : i = 0
      · subst h0; simp [hb]
      · simp [h0]
    · left
      have hb2 : b.getLsbD 0 = false := by
        cases h9 : b.getLsbD 0
        · rfl
        · exact absurd h9 hb
      refine BitVec.eq_of_getLsbD_eq (fun i hi => ?_)
      rw [BitVec.getLsbD_and]
      by_cases h0 : i = 0
      · subst h0; rw [hb2]; rfl
      · simp [h0]
  rcases h x.toBitVec with h1 | h1
  · exact Or.inl (Int32.toBitVec_inj.mp h1)
  · exact Or.inr (Int32.toBitVec_inj.mp h1)
theorem okW_up {u u1 : Nat → Int32} {t : Nat} {x : Int32} (e : u1 = va_up u t x) (h : okW u) (h1 : t ≠ 464) (h2 : t ≠ 465) : okW u1 := by
  subst e
  unfold okW
  rw [va_up_ne _ _ (Ne.symm h1), va_up_ne _ _ (Ne.symm h2)]
  exact h
theorem in4 {i n : Int32} (h0 : 0 ≤ i) (h : i < n) (hn : n.toInt ≤ 4) : vp_in i 4 := vp_in_iff.mpr ⟨by rw [Int32.le_iff_toInt_le] at h0; exact h0, by rw [Int32.lt_iff_toInt_lt] at h; omega⟩
theorem in_lt {i : Int32} {n : Nat} (h : vp_in i n) : i.toNatClampNeg < n := by
  unfold vp_in at h
  omega
theorem in_nat {k n : Nat} {i : Int32} (h : vp_in i n) (hk : i.toNatClampNeg = k) : k < n := hk ▸ in_lt h

theorem c_o {G : CY} {ad : Nat → Nat} {σ : Nat → Nat → Int32} {u : Nat → Int32} {w : Nat} (hw : w < 15) : (pool G ad (va_up σ w u))[18*w+0]? = some (ad (18*w+0), ocel ad (18*w) u) := pool_atE (by omega) (cel_f hw (by omega))
theorem c_t {G : CY} {ad : Nat → Nat} {σ : Nat → Nat → Int32} {u : Nat → Int32} {w : Nat} (hw : w < 15) : (pool G ad (va_up σ w u))[18*w+1]? = some (ad (18*w+1), .inr (6, [.ref (ad (18*w+2))])) := pool_atE (by omega) (cel_f hw (by omega))
theorem c_k {G : CY} {ad : Nat → Nat} {σ : Nat → Nat → Int32} {u : Nat → Int32} {w : Nat} (hw : w < 15) : (pool G ad (va_up σ w u))[18*w+2]? = some (ad (18*w+2), kcel G u) := pool_atE (by omega) (cel_f hw (by omega))
theorem c_bs {G : CY} {ad : Nat → Nat} {σ : Nat → Nat → Int32} {w : Nat} (hw : w < 15) : (pool G ad σ)[18*w+3]? = some (ad (18*w+3), qcel G.2.2.1 4 (fun i => ad (18*w+(6+2*i)))) := pool_atE (by omega) (cel_w hw (by omega))
theorem c_ps {G : CY} {ad : Nat → Nat} {σ : Nat → Nat → Int32} {w : Nat} (hw : w < 15) : (pool G ad σ)[18*w+4]? = some (ad (18*w+4), qcel G.2.2.2.1 4 (fun i => ad (18*w+(14+i)))) := pool_atE (by omega) (cel_w hw (by omega))
theorem c_a {G : CY} {ad : Nat → Nat} {σ : Nat → Nat → Int32} {u : Nat → Int32} {w : Nat} (hw : w < 15) : (pool G ad (va_up σ w u))[18*w+5]? = some (ad (18*w+5), acel G u) := pool_atE (by omega) (cel_f hw (by omega))
theorem c_b {G : CY} {ad : Nat → Nat} {σ : Nat → Nat → Int32} {u : Nat → Int32} {w i : Nat} (hw : w < 15) (hi : i < 4) : (pool G ad (va_up σ w u))[18*w+(6+2*i)]? = some (ad (18*w+(6+2*i)), bcel ad (18*w) u i) := pool_atE (by omega) ((cel_f hw (by omega)).trans (wcel_b hi))
theorem c_s {G : CY} {ad : Nat → Nat} {σ : Nat → Nat → Int32} {u : Nat → Int32} {w i : Nat} (hw : w < 15) (hi : i < 4) : (pool G ad (va_up σ w u))[18*w+(7+2*i)]? = some (ad (18*w+(7+2*i)), scel G u i) := pool_atE (by omega) ((cel_f hw (by omega)).trans (wcel_s hi))
theorem c_p {G : CY} {ad : Nat → Nat} {σ : Nat → Nat → Int32} {u : Nat → Int32} {w i : Nat} (hw : w < 15) (hi : i < 4) : (pool G ad (va_up σ w u))[18*w+(14+i)]? = some (ad (18*w+(14+i)), pcel u i) := pool_atE (by omega) ((cel_f hw (by omega)).trans wcel_p)
/-- a place of another row is read as it stands -/
theorem f_eta {D : va_G} {G : CY} {ad : Nat → Nat} {σ : Nat → Nat → Int32} {H : Heap} (w : Nat) (hP : va_P D vwCl (pool G ad σ) H) : va_P D vwCl (pool G ad (va_up σ w (σ w))) H := by rw [up_eta]; exact hP

theorem pput {p : Program} {l : Launch} {e : Env} {R : Room} {s : State} {m : MethodId} {args : Array Value} {below : List Frame} {meth : Method} {c : Code} {H : Heap} {locs : List Loc} {cells slots : Nat} {Q : State → Prop} {cc : ByteArray} {pc : Nat} {ls : Array Slot} {rest : List Value} {H0 : Heap} {D : va_G} {G : CY} {ad : Nat → Nat} {σ : Nat → Nat → Int32} {u : Nat → Int32} {B0 : Nat} (hx : p.tables.exec = Jvm.exec) (hb : c.code = cc) {own9 ref C : String} {T : u_T} {N ci index : Nat} {Ts : List Cond} (hts : ∀ w ∈ Ts, w.before args s = true) (hin : ∀ w ∈ u_ws C T N, w ∈ Ts) (ty0 : Nat → FieldType) (hty : ∀ k, k < N → parseFieldDescriptor (T k).2.2.1 = some (ty0 k)) (hnm : ∀ a, a < N → ∀ b, b < N → a ≠ b → (T a).2.1 ≠ (T b).2.1) (hown : s.vm.findClass own9 = some m.cls) (hK : va_K D vwCl (tysG G) s) {w j : Nat} (hP : va_P D vwCl (pool G ad (va_up σ w u)) H) (hA : adOK B0 ad) (hS : va_S (AA B0) H0 H locs) (hw : w < 15) (hj : j < 18) {fs : List Value} (hcel : wcel G ad (18*w) u j = .inr (ci, fs)) (hc : vwCl[ci]? = some (C, T, N)) (k : Nat) (hk : k < N) (hlink : (Cond.fieldLink own9 index ref (T k).2.1 (T k).2.2.1).before args s = true) (hsame : ∀ x, s.fieldFound? (T k).1 (T k).2.1 (T k).2.2.1 = some x → s.fieldFound? ref (T k).2.1 (T k).2.2.1 = some x) (hfin : (T k).2.2.2 = false) {ty : FieldType} {x : Int32} (hd : parseFieldDescriptor (T k).2.2.1 = some ty) (hn : narrow ty (.int x) = .int x) (hfit : fits ty (.int x) = true) (hl : k < fs.length) (t : Nat) (ht : own t = j) (hnew : wcel G ad (18*w) (va_up u t x) j = .inr (ci, fs.set k (.int x))) (hdg : decode cc pc = .ok (.putfield index, 3))
    (kk : ∀ (u1 : Nat → Int32) (H1 : Heap) (locs1 : List Loc), u1 = va_up u t x → va_P D vwCl (pool G ad (va_up σ w u1)) H1 → va_S (AA B0) H0 H1 locs1 → W p l e R s m args below meth c H1 locs1 cells slots Q (F0 m (pc + 3) ls rest)) : W p l e R s m args below meth c H locs cells slots Q (F0 m pc ls (.int x :: .ref (ad (18*w+j)) :: rest)) :=
  va_put hx hb hts hin ty0 hty hnm hown hK hP (pool_D hA) hS (18*w+j) (pool_atE (by omega) ((cel_f hw hj).trans hcel)) hc k hk hlink hsame hfin hd hn hfit hl hdg (fun H1 locs1 hP1 _ hS1 => kk _ H1 locs1 rfl (by rw [pool_setw hw hj rfl ht hnew] at hP1; exact hP1) hS1)
theorem pput15 {p : Program} {l : Launch} {e : Env} {R : Room} {s : State} {m : MethodId} {args : Array Value} {below : List Frame} {meth : Method} {c : Code} {H : Heap} {locs : List Loc} {cells slots : Nat} {Q : State → Prop} {cc : ByteArray} {pc : Nat} {ls : Array Slot} {rest : List Value} {H0 : Heap} {D : va_G} {G : CY} {ad : Nat → Nat} {σ : Nat → Nat → Int32} {u : Nat → Int32} {B0 : Nat} (hx : p.tables.exec = Jvm.exec) (hb : c.code = cc) {own9 ref C : String} {T : u_T} {N ci index : Nat} {Ts : List Cond} (hts : ∀ w ∈ Ts, w.before args s = true) (hin : ∀ w ∈ u_ws C T N, w ∈ Ts) (ty0 : Nat → FieldType) (hty : ∀ k, k < N → parseFieldDescriptor (T k).2.2.1 = some (ty0 k)) (hnm : ∀ a, a < N → ∀ b, b < N → a ≠ b → (T a).2.1 ≠ (T b).2.1) (hown : s.vm.findClass own9 = some m.cls) (hK : va_K D vwCl (tysG G) s) {j : Nat} (hP : va_P D vwCl (pool G ad (va_up σ 15 u)) H) (hA : adOK B0 ad) (hS : va_S (AA B0) H0 H locs) (h0 : 270 ≤ j) (hj : j < 290) {fs : List Value} (hcel : ccel G ad u (σ 16) j = .inr (ci, fs)) (hc : vwCl[ci]? = some (C, T, N)) (k : Nat) (hk : k < N) (hlink : (Cond.fieldLink own9 index ref (T k).2.1 (T k).2.2.1).before args s = true) (hsame : ∀ x, s.fieldFound? (T k).1 (T k).2.1 (T k).2.2.1 = some x → s.fieldFound? ref (T k).2.1 (T k).2.2.1 = some x) (hfin : (T k).2.2.2 = false) {ty : FieldType} {x : Int32} (hd : parseFieldDescriptor (T k).2.2.1 = some ty) (hn : narrow ty (.int x) = .int x) (hfit : fits ty (.int x) = true) (hl : k < fs.length) (t : Nat) (ht : own15 t = j) (hnew : ccel G ad (va_up u t x) (σ 16) j = .inr (ci, fs.set k (.int x))) (hdg : decode cc pc = .ok (.putfield index, 3))
    (kk : ∀ (u1 : Nat → Int32) (H1 : Heap) (locs1 : List Loc), u1 = va_up u t x → va_P D vwCl (pool G ad (va_up σ 15 u1)) H1 → va_S (AA B0) H0 H1 locs1 → W p l e R s m args below meth c H1 locs1 cells slots Q (F0 m (pc + 3) ls rest)) : W p l e R s m args below meth c H locs cells slots Q (F0 m pc ls (.int x :: .ref (ad j) :: rest)) :=
  va_put hx hb hts hin ty0 hty hnm hown hK hP (pool_D hA) hS j (pool_atE hj ((cel_c h0).trans (by rw [va_up_self, va_up_ne _ _ (by decide : ¬ 16 = 15)]; exact hcel))) hc k hk hlink hsame hfin hd hn hfit hl hdg (fun H1 locs1 hP1 _ hS1 => kk _ H1 locs1 rfl (by rw [pool_set15 h0 hj rfl ht hnew] at hP1; exact hP1) hS1)
theorem pput16 {p : Program} {l : Launch} {e : Env} {R : Room} {s : State} {m : MethodId} {args : Array Value} {below : List Frame} {meth : Method} {c : Code} {H : Heap} {locs : List Loc} {cells slots : Nat} {Q : State → Prop} {cc : ByteArray} {pc : Nat} {ls : Array Slot} {rest : List Value} {H0 : Heap} {D : va_G} {G : CY} {ad : Nat → Nat} {σ : Nat → Nat → Int32} {u : Nat → Int32} {B0 : Nat} (hx : p.tables.exec = Jvm.exec) (hb : c.code = cc) {own9 ref C : String} {T : u_T} {N ci index : Nat} {Ts : List Cond} (hts : ∀ w ∈ Ts, w.before args s = true) (hin : ∀ w ∈ u_ws C T N, w ∈ Ts) (ty0 : Nat → FieldType) (hty : ∀ k, k < N → parseFieldDescriptor (T k).2.2.1 = some (ty0 k)) (hnm : ∀ a, a < N → ∀ b, b < N → a ≠ b → (T a).2.1 ≠ (T b).2.1) (hown : s.vm.findClass own9 = some m.cls) (hK : va_K D vwCl (tysG G) s) {j : Nat} (hP : va_P D vwCl (pool G ad (va_up σ 16 u)) H) (hA : adOK B0 ad) (hS : va_S (AA B0) H0 H locs) (h0 : 270 ≤ j) (hj : j < 290) {fs : List Value} (hcel : ccel G ad (σ 15) u j = .inr (ci, fs)) (hc : vwCl[ci]? = some (C, T, N)) (k : Nat) (hk : k < N) (hlink : (Cond.fieldLink own9 index ref (T k).2.1 (T k).2.2.1).before args s = true) (hsame : ∀ x, s.fieldFound? (T k).1 (T k).2.1 (T k).2.2.1 = some x → s.fieldFound? ref (T k).2.1 (T k).2.2.1 = some x) (hfin : (T k).2.2.2 = false) {ty : FieldType} {x : Int32} (hd : parseFieldDescriptor (T k).2.2.1 = some ty) (hn : narrow ty (.int x) = .int x) (hfit : fits ty (.int x) = true) (hl : k < fs.length) (t : Nat) (ht : own16 t = j) (hnew : ccel G ad (σ 15) (va_up u t x) j = .inr (ci, fs.set k (.int x))) (hdg : decode cc pc = .ok (.putfield index, 3))
    (kk : ∀ (u1 : Nat → Int32) (H1 : Heap) (locs1 : List Loc), u1 = va_up u t x → va_P D vwCl (pool G ad (va_up σ 16 u1)) H1 → va_S (AA B0) H0 H1 locs1 → W p l e R s m args below meth c H1 locs1 cells slots Q (F0 m (pc + 3) ls rest)) : W p l e R s m args below meth c H locs cells slots Q (F0 m pc ls (.int x :: .ref (ad j) :: rest)) :=
  va_put hx hb hts hin ty0 hty hnm hown hK hP (pool_D hA) hS j (pool_atE hj ((cel_c h0).trans (by rw [va_up_self, va_up_ne _ _ (by decide : ¬ 15 = 16)]; exact hcel))) hc k hk hlink hsame hfin hd hn hfit hl hdg (fun H1 locs1 hP1 _ hS1 => kk _ H1 locs1 rfl (by rw [pool_set16 h0 hj rfl ht hnew] at hP1; exact hP1) hS1)
theorem pcst15 {p : Program} {l : Launch} {e : Env} {R : Room} {s : State} {m : MethodId} {args : Array Value} {below : List Frame} {meth : Method} {c : Code} {H : Heap} {locs : List Loc} {cells slots : Nat} {Q : State → Prop} {cc : ByteArray} {pc : Nat} {ls : Array Slot} {rest : List Value} {H0 : Heap} {D : va_G} {G : CY} {ad : Nat → Nat} {σ : Nat → Nat → Int32} {u : Nat → Int32} {B0 : Nat} (hx : p.tables.exec = Jvm.exec) (hb : c.code = cc) (hK : va_K D vwCl (tysG G) s) {n o j : Nat} (hP : va_P D vwCl (pool G ad (va_up σ 15 u)) H) (hA : adOK B0 ad) (hS : va_S (AA B0) H0 H locs) (h0 : 270 ≤ j) (hj : j < 290) (hcel : ∀ v z : Nat → Int32, ccel G ad v z j = hcel G n o v) (hown : ∀ k, k < n → own15 (o + k) = j) {i x : Int32} {t : Nat} (hin : vp_in i n) (ht9 : o + i.toNatClampNeg = t) (hdg : decode cc pc = .ok (.castore, 1))
    (kk : ∀ (u1 : Nat → Int32) (H1 : Heap) (locs1 : List Loc), u1 = va_up u t (vp_nar .char x) → va_P D vwCl (pool G ad (va_up σ 15 u1)) H1 → va_S (AA B0) H0 H1 locs1 → W p l e R s m args below meth c H1 locs1 cells slots Q (F0 m (pc + 1) ls rest)) : W p l e R s m args below meth c H locs cells slots Q (F0 m pc ls (.int x :: .int i :: .ref (ad j) :: rest)) :=
  va_cast hx hb hK hP (pool_D hA) hS j 0 (pool_atE hj ((cel_c h0).trans (by rw [va_up_self]; exact hcel u _))) rfl hin hdg (fun H1 locs1 hP1 _ hS1 => kk _ H1 locs1 rfl (by rw [tr_upd (in_lt hin), ht9, pool_set15 h0 hj rfl (ht9 ▸ hown _ (in_lt hin)) (hcel _ _)] at hP1; exact hP1) hS1)
theorem pcst16 {p : Program} {l : Launch} {e : Env} {R : Room} {s : State} {m : MethodId} {args : Array Value} {below : List Frame} {meth : Method} {c : Code} {H : Heap} {locs : List Loc} {cells slots : Nat} {Q : State → Prop} {cc : ByteArray} {pc : Nat} {ls : Array Slot} {rest : List Value} {H0 : Heap} {D : va_G} {G : CY} {ad : Nat → Nat} {σ : Nat → Nat → Int32} {u : Nat → Int32} {B0 : Nat} (hx : p.tables.exec = Jvm.exec) (hb : c.code = cc) (hK : va_K D vwCl (tysG G) s) {n o j : Nat} (hP : va_P D vwCl (pool G ad (va_up σ 16 u)) H) (hA : adOK B0 ad) (hS : va_S (AA B0) H0 H locs) (h0 : 270 ≤ j) (hj : j < 290) (hcel : ∀ v z : Nat → Int32, ccel G ad z v j = hcel G n o v) (hown : ∀ k, k < n → own16 (o + k) = j) {i x : Int32} {t : Nat} (hin : vp_in i n) (ht9 : o + i.toNatClampNeg = t) (hdg : decode cc pc = .ok (.castore, 1))
    (kk : ∀ (u1 : Nat → Int32) (H1 : Heap) (locs1 : List Loc), u1 = va_up u t (vp_nar .char x) → va_P D vwCl (pool G ad (va_up σ 16 u1)) H1 → va_S (AA B0) H0 H1 locs1 → W p l e R s m args below meth c H1 locs1 cells slots Q (F0 m (pc + 1) ls rest)) : W p l e R s m args below meth c H locs cells slots Q (F0 m pc ls (.int x :: .int i :: .ref (ad j) :: rest)) :=
  va_cast hx hb hK hP (pool_D hA) hS j 0 (pool_atE hj ((cel_c h0).trans (by rw [va_up_self]; exact hcel u _))) rfl hin hdg (fun H1 locs1 hP1 _ hS1 => kk _ H1 locs1 rfl (by rw [tr_upd (in_lt hin), ht9, pool_set16 h0 hj rfl (ht9 ▸ hown _ (in_lt hin)) (hcel _ _)] at hP1; exact hP1) hS1)
theorem pald {p : Program} {l : Launch} {e : Env} {R : Room} {s : State} {m : MethodId} {args : Array Value} {below : List Frame} {meth : Method} {c : Code} {H : Heap} {locs : List Loc} {cells slots : Nat} {Q : State → Prop} {cc : ByteArray} {pc : Nat} {ls : Array Slot} {rest : List Value} {D : va_G} {G : CY} {ad : Nat → Nat} {σ : Nat → Nat → Int32} {u : Nat → Int32} (hx : p.tables.exec = Jvm.exec) (hb : c.code = cc) (hK : va_K D vwCl (tysG G) s) {n o j : Nat} (hP : va_P D vwCl (pool G ad σ) H) (hat : (pool G ad σ)[j]? = some (ad j, icel G n o u)) {i : Int32} {t : Nat} (hin : vp_in i n) (ht9 : o + i.toNatClampNeg = t) (hdg : decode cc pc = .ok (.iaload, 1))
    (kk : W p l e R s m args below meth c H locs cells slots Q (F0 m (pc + 1) ls (.int (u t) :: rest))) : W p l e R s m args below meth c H locs cells slots Q (F0 m pc ls (.int i :: .ref (ad j) :: rest)) :=
  va_iald hx hb hK hP j 1 hat rfl hin hdg (by rw [tr_at (in_lt hin), ht9]; exact kk)
theorem pcald {p : Program} {l : Launch} {e : Env} {R : Room} {s : State} {m : MethodId} {args : Array Value} {below : List Frame} {meth : Method} {c : Code} {H : Heap} {locs : List Loc} {cells slots : Nat} {Q : State → Prop} {cc : ByteArray} {pc : Nat} {ls : Array Slot} {rest : List Value} {D : va_G} {G : CY} {ad : Nat → Nat} {σ : Nat → Nat → Int32} {u : Nat → Int32} (hx : p.tables.exec = Jvm.exec) (hb : c.code = cc) (hK : va_K D vwCl (tysG G) s) {n o j : Nat} (hP : va_P D vwCl (pool G ad σ) H) (hat : (pool G ad σ)[j]? = some (ad j, hcel G n o u)) {i : Int32} {t : Nat} (hin : vp_in i n) (ht9 : o + i.toNatClampNeg = t) (hdg : decode cc pc = .ok (.caload, 1))
    (kk : W p l e R s m args below meth c H locs cells slots Q (F0 m (pc + 1) ls (.int (u t) :: rest))) : W p l e R s m args below meth c H locs cells slots Q (F0 m pc ls (.int i :: .ref (ad j) :: rest)) :=
  va_cald hx hb hK hP j 0 hat rfl hin hdg (by rw [tr_at (in_lt hin), ht9]; exact kk)
theorem pqald {p : Program} {l : Launch} {e : Env} {R : Room} {s : State} {m : MethodId} {args : Array Value} {below : List Frame} {meth : Method} {c : Code} {H : Heap} {locs : List Loc} {cells slots : Nat} {Q : State → Prop} {cc : ByteArray} {pc : Nat} {ls : Array Slot} {rest : List Value} {D : va_G} {G : CY} {ad : Nat → Nat} {σ : Nat → Nat → Int32} (hx : p.tables.exec = Jvm.exec) (hb : c.code = cc) (hK : va_K D vwCl (tysG G) s) {n j t0 : Nat} {f : Nat → Nat} {cA : ClassId} {C : String} (hP : va_P D vwCl (pool G ad σ) H) (hat : (pool G ad σ)[j]? = some (ad j, qcel cA n f)) (ht : (tysG G)[t0]? = some (cA, .object C)) {i : Int32} (hin : vp_in i n) (hdg : decode cc pc = .ok (.aaload, 1))
    (kk : W p l e R s m args below meth c H locs cells slots Q (F0 m (pc + 1) ls (.ref (f i.toNatClampNeg) :: rest))) : W p l e R s m args below meth c H locs cells slots Q (F0 m pc ls (.int i :: .ref (ad j) :: rest)) :=
  va_aldq hx hb hK hP j t0 hat ht hin hdg kk
theorem past {p : Program} {l : Launch} {e : Env} {R : Room} {s : State} {m : MethodId} {args : Array Value} {below : List Frame} {meth : Method} {c : Code} {H : Heap} {locs : List Loc} {cells slots : Nat} {Q : State → Prop} {cc : ByteArray} {pc : Nat} {ls : Array Slot} {rest : List Value} {H0 : Heap} {D : va_G} {G : CY} {ad : Nat → Nat} {σ : Nat → Nat → Int32} {u : Nat → Int32} {B0 : Nat} (hx : p.tables.exec = Jvm.exec) (hb : c.code = cc) (hK : va_K D vwCl (tysG G) s) {n o j w : Nat} (hP : va_P D vwCl (pool G ad (va_up σ w u)) H) (hA : adOK B0 ad) (hS : va_S (AA B0) H0 H locs) (hw : w < 15) (hj : j < 18) (hcel : ∀ v : Nat → Int32, wcel G ad (18*w) v j = icel G n o v) (hown : ∀ k, k < n → own (o + k) = j) {i x : Int32} {t : Nat} (hin : vp_in i n) (ht9 : o + i.toNatClampNeg = t) (hdg : decode cc pc = .ok (.iastore, 1))
    (kk : ∀ (u1 : Nat → Int32) (H1 : Heap) (locs1 : List Loc), u1 = va_up u t x → va_P D vwCl (pool G ad (va_up σ w u1)) H1 → va_S (AA B0) H0 H1 locs1 → W p l e R s m args below meth c H1 locs1 cells slots Q (F0 m (pc + 1) ls rest)) : W p l e R s m args below meth c H locs cells slots Q (F0 m pc ls (.int x :: .int i :: .ref (ad (18*w+j)) :: rest)) :=
  va_iast hx hb hK hP (pool_D hA) hS (18*w+j) 1 (pool_atE (by omega) ((cel_f hw hj).trans (hcel u))) rfl hin hdg (fun H1 locs1 hP1 _ hS1 => kk _ H1 locs1 rfl (by rw [tr_upd (in_lt hin), ht9, pool_setw hw hj rfl (ht9 ▸ hown _ (in_lt hin)) (hcel _)] at hP1; exact hP1) hS1)
theorem past16 {p : Program} {l : Launch} {e : Env} {R : Room} {s : State} {m : MethodId} {args : Array Value} {below : List Frame} {meth : Method} {c : Code} {H : Heap} {locs : List Loc} {cells slots : Nat} {Q : State → Prop} {cc : ByteArray} {pc : Nat} {ls : Array Slot} {rest : List Value} {H0 : Heap} {D : va_G} {G : CY} {ad : Nat → Nat} {σ : Nat → Nat → Int32} {u : Nat → Int32} {B0 : Nat} (hx : p.tables.exec = Jvm.exec) (hb : c.code = cc) (hK : va_K D vwCl (tysG G) s) {n o j : Nat} (hP : va_P D vwCl (pool G ad (va_up σ 16 u)) H) (hA : adOK B0 ad) (hS : va_S (AA B0) H0 H locs) (h0 : 270 ≤ j) (hj : j < 290) (hcel : ∀ v z : Nat → Int32, ccel G ad z v j = icel G n o v) (hown : ∀ k, k < n → own16 (o + k) = j) {i x : Int32} {t : Nat} (hin : vp_in i n) (ht9 : o + i.toNatClampNeg = t) (hdg : decode cc pc = .ok (.iastore, 1))
    (kk : ∀ (u1 : Nat → Int32) (H1 : Heap) (locs1 : List Loc), u1 = va_up u t x → va_P D vwCl (pool G ad (va_up σ 16 u1)) H1 → va_S (AA B0) H0 H1 locs1 → W p l e R s m args below meth c H1 locs1 cells slots Q (F0 m (pc + 1) ls rest)) : W p l e R s m args below meth c H locs cells slots Q (F0 m pc ls (.int x :: .int i :: .ref (ad j) :: rest)) :=
  va_iast hx hb hK hP (pool_D hA) hS j 1 (pool_atE hj ((cel_c h0).trans (by rw [va_up_self]; exact hcel u _))) rfl hin hdg (fun H1 locs1 hP1 _ hS1 => kk _ H1 locs1 rfl (by rw [tr_upd (in_lt hin), ht9, pool_set16 h0 hj rfl (ht9 ▸ hown _ (in_lt hin)) (hcel _ _)] at hP1; exact hP1) hS1)
theorem past15 {p : Program} {l : Launch} {e : Env} {R : Room} {s : State} {m : MethodId} {args : Array Value} {below : List Frame} {meth : Method} {c : Code} {H : Heap} {locs : List Loc} {cells slots : Nat} {Q : State → Prop} {cc : ByteArray} {pc : Nat} {ls : Array Slot} {rest : List Value} {H0 : Heap} {D : va_G} {G : CY} {ad : Nat → Nat} {σ : Nat → Nat → Int32} {u : Nat → Int32} {B0 : Nat} (hx : p.tables.exec = Jvm.exec) (hb : c.code = cc) (hK : va_K D vwCl (tysG G) s) {n o j : Nat} (hP : va_P D vwCl (pool G ad (va_up σ 15 u)) H) (hA : adOK B0 ad) (hS : va_S (AA B0) H0 H locs) (h0 : 270 ≤ j) (hj : j < 290) (hcel : ∀ v z : Nat → Int32, ccel G ad v z j = icel G n o v) (hown : ∀ k, k < n → own15 (o + k) = j) {i x : Int32} {t : Nat} (hin : vp_in i n) (ht9 : o + i.toNatClampNeg = t) (hdg : decode cc pc = .ok (.iastore, 1))
    (kk : ∀ (u1 : Nat → Int32) (H1 : Heap) (locs1 : List Loc), u1 = va_up u t x → va_P D vwCl (pool G ad (va_up σ 15 u1)) H1 → va_S (AA B0) H0 H1 locs1 → W p l e R s m args below meth c H1 locs1 cells slots Q (F0 m (pc + 1) ls rest)) : W p l e R s m args below meth c H locs cells slots Q (F0 m pc ls (.int x :: .int i :: .ref (ad j) :: rest)) :=
  va_iast hx hb hK hP (pool_D hA) hS j 1 (pool_atE hj ((cel_c h0).trans (by rw [va_up_self]; exact hcel u _))) rfl hin hdg (fun H1 locs1 hP1 _ hS1 => kk _ H1 locs1 rfl (by rw [tr_upd (in_lt hin), ht9, pool_set15 h0 hj rfl (ht9 ▸ hown _ (in_lt hin)) (hcel _ _)] at hP1; exact hP1) hS1)
theorem setB_0 {G : CY} {ad : Nat → Nat} {b : Nat} {u : Nat → Int32} {i : Nat} {x : Int32} (hi : i < 4) : wcel G ad b (va_up u (336+24*i+0) x) (6+2*i) = .inr (2, ([.int (u (336+24*i+0)), .int (u (336+24*i+1)), .int (u (336+24*i+7)), .int (u (336+24*i+8)), .int (u (336+24*i+12)), .int (u (336+24*i+13)), .int (u (336+24*i+2)), .int (u (336+24*i+3)), .int (u (336+24*i+4)), .int (u (336+24*i+5)), .int (u (336+24*i+6)), .int (u (336+24*i+9)), .int (u (336+24*i+10)), .int (nb (u (336+24*i+11))), .int (u (336+24*i+21)), .ref (ad (b+(7+2*i)))] : List Value).set 0 (.int x)) := by
  have hh : ∀ a, a ≠ 0 → va_up u (336+24*i+0) x (336+24*i+a) = u (336+24*i+a) := fun a ha => va_up_ne _ _ (by omega)
  rw [wcel_b hi]
  simp only [bcel]
  rw [hh 1 (by decide), hh 7 (by decide), hh 8 (by decide), hh 12 (by decide), hh 13 (by decide), hh 2 (by decide), hh 3 (by decide), hh 4 (by decide), hh 5 (by decide), hh 6 (by decide), hh 9 (by decide), hh 10 (by decide), hh 11 (by decide), hh 21 (by decide), va_up_self]
  rfl
theorem setB_1 {G : CY} {ad : Nat → Nat} {b : Nat} {u : Nat → Int32} {i : Nat} {x : Int32} (hi : i < 4) : wcel G ad b (va_up u (336+24*i+1) x) (6+2*i) = .inr (2, ([.int (u (336+24*i+0)), .int (u (336+24*i+1)), .int (u (336+24*i+7)), .int (u (336+24*i+8)), .int (u (336+24*i+12)), .int (u (336+24*i+13)), .int (u (336+24*i+2)), .int (u (336+24*i+3)), .int (u (336+24*i+4)), .int (u (336+24*i+5)), .int (u (336+24*i+6)), .int (u (336+24*i+9)), .int (u (336+24*i+10)), .int (nb (u (336+24*i+11))), .int (u (336+24*i+21)), .ref (ad (b+(7+2*i)))] : List Value).set 1 (.int x)) := by
  have hh : ∀ a, a ≠ 1 → va_up u (336+24*i+1) x (336+24*i+a) = u (336+24*i+a) := fun a ha => va_up_ne _ _ (by omega)
  rw [wcel_b hi]
  simp only [bcel]
  rw [hh 0 (by decide), hh 7 (by decide), hh 8 (by decide), hh 12 (by decide), hh 13 (by decide), hh 2 (by decide), hh 3 (by decide), hh 4 (by decide), hh 5 (by decide), hh 6 (by decide), hh 9 (by decide), hh 10 (by decide), hh 11 (by decide), hh 21 (by decide), va_up_self]
  rfl
theorem setB_2 {G : CY} {ad : Nat → Nat} {b : Nat} {u : Nat → Int32} {i : Nat} {x : Int32} (hi : i < 4) : wcel G ad b (va_up u (336+24*i+7) x) (6+2*i) = .inr (2, ([.int (u (336+24*i+0)), .int (u (336+24*i+1)), .int (u (336+24*i+7)), .int (u (336+24*i+8)), .int (u (336+24*i+12)), .int (u (336+24*i+13)), .int (u (336+24*i+2)), .int (u (336+24*i+3)), .int (u (336+24*i+4)), .int (u (336+24*i+5)), .int (u (336+24*i+6)), .int (u (336+24*i+9)), .int (u (336+24*i+10)), .int (nb (u (336+24*i+11))), .int (u (336+24*i+21)), .ref (ad (b+(7+2*i)))] : List Value).set 2 (.int x)) := by
  have hh : ∀ a, a ≠ 7 → va_up u (336+24*i+7) x (336+24*i+a) = u (336+24*i+a) := fun a ha => va_up_ne _ _ (by omega)
  rw [wcel_b hi]
  simp only [bcel]
  rw [hh 0 (by decide), hh 1 (by decide), hh 8 (by decide), hh 12 (by decide), hh 13 (by decide), hh 2 (by decide), hh 3 (by decide), hh 4 (by decide), hh 5 (by decide), hh 6 (by decide), hh 9 (by decide), hh 10 (by decide), hh 11 (by decide), hh 21 (by decide), va_up_self]
  rfl
theorem setB_3 {G : CY} {ad : Nat → Nat} {b : Nat} {u : Nat → Int32} {i : Nat} {x : Int32} (hi : i < 4) : wcel G ad b (va_up u (336+24*i+8) x) (6+2*i) = .inr (2, ([.int (u (336+24*i+0)), .int (u (336+24*i+1)), .int (u (336+24*i+7)), .int (u (336+24*i+8)), .int (u (336+24*i+12)), .int (u (336+24*i+13)), .int (u (336+24*i+2)), .int (u (336+24*i+3)), .int (u (336+24*i+4)), .int (u (336+24*i+5)), .int (u (336+24*i+6)), .int (u (336+24*i+9)), .int (u (336+24*i+10)), .int (nb (u (336+24*i+11))), .int (u (336+24*i+21)), .ref (ad (b+(7+2*i)))] : List Value).set 3 (.int x)) := by
  have hh : ∀ a, a ≠ 8 → va_up u (336+24*i+8) x (336+24*i+a) = u (336+24*i+a) := fun a ha => va_up_ne _ _ (by omega)
  rw [wcel_b hi]
  simp only [bcel]
  rw [hh 0 (by decide), hh 1 (by decide), hh 7 (by decide), hh 12 (by decide), hh 13 (by decide), hh 2 (by decide), hh 3 (by decide), hh 4 (by decide), hh 5 (by decide), hh 6 (by decide), hh 9 (by decide), hh 10 (by decide), hh 11 (by decide), hh 21 (by decide), va_up_self]
  rfl
theorem setB_4 {G : CY} {ad : Nat → Nat} {b : Nat} {u : Nat → Int32} {i : Nat} {x : Int32} (hi : i < 4) : wcel G ad b (va_up u (336+24*i+12) x) (6+2*i) = .inr (2, ([.int (u (336+24*i+0)), .int (u (336+24*i+1)), .int (u (336+24*i+7)), .int (u (336+24*i+8)), .int (u (336+24*i+12)), .int (u (336+24*i+13)), .int (u (336+24*i+2)), .int (u (336+24*i+3)), .int (u (336+24*i+4)), .int (u (336+24*i+5)), .int (u (336+24*i+6)), .int (u (336+24*i+9)), .int (u (336+24*i+10)), .int (nb (u (336+24*i+11))), .int (u (336+24*i+21)), .ref (ad (b+(7+2*i)))] : List Value).set 4 (.int x)) := by
  have hh : ∀ a, a ≠ 12 → va_up u (336+24*i+12) x (336+24*i+a) = u (336+24*i+a) := fun a ha => va_up_ne _ _ (by omega)
  rw [wcel_b hi]
  simp only [bcel]
  rw [hh 0 (by decide), hh 1 (by decide), hh 7 (by decide), hh 8 (by decide), hh 13 (by decide), hh 2 (by decide), hh 3 (by decide), hh 4 (by decide), hh 5 (by decide), hh 6 (by decide), hh 9 (by decide), hh 10 (by decide), hh 11 (by decide), hh 21 (by decide), va_up_self]
  rfl
theorem setB_5 {G : CY} {ad : Nat → Nat} {b : Nat} {u : Nat → Int32} {i : Nat} {x : Int32} (hi : i < 4) : wcel G ad b (va_up u (336+24*i+13) x) (6+2*i) = .inr (2, ([.int (u (336+24*i+0)), .int (u (336+24*i+1)), .int (u (336+24*i+7)), .int (u (336+24*i+8)), .int (u (336+24*i+12)), .int (u (336+24*i+13)), .int (u (336+24*i+2)), .int (u (336+24*i+3)), .int (u (336+24*i+4)), .int (u (336+24*i+5)), .int (u (336+24*i+6)), .int (u (336+24*i+9)), .int (u (336+24*i+10)), .int (nb (u (336+24*i+11))), .int (u (336+24*i+21)), .ref (ad (b+(7+2*i)))] : List Value).set 5 (.int x)) := by
  have hh : ∀ a, a ≠ 13 → va_up u (336+24*i+13) x (336+24*i+a) = u (336+24*i+a) := fun a ha => va_up_ne _ _ (by omega)
  rw [wcel_b hi]
  simp only [bcel]
  rw [hh 0 (by decide), hh 1 (by decide), hh 7 (by decide), hh 8 (by decide), hh 12 (by decide), hh 2 (by decide), hh 3 (by decide), hh 4 (by decide), hh 5 (by decide), hh 6 (by decide), hh 9 (by decide), hh 10 (by decide), hh 11 (by decide), hh 21 (by decide), va_up_self]
  rfl
theorem setB_6 {G : CY} {ad : Nat → Nat} {b : Nat} {u : Nat → Int32} {i : Nat} {x : Int32} (hi : i < 4) : wcel G ad b (va_up u (336+24*i+2) x) (6+2*i) = .inr (2, ([.int (u (336+24*i+0)), .int (u (336+24*i+1)), .int (u (336+24*i+7)), .int (u (336+24*i+8)), .int (u (336+24*i+12)), .int (u (336+24*i+13)), .int (u (336+24*i+2)), .int (u (336+24*i+3)), .int (u (336+24*i+4)), .int (u (336+24*i+5)), .int (u (336+24*i+6)), .int (u (336+24*i+9)), .int (u (336+24*i+10)), .int (nb (u (336+24*i+11))), .int (u (336+24*i+21)), .ref (ad (b+(7+2*i)))] : List Value).set 6 (.int x)) := by
  have hh : ∀ a, a ≠ 2 → va_up u (336+24*i+2) x (336+24*i+a) = u (336+24*i+a) := fun a ha => va_up_ne _ _ (by omega)
  rw [wcel_b hi]
  simp only [bcel]
  rw [hh 0 (by decide), hh 1 (by decide), hh 7 (by decide), hh 8 (by decide), hh 12 (by decide), hh 13 (by decide), hh 3 (by decide), hh 4 (by decide), hh 5 (by decide), hh 6 (by decide), hh 9 (by decide), hh 10 (by decide), hh 11 (by decide), hh 21 (by decide), va_up_self]
  rfl
theorem setB_7 {G : CY} {ad : Nat → Nat} {b : Nat} {u : Nat → Int32} {i : Nat} {x : Int32} (hi : i < 4) : wcel G ad b (va_up u (336+24*i+3) x) (6+2*i) = .inr (2, ([.int (u (336+24*i+0)), .int (u (336+24*i+1)), .int (u (336+24*i+7)), .int (u (336+24*i+8)), .int (u (336+24*i+12)), .int (u (336+24*i+13)), .int (u (336+24*i+2)), .int (u (336+24*i+3)), .int (u (336+24*i+4)), .int (u (336+24*i+5)), .int (u (336+24*i+6)), .int (u (336+24*i+9)), .int (u (336+24*i+10)), .int (nb (u (336+24*i+11))), .int (u (336+24*i+21)), .ref (ad (b+(7+2*i)))] : List Value).set 7 (.int x)) := by
  have hh : ∀ a, a ≠ 3 → va_up u (336+24*i+3) x (336+24*i+a) = u (336+24*i+a) := fun a ha => va_up_ne _ _ (by omega)
  rw [wcel_b hi]
  simp only [bcel]
  rw [hh 0 (by decide), hh 1 (by decide), hh 7 (by decide), hh 8 (by decide), hh 12 (by decide), hh 13 (by decide), hh 2 (by decide), hh 4 (by decide), hh 5 (by decide), hh 6 (by decide), hh 9 (by decide), hh 10 (by decide), hh 11 (by decide), hh 21 (by decide), va_up_self]
  rfl
theorem setB_8 {G : CY} {ad : Nat → Nat} {b : Nat} {u : Nat → Int32} {i : Nat} {x : Int32} (hi : i < 4) : wcel G ad b (va_up u (336+24*i+4) x) (6+2*i) = .inr (2, ([.int (u (336+24*i+0)), .int (u (336+24*i+1)), .int (u (336+24*i+7)), .int (u (336+24*i+8)), .int (u (336+24*i+12)), .int (u (336+24*i+13)), .int (u (336+24*i+2)), .int (u (336+24*i+3)), .int (u (336+24*i+4)), .int (u (336+24*i+5)), .int (u (336+24*i+6)), .int (u (336+24*i+9)), .int (u (336+24*i+10)), .int (nb (u (336+24*i+11))), .int (u (336+24*i+21)), .ref (ad (b+(7+2*i)))] : List Value).set 8 (.int x)) := by
  have hh : ∀ a, a ≠ 4 → va_up u (336+24*i+4) x (336+24*i+a) = u (336+24*i+a) := fun a ha => va_up_ne _ _ (by omega)
  rw [wcel_b hi]
  simp only [bcel]
  rw [hh 0 (by decide), hh 1 (by decide), hh 7 (by decide), hh 8 (by decide), hh 12 (by decide), hh 13 (by decide), hh 2 (by decide), hh 3 (by decide), hh 5 (by decide), hh 6 (by decide), hh 9 (by decide), hh 10 (by decide), hh 11 (by decide), hh 21 (by decide), va_up_self]
  rfl
theorem setB_9 {G : CY} {ad : Nat → Nat} {b : Nat} {u : Nat → Int32} {i : Nat} {x : Int32} (hi : i < 4) : wcel G ad b (va_up u (336+24*i+5) x) (6+2*i) = .inr (2, ([.int (u (336+24*i+0)), .int (u (336+24*i+1)), .int (u (336+24*i+7)), .int (u (336+24*i+8)), .int (u (336+24*i+12)), .int (u (336+24*i+13)), .int (u (336+24*i+2)), .int (u (336+24*i+3)), .int (u (336+24*i+4)), .int (u (336+24*i+5)), .int (u (336+24*i+6)), .int (u (336+24*i+9)), .int (u (336+24*i+10)), .int (nb (u (336+24*i+11))), .int (u (336+24*i+21)), .ref (ad (b+(7+2*i)))] : List Value).set 9 (.int x)) := by
  have hh : ∀ a, a ≠ 5 → va_up u (336+24*i+5) x (336+24*i+a) = u (336+24*i+a) := fun a ha => va_up_ne _ _ (by omega)
  rw [wcel_b hi]
  simp only [bcel]
  rw [hh 0 (by decide), hh 1 (by decide), hh 7 (by decide), hh 8 (by decide), hh 12 (by decide), hh 13 (by decide), hh 2 (by decide), hh 3 (by decide), hh 4 (by decide), hh 6 (by decide), hh 9 (by decide), hh 10 (by decide), hh 11 (by decide), hh 21 (by decide), va_up_self]
  rfl
theorem setB_10 {G : CY} {ad : Nat → Nat} {b : Nat} {u : Nat → Int32} {i : Nat} {x : Int32} (hi : i < 4) : wcel G ad b (va_up u (336+24*i+6) x) (6+2*i) = .inr (2, ([.int (u (336+24*i+0)), .int (u (336+24*i+1)), .int (u (336+24*i+7)), .int (u (336+24*i+8)), .int (u (336+24*i+12)), .int (u (336+24*i+13)), .int (u (336+24*i+2)), .int (u (336+24*i+3)), .int (u (336+24*i+4)), .int (u (336+24*i+5)), .int (u (336+24*i+6)), .int (u (336+24*i+9)), .int (u (336+24*i+10)), .int (nb (u (336+24*i+11))), .int (u (336+24*i+21)), .ref (ad (b+(7+2*i)))] : List Value).set 10 (.int x)) := by
  have hh : ∀ a, a ≠ 6 → va_up u (336+24*i+6) x (336+24*i+a) = u (336+24*i+a) := fun a ha => va_up_ne _ _ (by omega)
  rw [wcel_b hi]
  simp only [bcel]
  rw [hh 0 (by decide), hh 1 (by decide), hh 7 (by decide), hh 8 (by decide), hh 12 (by decide), hh 13 (by decide), hh 2 (by decide), hh 3 (by decide), hh 4 (by decide), hh 5 (by decide), hh 9 (by decide), hh 10 (by decide), hh 11 (by decide), hh 21 (by decide), va_up_self]
  rfl
theorem setB_11 {G : CY} {ad : Nat → Nat} {b : Nat} {u : Nat → Int32} {i : Nat} {x : Int32} (hi : i < 4) : wcel G ad b (va_up u (336+24*i+9) x) (6+2*i) = .inr (2, ([.int (u (336+24*i+0)), .int (u (336+24*i+1)), .int (u (336+24*i+7)), .int (u (336+24*i+8)), .int (u (336+24*i+12)), .int (u (336+24*i+13)), .int (u (336+24*i+2)), .int (u (336+24*i+3)), .int (u (336+24*i+4)), .int (u (336+24*i+5)), .int (u (336+24*i+6)), .int (u (336+24*i+9)), .int (u (336+24*i+10)), .int (nb (u (336+24*i+11))), .int (u (336+24*i+21)), .ref (ad (b+(7+2*i)))] : List Value).set 11 (.int x)) := by
  have hh : ∀ a, a ≠ 9 → va_up u (336+24*i+9) x (336+24*i+a) = u (336+24*i+a) := fun a ha => va_up_ne _ _ (by omega)
  rw [wcel_b hi]
  simp only [bcel]
  rw [hh 0 (by decide), hh 1 (by decide), hh 7 (by decide), hh 8 (by decide), hh 12 (by decide), hh 13 (by decide), hh 2 (by decide), hh 3 (by decide), hh 4 (by decide), hh 5 (by decide), hh 6 (by decide), hh 10 (by decide), hh 11 (by decide), hh 21 (by decide), va_up_self]
  rfl
theorem setB_12 {G : CY} {ad : Nat → Nat} {b : Nat} {u : Nat → Int32} {i : Nat} {x : Int32} (hi : i < 4) : wcel G ad b (va_up u (336+24*i+10) x) (6+2*i) = .inr (2, ([.int (u (336+24*i+0)), .int (u (336+24*i+1)), .int (u (336+24*i+7)), .int (u (336+24*i+8)), .int (u (336+24*i+12)), .int (u (336+24*i+13)), .int (u (336+24*i+2)), .int (u (336+24*i+3)), .int (u (336+24*i+4)), .int (u (336+24*i+5)), .int (u (336+24*i+6)), .int (u (336+24*i+9)), .int (u (336+24*i+10)), .int (nb (u (336+24*i+11))), .int (u (336+24*i+21)), .ref (ad (b+(7+2*i)))] : List Value).set 12 (.int x)) := by
  have hh : ∀ a, a ≠ 10 → va_up u (336+24*i+10) x (336+24*i+a) = u (336+24*i+a) := fun a ha => va_up_ne _ _ (by omega)
  rw [wcel_b hi]
  simp only [bcel]
  rw [hh 0 (by decide), hh 1 (by decide), hh 7 (by decide), hh 8 (by decide), hh 12 (by decide), hh 13 (by decide), hh 2 (by decide), hh 3 (by decide), hh 4 (by decide), hh 5 (by decide), hh 6 (by decide), hh 9 (by decide), hh 11 (by decide), hh 21 (by decide), va_up_self]
  rfl
theorem setB_13 {G : CY} {ad : Nat → Nat} {b : Nat} {u : Nat → Int32} {i : Nat} {x : Int32} (hi : i < 4) (hx9 : nb x = x) : wcel G ad b (va_up u (336+24*i+11) x) (6+2*i) = .inr (2, ([.int (u (336+24*i+0)), .int (u (336+24*i+1)), .int (u (336+24*i+7)), .int (u (336+24*i+8)), .int (u (336+24*i+12)), .int (u (336+24*i+13)), .int (u (336+24*i+2)), .int (u (336+24*i+3)), .int (u (336+24*i+4)), .int (u (336+24*i+5)), .int (u (336+24*i+6)), .int (u (336+24*i+9)), .int (u (336+24*i+10)), .int (nb (u (336+24*i+11))), .int (u (336+24*i+21)), .ref (ad (b+(7+2*i)))] : List Value).set 13 (.int x)) := by
  have hh : ∀ a, a ≠ 11 → va_up u (336+24*i+11) x (336+24*i+a) = u (336+24*i+a) := fun a ha => va_up_ne _ _ (by omega)
  rw [wcel_b hi]
  simp only [bcel]
  rw [hh 0 (by decide), hh 1 (by decide), hh 7 (by decide), hh 8 (by decide), hh 12 (by decide), hh 13 (by decide), hh 2 (by decide), hh 3 (by decide), hh 4 (by decide), hh 5 (by decide), hh 6 (by decide), hh 9 (by decide), hh 10 (by decide), hh 21 (by decide), va_up_self, hx9]
  rfl
theorem setB_14 {G : CY} {ad : Nat → Nat} {b : Nat} {u : Nat → Int32} {i : Nat} {x : Int32} (hi : i < 4) : wcel G ad b (va_up u (336+24*i+21) x) (6+2*i) = .inr (2, ([.int (u (336+24*i+0)), .int (u (336+24*i+1)), .int (u (336+24*i+7)), .int (u (336+24*i+8)), .int (u (336+24*i+12)), .int (u (336+24*i+13)), .int (u (336+24*i+2)), .int (u (336+24*i+3)), .int (u (336+24*i+4)), .int (u (336+24*i+5)), .int (u (336+24*i+6)), .int (u (336+24*i+9)), .int (u (336+24*i+10)), .int (nb (u (336+24*i+11))), .int (u (336+24*i+21)), .ref (ad (b+(7+2*i)))] : List Value).set 14 (.int x)) := by
  have hh : ∀ a, a ≠ 21 → va_up u (336+24*i+21) x (336+24*i+a) = u (336+24*i+a) := fun a ha => va_up_ne _ _ (by omega)
  rw [wcel_b hi]
  simp only [bcel]
  rw [hh 0 (by decide), hh 1 (by decide), hh 7 (by decide), hh 8 (by decide), hh 12 (by decide), hh 13 (by decide), hh 2 (by decide), hh 3 (by decide), hh 4 (by decide), hh 5 (by decide), hh 6 (by decide), hh 9 (by decide), hh 10 (by decide), hh 11 (by decide), va_up_self]
  rfl
theorem setP_0 {G : CY} {ad : Nat → Nat} {b : Nat} {u : Nat → Int32} {i : Nat} {x : Int32} : wcel G ad b (va_up u (432+8*i+0) x) (14+i) = .inr (4, ([.int (u (432+8*i+0)), .int (u (432+8*i+1)), .int (u (432+8*i+2)), .int (u (432+8*i+3)), .int (u (432+8*i+4)), .int (u (432+8*i+6)), .int (u (432+8*i+5))] : List Value).set 0 (.int x)) := by
  have hh : ∀ a, a ≠ 0 → va_up u (432+8*i+0) x (432+8*i+a) = u (432+8*i+a) := fun a ha => va_up_ne _ _ (by omega)
  rw [wcel_p]
  simp only [pcel]
  rw [hh 1 (by decide), hh 2 (by decide), hh 3 (by decide), hh 4 (by decide), hh 6 (by decide), hh 5 (by decide), va_up_self]
  rfl
theorem setP_1 {G : CY} {ad : Nat → Nat} {b : Nat} {u : Nat → Int32} {i : Nat} {x : Int32} : wcel G ad b (va_up u (432+8*i+1) x) (14+i) = .inr (4, ([.int (u (432+8*i+0)), .int (u (432+8*i+1)), .int (u (432+8*i+2)), .int (u (432+8*i+3)), .int (u (432+8*i+4)), .int (u (432+8*i+6)), .int (u (432+8*i+5))] : List Value).set 1 (.int x)) := by
  have hh : ∀ a, a ≠ 1 → va_up u (432+8*i+1) x (432+8*i+a) = u (432+8*i+a) := fun a ha => va_up_ne _ _ (by omega)
  rw [wcel_p]
  simp only [pcel]
  rw [hh 0 (by decide), hh 2 (by decide), hh 3 (by decide), hh 4 (by decide), hh 6 (by decide), hh 5 (by decide), va_up_self]
  rfl
theorem setP_2 {G : CY} {ad : Nat → Nat} {b : Nat} {u : Nat → Int32} {i : Nat} {x : Int32} : wcel G ad b (va_up u (432+8*i+2) x) (14+i) = .inr (4, ([.int (u (432+8*i+0)), .int (u (432+8*i+1)), .int (u (432+8*i+2)), .int (u (432+8*i+3)), .int (u (432+8*i+4)), .int (u (432+8*i+6)), .int (u (432+8*i+5))] : List Value).set 2 (.int x)) := by
  have hh : ∀ a, a ≠ 2 → va_up u (432+8*i+2) x (432+8*i+a) = u (432+8*i+a) := fun a ha => va_up_ne _ _ (by omega)
  rw [wcel_p]
  simp only [pcel]
  rw [hh 0 (by decide), hh 1 (by decide), hh 3 (by decide), hh 4 (by decide), hh 6 (by decide), hh 5 (by decide), va_up_self]
  rfl
theorem setP_3 {G : CY} {ad : Nat → Nat} {b : Nat} {u : Nat → Int32} {i : Nat} {x : Int32} : wcel G ad b (va_up u (432+8*i+3) x) (14+i) = .inr (4, ([.int (u (432+8*i+0)), .int (u (432+8*i+1)), .int (u (432+8*i+2)), .int (u (432+8*i+3)), .int (u (432+8*i+4)), .int (u (432+8*i+6)), .int (u (432+8*i+5))] : List Value).set 3 (.int x)) := by
  have hh : ∀ a, a ≠ 3 → va_up u (432+8*i+3) x (432+8*i+a) = u (432+8*i+a) := fun a ha => va_up_ne _ _ (by omega)
  rw [wcel_p]
  simp only [pcel]
  rw [hh 0 (by decide), hh 1 (by decide), hh 2 (by decide), hh 4 (by decide), hh 6 (by decide), hh 5 (by decide), va_up_self]
  rfl
theorem setP_4 {G : CY} {ad : Nat → Nat} {b : Nat} {u : Nat → Int32} {i : Nat} {x : Int32} : wcel G ad b (va_up u (432+8*i+4) x) (14+i) = .inr (4, ([.int (u (432+8*i+0)), .int (u (432+8*i+1)), .int (u (432+8*i+2)), .int (u (432+8*i+3)), .int (u (432+8*i+4)), .int (u (432+8*i+6)), .int (u (432+8*i+5))] : List Value).set 4 (.int x)) := by
  have hh : ∀ a, a ≠ 4 → va_up u (432+8*i+4) x (432+8*i+a) = u (432+8*i+a) := fun a ha => va_up_ne _ _ (by omega)
  rw [wcel_p]
  simp only [pcel]
  rw [hh 0 (by decide), hh 1 (by decide), hh 2 (by decide), hh 3 (by decide), hh 6 (by decide), hh 5 (by decide), va_up_self]
  rfl
theorem setP_5 {G : CY} {ad : Nat → Nat} {b : Nat} {u : Nat → Int32} {i : Nat} {x : Int32} : wcel G ad b (va_up u (432+8*i+6) x) (14+i) = .inr (4, ([.int (u (432+8*i+0)), .int (u (432+8*i+1)), .int (u (432+8*i+2)), .int (u (432+8*i+3)), .int (u (432+8*i+4)), .int (u (432+8*i+6)), .int (u (432+8*i+5))] : List Value).set 5 (.int x)) := by
  have hh : ∀ a, a ≠ 6 → va_up u (432+8*i+6) x (432+8*i+a) = u (432+8*i+a) := fun a ha => va_up_ne _ _ (by omega)
  rw [wcel_p]
  simp only [pcel]
  rw [hh 0 (by decide), hh 1 (by decide), hh 2 (by decide), hh 3 (by decide), hh 4 (by decide), hh 5 (by decide), va_up_self]
  rfl
theorem setP_6 {G : CY} {ad : Nat → Nat} {b : Nat} {u : Nat → Int32} {i : Nat} {x : Int32} : wcel G ad b (va_up u (432+8*i+5) x) (14+i) = .inr (4, ([.int (u (432+8*i+0)), .int (u (432+8*i+1)), .int (u (432+8*i+2)), .int (u (432+8*i+3)), .int (u (432+8*i+4)), .int (u (432+8*i+6)), .int (u (432+8*i+5))] : List Value).set 6 (.int x)) := by
  have hh : ∀ a, a ≠ 5 → va_up u (432+8*i+5) x (432+8*i+a) = u (432+8*i+a) := fun a ha => va_up_ne _ _ (by omega)
  rw [wcel_p]
  simp only [pcel]
  rw [hh 0 (by decide), hh 1 (by decide), hh 2 (by decide), hh 3 (by decide), hh 4 (by decide), hh 6 (by decide), va_up_self]
  rfl
theorem setO_4 {G : CY} {ad : Nat → Nat} {b : Nat} {u : Nat → Int32} {x : Int32} : wcel G ad b (va_up u 464 x) 0 = .inr (7, ([.ref (ad (b+1)), .ref (ad (b+3)), .ref (ad (b+4)), .ref (ad (b+5)), .int (u 464), .int (u 465), .int (u 466)] : List Value).set 4 (.int x)) := by
  show ocel ad b (va_up u 464 x) = _
  simp only [ocel]
  rw [va_up_ne _ _ (by decide : 465 ≠ 464), va_up_ne _ _ (by decide : 466 ≠ 464), va_up_self]
  rfl
theorem setO_5 {G : CY} {ad : Nat → Nat} {b : Nat} {u : Nat → Int32} {x : Int32} : wcel G ad b (va_up u 465 x) 0 = .inr (7, ([.ref (ad (b+1)), .ref (ad (b+3)), .ref (ad (b+4)), .ref (ad (b+5)), .int (u 464), .int (u 465), .int (u 466)] : List Value).set 5 (.int x)) := by
  show ocel ad b (va_up u 465 x) = _
  simp only [ocel]
  rw [va_up_ne _ _ (by decide : 464 ≠ 465), va_up_ne _ _ (by decide : 466 ≠ 465), va_up_self]
  rfl
theorem setO_6 {G : CY} {ad : Nat → Nat} {b : Nat} {u : Nat → Int32} {x : Int32} : wcel G ad b (va_up u 466 x) 0 = .inr (7, ([.ref (ad (b+1)), .ref (ad (b+3)), .ref (ad (b+4)), .ref (ad (b+5)), .int (u 464), .int (u 465), .int (u 466)] : List Value).set 6 (.int x)) := by
  show ocel ad b (va_up u 466 x) = _
  simp only [ocel]
  rw [va_up_ne _ _ (by decide : 464 ≠ 466), va_up_ne _ _ (by decide : 465 ≠ 466), va_up_self]
  rfl
theorem setR_7 {G : CY} {ad : Nat → Nat} {u z : Nat → Int32} {x : Int32} (hx9 : nb x = x) : ccel G ad (va_up u 0 x) z 270 = .inr (8, ([.ref (ad 0), .ref (ad 18), .ref (ad 36), .ref (ad 271), .ref (ad 272), .ref (ad 273), .ref (ad 275), .int (nb (u 0)), .int (u 1)] : List Value).set 7 (.int x)) := by
  show rcel ad (va_up u 0 x) = _
  simp only [rcel]
  rw [va_up_ne _ _ (by decide : 1 ≠ 0), va_up_self, hx9]
  rfl
theorem setR_8 {G : CY} {ad : Nat → Nat} {u z : Nat → Int32} {x : Int32} : ccel G ad (va_up u 1 x) z 270 = .inr (8, ([.ref (ad 0), .ref (ad 18), .ref (ad 36), .ref (ad 271), .ref (ad 272), .ref (ad 273), .ref (ad 275), .int (nb (u 0)), .int (u 1)] : List Value).set 8 (.int x)) := by
  show rcel ad (va_up u 1 x) = _
  simp only [rcel]
  rw [va_up_ne _ _ (by decide : 0 ≠ 1), va_up_self]
  rfl
theorem setY_1 {G : CY} {ad : Nat → Nat} {u z : Nat → Int32} {x : Int32} : ccel G ad (va_up u 2 x) z 273 = .inr (3, ([.ref (ad 274), .int (u 2), .int (u 3)] : List Value).set 1 (.int x)) := by
  show ycel ad (va_up u 2 x) = _
  simp only [ycel]
  rw [va_up_ne _ _ (by decide : 3 ≠ 2), va_up_self]
  rfl
theorem setY_2 {G : CY} {ad : Nat → Nat} {u z : Nat → Int32} {x : Int32} : ccel G ad (va_up u 3 x) z 273 = .inr (3, ([.ref (ad 274), .int (u 2), .int (u 3)] : List Value).set 2 (.int x)) := by
  show ycel ad (va_up u 3 x) = _
  simp only [ycel]
  rw [va_up_ne _ _ (by decide : 2 ≠ 3), va_up_self]
  rfl
theorem setX_1 {G : CY} {ad : Nat → Nat} {u z : Nat → Int32} {x : Int32} : ccel G ad (va_up u 4 x) z 275 = .inr (5, ([.ref (ad 276), .int (u 4), .ref (ad 277), .ref (ad 278), .int (u 5)] : List Value).set 1 (.int x)) := by
  show xcel ad (va_up u 4 x) = _
  simp only [xcel]
  rw [va_up_ne _ _ (by decide : 5 ≠ 4), va_up_self]
  rfl
theorem setX_4 {G : CY} {ad : Nat → Nat} {u z : Nat → Int32} {x : Int32} : ccel G ad (va_up u 5 x) z 275 = .inr (5, ([.ref (ad 276), .int (u 4), .ref (ad 277), .ref (ad 278), .int (u 5)] : List Value).set 4 (.int x)) := by
  show xcel ad (va_up u 5 x) = _
  simp only [xcel]
  rw [va_up_ne _ _ (by decide : 4 ≠ 5), va_up_self]
  rfl
theorem setM_0 {G : CY} {ad : Nat → Nat} {u z : Nat → Int32} {x : Int32} : ccel G ad z (va_up u 490 x) 279 = .inr (9, ([.int (u 490), .ref (ad 280), .ref (ad 281), .ref (ad 282), .ref (ad 283), .ref (ad 284), .ref (ad 285), .ref (ad 286), .int (u 491), .int (nb (u 492)), .ref (ad 287), .ref (ad 288), .ref (ad 289), .int (u 493), .int (u 494), .int (u 495), .int (u 496)] : List Value).set 0 (.int x)) := by
  show mcel ad (va_up u 490 x) = _
  simp only [mcel]
  rw [va_up_ne _ _ (by decide : 491 ≠ 490), va_up_ne _ _ (by decide : 492 ≠ 490), va_up_ne _ _ (by decide : 493 ≠ 490), va_up_ne _ _ (by decide : 494 ≠ 490), va_up_ne _ _ (by decide : 495 ≠ 490), va_up_ne _ _ (by decide : 496 ≠ 490), va_up_self]
  rfl
theorem setM_8 {G : CY} {ad : Nat → Nat} {u z : Nat → Int32} {x : Int32} : ccel G ad z (va_up u 491 x) 279 = .inr (9, ([.int (u 490), .ref (ad 280), .ref (ad 281), .ref (ad 282), .ref (ad 283), .ref (ad 284), .ref (ad 285), .ref (ad 286), .int (u 491), .int (nb (u 492)), .ref (ad 287), .ref (ad 288), .ref (ad 289), .int (u 493), .int (u 494), .int (u 495), .int (u 496)] : List Value).set 8 (.int x)) := by
  show mcel ad (va_up u 491 x) = _
  simp only [mcel]
  rw [va_up_ne _ _ (by decide : 490 ≠ 491), va_up_ne _ _ (by decide : 492 ≠ 491), va_up_ne _ _ (by decide : 493 ≠ 491), va_up_ne _ _ (by decide : 494 ≠ 491), va_up_ne _ _ (by decide : 495 ≠ 491), va_up_ne _ _ (by decide : 496 ≠ 491), va_up_self]
  rfl
theorem setM_9 {G : CY} {ad : Nat → Nat} {u z : Nat → Int32} {x : Int32} (hx9 : nb x = x) : ccel G ad z (va_up u 492 x) 279 = .inr (9, ([.int (u 490), .ref (ad 280), .ref (ad 281), .ref (ad 282), .ref (ad 283), .ref (ad 284), .ref (ad 285), .ref (ad 286), .int (u 491), .int (nb (u 492)), .ref (ad 287), .ref (ad 288), .ref (ad 289), .int (u 493), .int (u 494), .int (u 495), .int (u 496)] : List Value).set 9 (.int x)) := by
  show mcel ad (va_up u 492 x) = _
  simp only [mcel]
  rw [va_up_ne _ _ (by decide : 490 ≠ 492), va_up_ne _ _ (by decide : 491 ≠ 492), va_up_ne _ _ (by decide : 493 ≠ 492), va_up_ne _ _ (by decide : 494 ≠ 492), va_up_ne _ _ (by decide : 495 ≠ 492), va_up_ne _ _ (by decide : 496 ≠ 492), va_up_self, hx9]
  rfl
theorem setM_13 {G : CY} {ad : Nat → Nat} {u z : Nat → Int32} {x : Int32} : ccel G ad z (va_up u 493 x) 279 = .inr (9, ([.int (u 490), .ref (ad 280), .ref (ad 281), .ref (ad 282), .ref (ad 283), .ref (ad 284), .ref (ad 285), .ref (ad 286), .int (u 491), .int (nb (u 492)), .ref (ad 287), .ref (ad 288), .ref (ad 289), .int (u 493), .int (u 494), .int (u 495), .int (u 496)] : List Value).set 13 (.int x)) := by
  show mcel ad (va_up u 493 x) = _
  simp only [mcel]
  rw [va_up_ne _ _ (by decide : 490 ≠ 493), va_up_ne _ _ (by decide : 491 ≠ 493), va_up_ne _ _ (by decide : 492 ≠ 493), va_up_ne _ _ (by decide : 494 ≠ 493), va_up_ne _ _ (by decide : 495 ≠ 493), va_up_ne _ _ (by decide : 496 ≠ 493), va_up_self]
  rfl
theorem setM_14 {G : CY} {ad : Nat → Nat} {u z : Nat → Int32} {x : Int32} : ccel G ad z (va_up u 494 x) 279 = .inr (9, ([.int (u 490), .ref (ad 280), .ref (ad 281), .ref (ad 282), .ref (ad 283), .ref (ad 284), .ref (ad 285), .ref (ad 286), .int (u 491), .int (nb (u 492)), .ref (ad 287), .ref (ad 288), .ref (ad 289), .int (u 493), .int (u 494), .int (u 495), .int (u 496)] : List Value).set 14 (.int x)) := by
  show mcel ad (va_up u 494 x) = _
  simp only [mcel]
  rw [va_up_ne _ _ (by decide : 490 ≠ 494), va_up_ne _ _ (by decide : 491 ≠ 494), va_up_ne _ _ (by decide : 492 ≠ 494), va_up_ne _ _ (by decide : 493 ≠ 494), va_up_ne _ _ (by decide : 495 ≠ 494), va_up_ne _ _ (by decide : 496 ≠ 494), va_up_self]
  rfl
theorem setM_15 {G : CY} {ad : Nat → Nat} {u z : Nat → Int32} {x : Int32} : ccel G ad z (va_up u 495 x) 279 = .inr (9, ([.int (u 490), .ref (ad 280), .ref (ad 281), .ref (ad 282), .ref (ad 283), .ref (ad 284), .ref (ad 285), .ref (ad 286), .int (u 491), .int (nb (u 492)), .ref (ad 287), .ref (ad 288), .ref (ad 289), .int (u 493), .int (u 494), .int (u 495), .int (u 496)] : List Value).set 15 (.int x)) := by
  show mcel ad (va_up u 495 x) = _
  simp only [mcel]
  rw [va_up_ne _ _ (by decide : 490 ≠ 495), va_up_ne _ _ (by decide : 491 ≠ 495), va_up_ne _ _ (by decide : 492 ≠ 495), va_up_ne _ _ (by decide : 493 ≠ 495), va_up_ne _ _ (by decide : 494 ≠ 495), va_up_ne _ _ (by decide : 496 ≠ 495), va_up_self]
  rfl
theorem setM_16 {G : CY} {ad : Nat → Nat} {u z : Nat → Int32} {x : Int32} : ccel G ad z (va_up u 496 x) 279 = .inr (9, ([.int (u 490), .ref (ad 280), .ref (ad 281), .ref (ad 282), .ref (ad 283), .ref (ad 284), .ref (ad 285), .ref (ad 286), .int (u 491), .int (nb (u 492)), .ref (ad 287), .ref (ad 288), .ref (ad 289), .int (u 493), .int (u 494), .int (u 495), .int (u 496)] : List Value).set 16 (.int x)) := by
  show mcel ad (va_up u 496 x) = _
  simp only [mcel]
  rw [va_up_ne _ _ (by decide : 490 ≠ 496), va_up_ne _ _ (by decide : 491 ≠ 496), va_up_ne _ _ (by decide : 492 ≠ 496), va_up_ne _ _ (by decide : 493 ≠ 496), va_up_ne _ _ (by decide : 494 ≠ 496), va_up_ne _ _ (by decide : 495 ≠ 496), va_up_self]
  rfl
theorem c_270 {G : CY} {ad : Nat → Nat} {σ : Nat → Nat → Int32} {u : Nat → Int32} : (pool G ad (va_up σ 15 u))[270]? = some (ad 270, rcel ad u) := pool_atE (by decide) (by rw [cel_c (by decide), va_up_self, va_up_ne _ _ (by decide : 16 ≠ 15)]; rfl)
theorem c_271 {G : CY} {ad : Nat → Nat} {σ : Nat → Nat → Int32} {u : Nat → Int32} : (pool G ad (va_up σ 15 u))[271]? = some (ad 271, icel G 4 10 u) := pool_atE (by decide) (by rw [cel_c (by decide), va_up_self, va_up_ne _ _ (by decide : 16 ≠ 15)]; rfl)
theorem c_272 {G : CY} {ad : Nat → Nat} {σ : Nat → Nat → Int32} {u : Nat → Int32} : (pool G ad (va_up σ 15 u))[272]? = some (ad 272, icel G 4 14 u) := pool_atE (by decide) (by rw [cel_c (by decide), va_up_self, va_up_ne _ _ (by decide : 16 ≠ 15)]; rfl)
theorem c_273 {G : CY} {ad : Nat → Nat} {σ : Nat → Nat → Int32} {u : Nat → Int32} : (pool G ad (va_up σ 15 u))[273]? = some (ad 273, ycel ad u) := pool_atE (by decide) (by rw [cel_c (by decide), va_up_self, va_up_ne _ _ (by decide : 16 ≠ 15)]; rfl)
theorem c_275 {G : CY} {ad : Nat → Nat} {σ : Nat → Nat → Int32} {u : Nat → Int32} : (pool G ad (va_up σ 15 u))[275]? = some (ad 275, xcel ad u) := pool_atE (by decide) (by rw [cel_c (by decide), va_up_self, va_up_ne _ _ (by decide : 16 ≠ 15)]; rfl)
theorem c_276 {G : CY} {ad : Nat → Nat} {σ : Nat → Nat → Int32} {u : Nat → Int32} : (pool G ad (va_up σ 15 u))[276]? = some (ad 276, hcel G 40 20 u) := pool_atE (by decide) (by rw [cel_c (by decide), va_up_self, va_up_ne _ _ (by decide : 16 ≠ 15)]; rfl)
theorem c_277 {G : CY} {ad : Nat → Nat} {σ : Nat → Nat → Int32} {u : Nat → Int32} : (pool G ad (va_up σ 15 u))[277]? = some (ad 277, icel G 20 60 u) := pool_atE (by decide) (by rw [cel_c (by decide), va_up_self, va_up_ne _ _ (by decide : 16 ≠ 15)]; rfl)
theorem c_278 {G : CY} {ad : Nat → Nat} {σ : Nat → Nat → Int32} {u : Nat → Int32} : (pool G ad (va_up σ 15 u))[278]? = some (ad 278, icel G 20 80 u) := pool_atE (by decide) (by rw [cel_c (by decide), va_up_self, va_up_ne _ _ (by decide : 16 ≠ 15)]; rfl)
theorem c_279 {G : CY} {ad : Nat → Nat} {σ : Nat → Nat → Int32} {u : Nat → Int32} : (pool G ad (va_up σ 16 u))[279]? = some (ad 279, mcel ad u) := pool_atE (by decide) (by rw [cel_c (by decide), va_up_self, va_up_ne _ _ (by decide : 15 ≠ 16)]; rfl)
theorem c_280 {G : CY} {ad : Nat → Nat} {σ : Nat → Nat → Int32} {u : Nat → Int32} : (pool G ad (va_up σ 16 u))[280]? = some (ad 280, icel G 480 0 u) := pool_atE (by decide) (by rw [cel_c (by decide), va_up_self, va_up_ne _ _ (by decide : 15 ≠ 16)]; rfl)
theorem c_281 {G : CY} {ad : Nat → Nat} {σ : Nat → Nat → Int32} {u : Nat → Int32} : (pool G ad (va_up σ 16 u))[281]? = some (ad 281, icel G 4 480 u) := pool_atE (by decide) (by rw [cel_c (by decide), va_up_self, va_up_ne _ _ (by decide : 15 ≠ 16)]; rfl)
theorem c_282 {G : CY} {ad : Nat → Nat} {σ : Nat → Nat → Int32} {u : Nat → Int32} : (pool G ad (va_up σ 16 u))[282]? = some (ad 282, icel G 4 484 u) := pool_atE (by decide) (by rw [cel_c (by decide), va_up_self, va_up_ne _ _ (by decide : 15 ≠ 16)]; rfl)
theorem c_283 {G : CY} {ad : Nat → Nat} {σ : Nat → Nat → Int32} {u : Nat → Int32} : (pool G ad (va_up σ 16 u))[283]? = some (ad 283, icel G 5760 2000 u) := pool_atE (by decide) (by rw [cel_c (by decide), va_up_self, va_up_ne _ _ (by decide : 15 ≠ 16)]; rfl)
theorem c_284 {G : CY} {ad : Nat → Nat} {σ : Nat → Nat → Int32} {u : Nat → Int32} : (pool G ad (va_up σ 16 u))[284]? = some (ad 284, icel G 480 600 u) := pool_atE (by decide) (by rw [cel_c (by decide), va_up_self, va_up_ne _ _ (by decide : 15 ≠ 16)]; rfl)
theorem c_285 {G : CY} {ad : Nat → Nat} {σ : Nat → Nat → Int32} {u : Nat → Int32} : (pool G ad (va_up σ 16 u))[285]? = some (ad 285, icel G 480 1100 u) := pool_atE (by decide) (by rw [cel_c (by decide), va_up_self, va_up_ne _ _ (by decide : 15 ≠ 16)]; rfl)
theorem c_286 {G : CY} {ad : Nat → Nat} {σ : Nat → Nat → Int32} {u : Nat → Int32} : (pool G ad (va_up σ 16 u))[286]? = some (ad 286, icel G 4 580 u) := pool_atE (by decide) (by rw [cel_c (by decide), va_up_self, va_up_ne _ _ (by decide : 15 ≠ 16)]; rfl)
theorem c_287 {G : CY} {ad : Nat → Nat} {σ : Nat → Nat → Int32} {u : Nat → Int32} : (pool G ad (va_up σ 16 u))[287]? = some (ad 287, hcel G 40 500 u) := pool_atE (by decide) (by rw [cel_c (by decide), va_up_self, va_up_ne _ _ (by decide : 15 ≠ 16)]; rfl)
theorem c_288 {G : CY} {ad : Nat → Nat} {σ : Nat → Nat → Int32} {u : Nat → Int32} : (pool G ad (va_up σ 16 u))[288]? = some (ad 288, icel G 20 540 u) := pool_atE (by decide) (by rw [cel_c (by decide), va_up_self, va_up_ne _ _ (by decide : 15 ≠ 16)]; rfl)
theorem c_289 {G : CY} {ad : Nat → Nat} {σ : Nat → Nat → Int32} {u : Nat → Int32} : (pool G ad (va_up σ 16 u))[289]? = some (ad 289, icel G 20 560 u) := pool_atE (by decide) (by rw [cel_c (by decide), va_up_self, va_up_ne _ _ (by decide : 15 ≠ 16)]; rfl)
theorem c_274 {G : CY} {ad : Nat → Nat} {σ : Nat → Nat → Int32} : (pool G ad σ)[274]? = some (ad 274, qcel G.2.2.2.2 12 (fun i => ad (18*(3+i)))) := pool_atE (by decide) (by rw [cel_c (by decide)]; rfl)

/-! the invariants of the other rows, more names -/
def okC (u : Nat → Int32) : Prop := (0 ≤ (u 2).toInt ∧ (u 2).toInt ≤ 12) ∧ (0 ≤ (u 3).toInt ∧ (u 3).toInt < 12) ∧ (0 ≤ (u 4).toInt ∧ (u 4).toInt ≤ 40) ∧ 0 ≤ (u 5).toInt ∧ (u 5).toInt ≤ 20
def okM (u : Nat → Int32) : Prop := okW u ∧ (0 ≤ (u 491).toInt ∧ (u 491).toInt ≤ 12) ∧ (0 ≤ (u 493).toInt ∧ (u 493).toInt ≤ 40) ∧ (0 ≤ (u 494).toInt ∧ (u 494).toInt ≤ 40) ∧ (0 ≤ (u 495).toInt ∧ (u 495).toInt ≤ 20) ∧ ∀ o, (o = 600 ∨ o = 1100 ∨ ∃ k, k < 12 ∧ o = 2000 + 480 * k) → okW (fun t => u (o + t))
def okS (σ : Nat → Nat → Int32) : Prop := (∀ w, w < 15 → okW (σ w)) ∧ okC (σ 15) ∧ okM (σ 16)
theorem okC_up {u u1 : Nat → Int32} {t : Nat} {x : Int32} (e : u1 = va_up u t x) (h : okC u) (h1 : t < 2 ∨ 5 < t) : okC u1 := by
  subst e
  unfold okC
  rw [va_up_ne _ _ (by omega : 2 ≠ t), va_up_ne _ _ (by omega : 3 ≠ t), va_up_ne _ _ (by omega : 4 ≠ t), va_up_ne _ _ (by omega : 5 ≠ t)]
  exact h
theorem okM_up {u u1 : Nat → Int32} {t : Nat} {x : Int32} (e : u1 = va_up u t x) (h : okM u) (h1 : t ≠ 464) (h2 : t ≠ 465) (h3 : t ≠ 491 ∧ t ≠ 493 ∧ t ≠ 494 ∧ t ≠ 495 ∧ t < 600) : okM u1 := by
  refine ⟨okW_up e h.1 h1 h2, ?_⟩
  subst e
  rw [va_up_ne _ _ (by omega : 491 ≠ t), va_up_ne _ _ (by omega : 493 ≠ t), va_up_ne _ _ (by omega : 494 ≠ t), va_up_ne _ _ (by omega : 495 ≠ t)]
  refine ⟨h.2.1, h.2.2.1, h.2.2.2.1, h.2.2.2.2.1, fun o ho => ?_⟩
  have ho2 : 600 ≤ o := by
    rcases ho with rfl | rfl | ⟨k, hk, rfl⟩ <;> omega
  have h9 := h.2.2.2.2.2 o ho
  unfold okW at h9 ⊢
  dsimp only at h9 ⊢
  rw [va_up_ne _ _ (by omega : o + 464 ≠ t), va_up_ne _ _ (by omega : o + 465 ≠ t)]
  exact h9
theorem okS_row {σ σ1 : Nat → Nat → Int32} {w : Nat} {u : Nat → Int32} (e : σ1 = va_up σ w u) (h : okS σ) (hw : w < 15) (hu : okW u) : okS σ1 := by
  subst e
  refine ⟨fun w2 h2 => ?_, ?_, ?_⟩
  · by_cases h9 : w2 = w
    · subst h9; rw [va_up_self]; exact hu
    · rw [va_up_ne _ _ h9]; exact h.1 w2 h2
  · rw [va_up_ne _ _ (by omega : 15 ≠ w)]; exact h.2.1
  · rw [va_up_ne _ _ (by omega : 16 ≠ w)]; exact h.2.2
theorem okS_15 {σ σ1 : Nat → Nat → Int32} {u : Nat → Int32} (e : σ1 = va_up σ 15 u) (h : okS σ) (hu : okC u) : okS σ1 := by
  subst e
  refine ⟨fun w2 h2 => ?_, ?_, ?_⟩
  · rw [va_up_ne _ _ (by omega : w2 ≠ 15)]; exact h.1 w2 h2
  · rw [va_up_self]; exact hu
  · rw [va_up_ne _ _ (by decide : 16 ≠ 15)]; exact h.2.2
theorem okS_up {σ σ1 : Nat → Nat → Int32} {w t : Nat} {x : Int32} (e : σ1 = va_up σ w (va_up (σ w) t x)) (h : okS σ) (hw : w < 15) (h1 : t ≠ 464) (h2 : t ≠ 465) : okS σ1 := okS_row e h hw (okW_up rfl (h.1 w hw) h1 h2)
theorem okS_up15 {σ σ1 : Nat → Nat → Int32} {t : Nat} {x : Int32} (e : σ1 = va_up σ 15 (va_up (σ 15) t x)) (h : okS σ) (h1 : t < 2 ∨ 5 < t) : okS σ1 := okS_15 e h (okC_up rfl h.2.1 h1)
theorem ho_at {D : va_G} {G : CY} {ad : Nat → Nat} {σ : Nat → Nat → Int32} {t : State} {H : Heap} (ht : t.heap = H) (h : Ho D G ad σ t) : va_P D vwCl (pool G ad σ) H := ht ▸ h
theorem ho_of {D : va_G} {G : CY} {ad : Nat → Nat} {σ : Nat → Nat → Int32} {t : State} {H : Heap} (ht : t.heap = H) (h : va_P D vwCl (pool G ad σ) H) : Ho D G ad σ t := by unfold Ho; rw [ht]; exact h
theorem ms_s {a b n : Nat} (h : a < b) (h2 : b < n + 1) : a < n := by omega
theorem tab_out {x : Int32} (lo hi : Int) (h : ∀ k : Int, lo ≤ k → k ≤ hi → ¬ x.toInt = k) : x.toInt < lo ∨ hi < x.toInt := by
  by_cases h1 : x.toInt < lo
  · exact Or.inl h1
  · by_cases h2 : hi < x.toInt
    · exact Or.inr h2
    · exact absurd rfl (h x.toInt (by omega) (by omega))
/-- up by 1 below a bound -/
theorem t_inc {x B : Int32} (h : x < B) : (x + 1).toInt = x.toInt + 1 := by
  have h1 := Int32.lt_iff_toInt_lt.mp h
  have h2 := B.toInt_lt
  have h3 := x.le_toInt
  rw [Int32.toInt_add, show (1 : Int32).toInt = 1 from rfl, Int.bmod_def]
  split <;> omega
theorem t_dec {x : Int32} (h : 0 < x) : (x + (-1)).toInt = x.toInt - 1 := by
  have h1 := Int32.lt_iff_toInt_lt.mp h
  have h2 := x.toInt_lt
  rw [show (0 : Int32).toInt = 0 from rfl] at h1
  rw [Int32.toInt_add, show (-1 : Int32).toInt = -1 from rfl, Int.bmod_def]
  split <;> omega
theorem dec_up {x y B : Int32} (h : x < B) (e : y = x + 1) : (B.toInt - y.toInt).toNat < (B.toInt - x.toInt).toNat := by
  have h1 := Int32.lt_iff_toInt_lt.mp h
  rw [e, t_inc h]
  omega
theorem dec_upe {x y B : Int32} (h : ¬ B < x) (hB : B.toInt < 2147483647) (e : y = x + 1) : (B.toInt + 1 - y.toInt).toNat < (B.toInt + 1 - x.toInt).toNat := by
  have h1 : x.toInt ≤ B.toInt := by rw [Int32.lt_iff_toInt_lt] at h; omega
  have h3 := x.le_toInt
  have h4 : y.toInt = x.toInt + 1 := by
    rw [e, Int32.toInt_add, show (1 : Int32).toInt = 1 from rfl, Int.bmod_def]
    split <;> omega
  rw [h4]
  omega
theorem dec_dn {x y : Int32} (h : 0 < x) (e : y = x + (-1)) : y.toInt.toNat < x.toInt.toNat := by
  have h1 := Int32.lt_iff_toInt_lt.mp h
  rw [show (0 : Int32).toInt = 0 from rfl] at h1
  rw [e, t_dec h]
  omega
theorem nle_lt {x y : Int32} (h : ¬ y ≤ x) : x < y := by rw [Int32.le_iff_toInt_le] at h; rw [Int32.lt_iff_toInt_lt]; omega
theorem big_of {n : Nat} (h : n < 4294967300) : n < BIG := by unfold BIG; omega
theorem big_up (x B : Int32) : (B.toInt - x.toInt).toNat < BIG := by
  have h1 := B.toInt_lt; have h2 := x.le_toInt; have h3 := B.le_toInt; have h4 := x.toInt_lt
  unfold BIG; omega
theorem big_upe (x B : Int32) : (B.toInt + 1 - x.toInt).toNat < BIG := by
  have h1 := B.toInt_lt; have h2 := x.le_toInt; have h3 := B.le_toInt; have h4 := x.toInt_lt
  unfold BIG; omega
theorem big_dn (x : Int32) : x.toInt.toNat < BIG := by
  have h1 := x.toInt_lt; have h2 := x.le_toInt
  unfold BIG; omega
theorem inc_ge0 {x y B : Int32} (h : x < B) (h0 : 0 ≤ x) (e : y = x + 1) : 0 ≤ y := by
  rw [Int32.le_iff_toInt_le] at h0 ⊢
  rw [e, t_inc h]
  rw [show (0 : Int32).toInt = 0 from rfl] at h0 ⊢
  omega
theorem shr4_le (x : Int32) : (x >>> ((4 : Int32) &&& 31)).toInt < 2147483647 := by
  rw [pk_shr x ((4 : Int32) &&& 31) 4 (by decide), Int.shiftRight_eq_div_pow]
  have h1 := x.toInt_lt
  omega
theorem le0 : (0 : Int32) ≤ 0 := by decide

theorem g_o {G : CY} {ad : Nat → Nat} {σ : Nat → Nat → Int32} {w : Nat} (hw : w < 15) : (pool G ad σ)[18*w+0]? = some (ad (18*w+0), ocel ad (18*w) (σ w)) := pool_atE (by omega) (cel_w hw (by omega))
theorem g_t {G : CY} {ad : Nat → Nat} {σ : Nat → Nat → Int32} {w : Nat} (hw : w < 15) : (pool G ad σ)[18*w+1]? = some (ad (18*w+1), .inr (6, [.ref (ad (18*w+2))])) := pool_atE (by omega) (cel_w hw (by omega))
theorem g_k {G : CY} {ad : Nat → Nat} {σ : Nat → Nat → Int32} {w : Nat} (hw : w < 15) : (pool G ad σ)[18*w+2]? = some (ad (18*w+2), kcel G (σ w)) := pool_atE (by omega) (cel_w hw (by omega))
theorem g_a {G : CY} {ad : Nat → Nat} {σ : Nat → Nat → Int32} {w : Nat} (hw : w < 15) : (pool G ad σ)[18*w+5]? = some (ad (18*w+5), acel G (σ w)) := pool_atE (by omega) (cel_w hw (by omega))
theorem g_b {G : CY} {ad : Nat → Nat} {σ : Nat → Nat → Int32} {w i : Nat} (hw : w < 15) (hi : i < 4) : (pool G ad σ)[18*w+(6+2*i)]? = some (ad (18*w+(6+2*i)), bcel ad (18*w) (σ w) i) := pool_atE (by omega) ((cel_w hw (by omega)).trans (wcel_b hi))
theorem g_s {G : CY} {ad : Nat → Nat} {σ : Nat → Nat → Int32} {w i : Nat} (hw : w < 15) (hi : i < 4) : (pool G ad σ)[18*w+(7+2*i)]? = some (ad (18*w+(7+2*i)), scel G (σ w) i) := pool_atE (by omega) ((cel_w hw (by omega)).trans (wcel_s hi))
theorem g_p {G : CY} {ad : Nat → Nat} {σ : Nat → Nat → Int32} {w i : Nat} (hw : w < 15) (hi : i < 4) : (pool G ad σ)[18*w+(14+i)]? = some (ad (18*w+(14+i)), pcel (σ w) i) := pool_atE (by omega) ((cel_w hw (by omega)).trans wcel_p)
theorem g_270 {G : CY} {ad : Nat → Nat} {σ : Nat → Nat → Int32} : (pool G ad σ)[270]? = some (ad 270, rcel ad (σ 15)) := pool_atE (by decide) (by rw [cel_c (by decide)]; rfl)
theorem g_271 {G : CY} {ad : Nat → Nat} {σ : Nat → Nat → Int32} : (pool G ad σ)[271]? = some (ad 271, icel G 4 10 (σ 15)) := pool_atE (by decide) (by rw [cel_c (by decide)]; rfl)
theorem g_272 {G : CY} {ad : Nat → Nat} {σ : Nat → Nat → Int32} : (pool G ad σ)[272]? = some (ad 272, icel G 4 14 (σ 15)) := pool_atE (by decide) (by rw [cel_c (by decide)]; rfl)
theorem g_273 {G : CY} {ad : Nat → Nat} {σ : Nat → Nat → Int32} : (pool G ad σ)[273]? = some (ad 273, ycel ad (σ 15)) := pool_atE (by decide) (by rw [cel_c (by decide)]; rfl)
theorem g_275 {G : CY} {ad : Nat → Nat} {σ : Nat → Nat → Int32} : (pool G ad σ)[275]? = some (ad 275, xcel ad (σ 15)) := pool_atE (by decide) (by rw [cel_c (by decide)]; rfl)
theorem g_276 {G : CY} {ad : Nat → Nat} {σ : Nat → Nat → Int32} : (pool G ad σ)[276]? = some (ad 276, hcel G 40 20 (σ 15)) := pool_atE (by decide) (by rw [cel_c (by decide)]; rfl)
theorem g_277 {G : CY} {ad : Nat → Nat} {σ : Nat → Nat → Int32} : (pool G ad σ)[277]? = some (ad 277, icel G 20 60 (σ 15)) := pool_atE (by decide) (by rw [cel_c (by decide)]; rfl)
theorem g_278 {G : CY} {ad : Nat → Nat} {σ : Nat → Nat → Int32} : (pool G ad σ)[278]? = some (ad 278, icel G 20 80 (σ 15)) := pool_atE (by decide) (by rw [cel_c (by decide)]; rfl)
theorem g_279 {G : CY} {ad : Nat → Nat} {σ : Nat → Nat → Int32} : (pool G ad σ)[279]? = some (ad 279, mcel ad (σ 16)) := pool_atE (by decide) (by rw [cel_c (by decide)]; rfl)
theorem g_280 {G : CY} {ad : Nat → Nat} {σ : Nat → Nat → Int32} : (pool G ad σ)[280]? = some (ad 280, icel G 480 0 (σ 16)) := pool_atE (by decide) (by rw [cel_c (by decide)]; rfl)
theorem g_281 {G : CY} {ad : Nat → Nat} {σ : Nat → Nat → Int32} : (pool G ad σ)[281]? = some (ad 281, icel G 4 480 (σ 16)) := pool_atE (by decide) (by rw [cel_c (by decide)]; rfl)
theorem g_282 {G : CY} {ad : Nat → Nat} {σ : Nat → Nat → Int32} : (pool G ad σ)[282]? = some (ad 282, icel G 4 484 (σ 16)) := pool_atE (by decide) (by rw [cel_c (by decide)]; rfl)
theorem g_283 {G : CY} {ad : Nat → Nat} {σ : Nat → Nat → Int32} : (pool G ad σ)[283]? = some (ad 283, icel G 5760 2000 (σ 16)) := pool_atE (by decide) (by rw [cel_c (by decide)]; rfl)
theorem g_284 {G : CY} {ad : Nat → Nat} {σ : Nat → Nat → Int32} : (pool G ad σ)[284]? = some (ad 284, icel G 480 600 (σ 16)) := pool_atE (by decide) (by rw [cel_c (by decide)]; rfl)
theorem g_285 {G : CY} {ad : Nat → Nat} {σ : Nat → Nat → Int32} : (pool G ad σ)[285]? = some (ad 285, icel G 480 1100 (σ 16)) := pool_atE (by decide) (by rw [cel_c (by decide)]; rfl)
theorem g_286 {G : CY} {ad : Nat → Nat} {σ : Nat → Nat → Int32} : (pool G ad σ)[286]? = some (ad 286, icel G 4 580 (σ 16)) := pool_atE (by decide) (by rw [cel_c (by decide)]; rfl)
theorem g_287 {G : CY} {ad : Nat → Nat} {σ : Nat → Nat → Int32} : (pool G ad σ)[287]? = some (ad 287, hcel G 40 500 (σ 16)) := pool_atE (by decide) (by rw [cel_c (by decide)]; rfl)
theorem g_288 {G : CY} {ad : Nat → Nat} {σ : Nat → Nat → Int32} : (pool G ad σ)[288]? = some (ad 288, icel G 20 540 (σ 16)) := pool_atE (by decide) (by rw [cel_c (by decide)]; rfl)
theorem g_289 {G : CY} {ad : Nat → Nat} {σ : Nat → Nat → Int32} : (pool G ad σ)[289]? = some (ad 289, icel G 20 560 (σ 16)) := pool_atE (by decide) (by rw [cel_c (by decide)]; rfl)
theorem c_set {G : CY} {ad : Nat → Nat} {σ : Nat → Nat → Int32} {u : Nat → Int32} {w : Nat} (hw : w < 15) : (pool G ad (va_up σ w u))[271]? = some (ad 271, icel G 4 10 (σ 15)) := pool_atE (by decide) (by rw [cel_c (by decide), va_up_ne _ _ (by omega : 15 ≠ w)]; rfl)

abbrev mMax (x y : Int32) : Int32 := if x < y then y else x
abbrev mMin (x y : Int32) : Int32 := if y < x then y else x
abbrev mAbs (x : Int32) : Int32 := if 0 ≤ x then x else 0 - x

theorem in_n {i n : Int32} {N : Nat} (h0 : 0 ≤ i) (h : i < n) (hn : n.toInt ≤ N) : vp_in i N := vp_in_iff.mpr ⟨by rw [Int32.le_iff_toInt_le] at h0; exact h0, by rw [Int32.lt_iff_toInt_lt] at h; omega⟩
theorem inc_in {x y : Int32} {N : Nat} (h : vp_in x N) (hN : N < 2147483648) (e : y = x + 1) : y.toInt = x.toInt + 1 := by
  have h1 := vp_in_iff.mp h
  rw [e, Int32.toInt_add, show (1 : Int32).toInt = 1 from rfl, Int.bmod_def]
  split <;> omega
theorem dec_i4 {x y : Int32} (h : vp_in x 4) (e : y = x + 1) : (4 - y.toInt).toNat < (4 - x.toInt).toNat := by
  have h1 := vp_in_iff.mp h
  rw [inc_in h (by decide) e]
  omega
theorem ge0_i4 {x y : Int32} (h : vp_in x 4) (e : y = x + 1) : 0 ≤ y := by
  have h1 := vp_in_iff.mp h
  rw [Int32.le_iff_toInt_le, inc_in h (by decide) e, show (0 : Int32).toInt = 0 from rfl]
  omega
theorem big_i4 (x : Int32) : (4 - x.toInt).toNat < BIG := by
  have h2 := x.le_toInt
  unfold BIG; omega
theorem in_kidx {a b : Int32} (h1 : ¬ a < 0) (h2 : a < 24) (h3 : ¬ b < 0) (h4 : b < 14) : vp_in (b * 24 + a) 336 := by
  rw [Int32.lt_iff_toInt_lt] at h1 h2 h3 h4
  rw [show (0 : Int32).toInt = 0 from rfl] at h1 h3
  rw [show (24 : Int32).toInt = 24 from rfl] at h2
  rw [show (14 : Int32).toInt = 14 from rfl] at h4
  rw [vp_in_iff, Int32.toInt_add, Int32.toInt_mul, show (24 : Int32).toInt = 24 from rfl]
  have e1 : (b.toInt * 24).bmod (2 ^ 32) = b.toInt * 24 := by rw [Int.bmod_def]; split <;> omega
  have e2 : (b.toInt * 24 + a.toInt).bmod (2 ^ 32) = b.toInt * 24 + a.toInt := by rw [Int.bmod_def]; split <;> omega
  rw [e1, e2]
  omega
theorem in_kidx2 {a b : Int32} (h1 : ¬ a < 0) (h2 : a < 24) (h3 : ¬ b < 0) (h4 : b < 14) : vp_in (24 * b + a) 480 := by
  rw [Int32.lt_iff_toInt_lt] at h1 h2 h3 h4
  rw [show (0 : Int32).toInt = 0 from rfl] at h1 h3
  rw [show (24 : Int32).toInt = 24 from rfl] at h2
  rw [show (14 : Int32).toInt = 14 from rfl] at h4
  rw [vp_in_iff, Int32.toInt_add, Int32.toInt_mul, show (24 : Int32).toInt = 24 from rfl]
  have e1 : (24 * b.toInt).bmod (2 ^ 32) = 24 * b.toInt := by rw [Int.bmod_def]; split <;> omega
  have e2 : (24 * b.toInt + a.toInt).bmod (2 ^ 32) = 24 * b.toInt + a.toInt := by rw [Int.bmod_def]; split <;> omega
  rw [e1, e2]
  omega

theorem dec_k {x y r : Int32} (h : ¬ r < x) (hr : r.toInt ≤ 134217727) (e : y = x + 1) : (134217728 - y.toInt).toNat < (134217728 - x.toInt).toNat := by
  have h1 : x.toInt ≤ r.toInt := by rw [Int32.lt_iff_toInt_lt] at h; omega
  have h3 := x.le_toInt
  have h4 : y.toInt = x.toInt + 1 := by
    rw [e, Int32.toInt_add, show (1 : Int32).toInt = 1 from rfl, Int.bmod_def]
    split <;> omega
  rw [h4]
  omega
theorem big_k (x : Int32) : (134217728 - x.toInt).toNat < BIG := by
  have h2 := x.le_toInt
  unfold BIG; omega
theorem of_ix {a b : Int32} (ha : vp_in a 4) (hb : vp_in b 24) : ((336 + (24 * a)) + b).toNatClampNeg = 336 + 24 * a.toNatClampNeg + b.toNatClampNeg := by
  obtain ⟨i, hi, rfl⟩ := vp_in_of ha (by decide)
  obtain ⟨j, hj, rfl⟩ := vp_in_of hb (by decide)
  rw [show (24 : Int32) = nI 24 from rfl, show (336 : Int32) = nI 336 from rfl, pk_mul, nI_add, nI_add, nI_clamp (by omega), nI_clamp (by omega), nI_clamp (by omega)]
theorem in_of {a b : Int32} (ha : vp_in a 4) (hb : vp_in b 24) : vp_in ((336 + (24 * a)) + b) 480 := by
  obtain ⟨i, hi, rfl⟩ := vp_in_of ha (by decide)
  obtain ⟨j, hj, rfl⟩ := vp_in_of hb (by decide)
  rw [show (24 : Int32) = nI 24 from rfl, show (336 : Int32) = nI 336 from rfl, pk_mul, nI_add, nI_add]
  exact vp_in_nI (by omega) (by decide)
theorem pl_ix {a b : Int32} (ha : vp_in a 4) (hb : vp_in b 8) : ((432 + (8 * a)) + b).toNatClampNeg = 432 + 8 * a.toNatClampNeg + b.toNatClampNeg := by
  obtain ⟨i, hi, rfl⟩ := vp_in_of ha (by decide)
  obtain ⟨j, hj, rfl⟩ := vp_in_of hb (by decide)
  rw [show (8 : Int32) = nI 8 from rfl, show (432 : Int32) = nI 432 from rfl, pk_mul, nI_add, nI_add, nI_clamp (by omega), nI_clamp (by omega), nI_clamp (by omega)]
theorem in_pl {a b : Int32} (ha : vp_in a 4) (hb : vp_in b 8) : vp_in ((432 + (8 * a)) + b) 480 := by
  obtain ⟨i, hi, rfl⟩ := vp_in_of ha (by decide)
  obtain ⟨j, hj, rfl⟩ := vp_in_of hb (by decide)
  rw [show (8 : Int32) = nI 8 from rfl, show (432 : Int32) = nI 432 from rfl, pk_mul, nI_add, nI_add]
  exact vp_in_nI (by omega) (by decide)
theorem in_le {i n : Int32} {N : Nat} (h0 : 0 ≤ i) (h : ¬ n < i) (hn : n.toInt < N) : vp_in i N := vp_in_iff.mpr ⟨by rw [Int32.le_iff_toInt_le] at h0; exact h0, by rw [Int32.lt_iff_toInt_lt] at h; omega⟩
theorem ge0_in {x y : Int32} {N : Nat} (h : vp_in x N) (hN : N < 2147483648) (e : y = x + 1) : 0 ≤ y := by
  have h1 := vp_in_iff.mp h
  rw [Int32.le_iff_toInt_le, inc_in h hN e, show (0 : Int32).toInt = 0 from rfl]
  omega

/-- as Met.ofW (the same walk of its lines), for a method of a class with overridden members, none of them this one -/
theorem met_ofF {l : Launch} {y : MethodName} {ws ws' : List Cond} {rm : Room} {Pc : Array Value → State → Prop} {Qc : Array Value → State → Outcome → State → Prop} {mc ms : Nat} {free : Addr → Prop} {cc : ByteArray} {maxL : Nat} {ret : Option FieldType}
    (hy : plainFor y = true) (hw : ws = Cond.code y cc maxL ret :: ws')
    (body : ∀ p e s m args below meth c s₁, BodyLoose p l y (headSpec ws rm) cc maxL ret e s m args below meth c s₁ → c.maxLocals = maxL → Pc args s →
      W p l e (headSpec ws rm).room s m args below meth c s.heap [] 0 0 (MQ below Qc args s mc ms free) (entryFrame m args maxL)) : Met l y ws rm Pc Qc mc ms free := by
  refine MetFree.of_bodySF (code := cc) (maxLocals := maxL) (ret := ret) hy ?_ ?_
  · intro args s m h hn
    obtain ⟨meth, c, h1, h2, h3, h4, h5, h6, -, -⟩ := Cond.code_spec hn (atoms_spec (ws := ws) h _ (by rw [hw]; exact List.mem_cons_self))
    exact ⟨meth, c, h1, h2, h3, h4, h5, h6⟩
  · intro p e s m args below meth c s₁ B hml hP _
    have hh0 : s₁.heap = s.heap := by rw [B.state]; rfl
    obtain ⟨t, a1, o, b1, b2, b3⟩ := body p e s m args below meth c s₁ B hml hP s₁ hh0 (Stand.of_body B)
    exact ⟨t, o, a1, b1, b2, ⟨b3.1, b3.2⟩⟩
