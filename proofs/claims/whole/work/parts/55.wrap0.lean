/-! THE LAW'S WRAPPERS: what they rest on -/
def NCx (U : State) : Prop := va_Nc xIA xOB U ∧ va_Nc xIS xOB U ∧ va_Nc xIS xIA U ∧ va_Nc xNS xOB U ∧ va_Nc xNS xIA U ∧ va_Nc xAR xOB U ∧ va_Nc xUO xOB U ∧ va_Nc xUO xIA U
theorem NCx.moved {u U : State} (hvm : u.vm.Alike U.vm) (h : NCx u) : NCx U := ⟨va_Nc.moved hvm h.1, va_Nc.moved hvm h.2.1, va_Nc.moved hvm h.2.2.1, va_Nc.moved hvm h.2.2.2.1, va_Nc.moved hvm h.2.2.2.2.1, va_Nc.moved hvm h.2.2.2.2.2.1, va_Nc.moved hvm h.2.2.2.2.2.2.1, va_Nc.moved hvm h.2.2.2.2.2.2.2⟩
abbrev AW1 (B0 : Nat) : Nat → Prop := fun q => AA B0 q ∨ q = B0 + 290
abbrev AW2 (B0 : Nat) : Nat → Prop := fun q => AA B0 q ∨ q = B0 + 291
def Hw0 (D : va_G) (G : CY) (ad : Nat → Nat) (B0 : Nat) (σ : Nat → Nat → Int32) (U : State) : Prop := Hx XEs D G ad B0 σ U ∧ NCx U
def Hw1 (D : va_G) (G : CY) (ad : Nat → Nat) (B0 : Nat) (σ : Nat → Nat → Int32) (cL : ClassId) (f : Nat → Int64) (U : State) : Prop := Hx XEs D G ad B0 σ U ∧ NCx U ∧ va_P D vwCl [(B0+290, .inl (cL, 1, .inr (.inl f)))] U.heap ∧ va_K D vwCl [(cL, .long)] U
def Hw2 (D : va_G) (G : CY) (ad : Nat → Nat) (B0 : Nat) (σ : Nat → Nat → Int32) (cL : ClassId) (f : Nat → UInt64) (U : State) : Prop := Hx XEs D G ad B0 σ U ∧ NCx U ∧ va_P D vwCl [(B0+291, .inl (cL, 1, .inr (.inr (.inr (.inl f)))))] U.heap ∧ va_K D vwCl [(cL, .double)] U
theorem wp_at {ad : Nat → Nat} {G : CY} {σ : Nat → Nat → Int32} {x : Nat × va_E} : (pool G ad σ ++ [x])[290]? = some x := by
  rw [List.getElem?_append_right (by rw [pool_len]; exact Nat.le_refl _), pool_len]; rfl
theorem wp_set {D : va_G} {ad : Nat → Nat} {G : CY} {σ : Nat → Nat → Int32} {x y : Nat × va_E} {H : Heap} (h : va_P D vwCl ((pool G ad σ ++ [x]).set 290 y) H) : va_P D vwCl (pool G ad σ) H ∧ va_P D vwCl [y] H := by
  have e : (pool G ad σ ++ [x]).set 290 y = pool G ad σ ++ [y] := by
    rw [List.set_append_right _ _ (by rw [pool_len]; exact Nat.le_refl _), pool_len]; rfl
  rw [e] at h
  refine ⟨fun k q hk => h k q ?_, fun k q hk => h (290 + k) q ?_⟩
  · rw [List.getElem?_append_left (List.getElem?_eq_some_iff.mp hk).1]; exact hk
  · rw [List.getElem?_append_right (by rw [pool_len]; omega), pool_len, show 290 + k - 290 = k by omega]; exact hk
theorem wp_D {A : Nat → Prop} {ad : Nat → Nat} {G : CY} {σ : Nat → Nat → Int32} {B0 o : Nat} {x : va_E} (hA : adOK B0 ad) (hAA : ∀ q, AA B0 q → A q) (ho : A o) (hne : ∀ q, AA B0 q → q ≠ o) : va_D A (pool G ad σ ++ [(o, x)]) := by
  have hD := pool_D (G := G) (σ := σ) hA
  have hget : ∀ (i : Nat) (q : Nat × va_E), (pool G ad σ ++ [(o, x)])[i]? = some q → (i < 290 ∧ (pool G ad σ)[i]? = some q) ∨ (i = 290 ∧ q = (o, x)) := fun i q h => by
    by_cases hi : i < 290
    · rw [List.getElem?_append_left (by rw [pool_len]; exact hi)] at h
      exact Or.inl ⟨hi, h⟩
    · rw [List.getElem?_append_right (by rw [pool_len]; omega), pool_len] at h
      have hz : i - 290 < 1 := (List.getElem?_eq_some_iff.mp h).1
      rw [show i - 290 = 0 by omega] at h
      exact Or.inr ⟨by omega, (Option.some.inj h).symm⟩
  refine ⟨fun i j p q hi hj he => ?_, fun k q hk => ?_⟩
  · rcases hget i p hi with ⟨a1, a2⟩ | ⟨a1, a2⟩
    · rcases hget j q hj with ⟨b1, b2⟩ | ⟨b1, b2⟩
      · exact hD.1 i j p q a2 b2 he
      · exfalso
        rw [b2] at he
        exact hne _ (hD.2 i p a2) he
    · rcases hget j q hj with ⟨b1, b2⟩ | ⟨b1, b2⟩
      · exfalso
        rw [a2] at he
        exact hne _ (hD.2 j q b2) he.symm
      · omega
  · rcases hget k q hk with ⟨a1, a2⟩ | ⟨a1, a2⟩
    · exact hAA _ (hD.2 k q a2)
    · rw [a2]; exact ho
theorem wp_D1 {ad : Nat → Nat} {G : CY} {σ : Nat → Nat → Int32} {B0 : Nat} {x : va_E} (hA : adOK B0 ad) : va_D (AW1 B0) (pool G ad σ ++ [(B0+290, x)]) := wp_D hA (fun _ h => Or.inl h) (Or.inr rfl) (fun _ h => h.2.1)
theorem wp_D2 {ad : Nat → Nat} {G : CY} {σ : Nat → Nat → Int32} {B0 : Nat} {x : va_E} (hA : adOK B0 ad) : va_D (AW2 B0) (pool G ad σ ++ [(B0+291, x)]) := wp_D hA (fun _ h => Or.inl h) (Or.inr rfl) (fun _ h => h.2.2)
theorem wo_out1 {B0 k : Nat} {q : Nat × va_E} {x : va_E} (h : ([(B0+290, x)] : va_W)[k]? = some q) : ¬ AA B0 q.1 := by
  have hz : k < 1 := (List.getElem?_eq_some_iff.mp h).1
  rw [show k = 0 by omega] at h
  cases h
  exact fun z => z.2.1 rfl
theorem wo_out2 {B0 k : Nat} {q : Nat × va_E} {x : va_E} (h : ([(B0+291, x)] : va_W)[k]? = some q) : ¬ AA B0 q.1 := by
  have hz : k < 1 := (List.getElem?_eq_some_iff.mp h).1
  rw [show k = 0 by omega] at h
  cases h
  exact fun z => z.2.2 rfl
set_option maxHeartbeats 4000000 in
set_option maxRecDepth 100000 in
theorem cL_tick_met (l : Launch) (hl0 : l.stackTraces = false) {D : va_G} {G : CY} {ad : Nat → Nat} {B0 : Nat} (hA : adOK B0 ad) (σ : Nat → Nat → Int32) (a : Int32) (cL : ClassId) (f : Nat → Int64) (hO : okS σ) (hE : ∀ E z, ((Sum.inr E, z) : RT) = f6_tick σ a → ∃ n, (cd1 xIA) E n) : vx_Met l yL_tick wsL_tick { frames := 8, cells := 1, slots := 6, locals := 195 } (va_Pc [.ref (ad (270)), .int a, .ref (B0+290)] (Hw1 D G ad B0 σ cL f)) (va_Qi (fun (r : Int32) (z : ((Nat → Nat → Int32) × (Nat → Int64))) => okS z.1 ∧ ((∃ v, ((Sum.inl v, z.1) : RT) = f6_tick σ a ∧ r = 0 ∧ z.2 0 = v.toInt64) ∨ (∃ E, ((Sum.inr E, z.1) : RT) = f6_tick σ a ∧ (cd1 xIA) E r))) (fun z t => Ho D G ad z.1 t ∧ va_P D vwCl [(B0+290, .inl (cL, 1, .inr (.inl z.2)))] t.heap) (AW1 B0)) (vx_X (fun (_ : Unit) => False) (fun _ _ _ => True) (AW1 B0)) 1 6 (AW1 B0) := by
  refine vx_ofWH (cc := cL_tick) (maxL := 4) (ret := (some .int)) (hh := [(0, 9, 12, 15)]) (by decide) rfl ?_
  intro p e s m args below meth c s₁ B hml hv
  obtain ⟨rfl, ⟨⟨hP, hK, hN⟩, hT, hL, adK, adV, hG, hR⟩, hNc, hPo, hKo⟩ := hv
  have hx := B.exec
  have hb := B.bytes
  have hr := B.returns
  have hts := atoms_spec (ws := wsL_tick) B.pre
  have hown : s.vm.findClass RL = some m.cls := findClass_of_methodNamed B.named
  have hlocks := B.notSynchronized
  have htab : c.exceptionTable.toList = tableOf [(0, 9, 12, 15)] := vx_table (x := yL_tick) B (hts _ List.mem_cons_self)
  have hP : va_P D vwCl (pool G ad σ) s.heap := hP
  have hS : va_S (AW1 B0) s.heap s.heap [] := va_S.rf
  have hl := lv_entry ([.ref (ad (270)), .int a, .ref (B0+290)]) (n := 4) (Nat.le_of_ble_eq_true rfl)
  rw [lg_entry_eq]
  generalize (lg_sl ([.ref (ad (270)), .int a, .ref (B0+290)]) ++ List.replicate (4 - (lg_sl ([.ref (ad (270)), .int a, .ref (B0+290)])).length) Slot.unset).toArray = ls at hl ⊢
  have hl : lv_has ls 4 [(0, .ref (ad (270))), (1, .int a), (2, .ref (B0+290))] := hl
  refine lv_aload_n hx hb dL_tick_0 rfl (lv_at hl 2 rfl) ?_
  refine lv_iconst (v := 0) hx hb dL_tick_1 (by decide) ?_
  refine lv_aload_n hx hb dL_tick_2 rfl (lv_at hl 0 rfl) ?_
  refine lv_iload_n hx hb dL_tick_3 rfl (lv_at hl 1 rfl) ?_
  refine vx_calli (vx_runV (As := [.int a]) (rest := [.int 0, .ref (B0+290)]) ⟨hx, hb, hml, hown, hts⟩ (c6_tick l hl0 hA σ a hO) (cwV 1 hts gL_tick_X6_tick rfl rfl rfl hd_X6_tickV ⟨(Nat.le_of_ble_eq_true rfl), (Nat.le_of_ble_eq_true rfl)⟩) ⟨hx_blind, va_recv hK hP (ci := 8) (q0 := 270) rfl g_270, hx_pre hK hN hT hL hG hR va_S.rf hP⟩ rfl rfl hl.1 rfl (lv_room (Nat.le_of_ble_eq_true rfl)) dL_tick_4 ⟨(Nat.le_of_ble_eq_true rfl), (Nat.le_of_ble_eq_true rfl)⟩) hS (fun q _ h => Or.inl h) (fun q h => Or.inl h) (fun q _ h => Or.inl h) (fun E9 ce9 q9 z9 t9 H locs ht9 hvm9 hw9 hB9 hz9 hk9 hS hce9 hcv9 hcl9 => ?_) (fun v9 σ9 t H locs ht hvm hw9 hB hz1 hk1 hS => ?_)
  · obtain ⟨eqx, okx⟩ := hw9
    obtain ⟨rfl, hBx⟩ := hB9
    have hP := ho_at ht9 hBx
    have hPo := hPo.kept (fun k q hk => hk9 q.1 (vx_lt hPo hk) (wo_out1 hk))
    obtain ⟨n9, hn9⟩ := hE _ _ eqx
    obtain ⟨h1, h2⟩ := hn9
    rw [h1] at hcl9
    refine vx_catch (own := RL) (name := xIA) hown (tableOf []) ⟨0, 9, 12, 15⟩ (tableOf []) htab (fun z hz => nomatch hz) rfl (by decide) (hts (.classLink RL 15 "java/lang/IllegalArgumentException") (List.mem_of_getElem? (i := 1) rfl)) ((hL.2.1 xIA (by decide)).use rfl) hce9 hcv9 hcl9 ?_
    refine lv_astore_n (lv' := [(3, .ref q9), (0, .ref (ad (270))), (1, .int a), (2, .ref (B0+290))]) hx hb dL_tick_12 rfl hl (by decide) rfl (fun ls hl => ?_)
    refine lv_iconst (v := 1) hx hb dL_tick_13 (by decide) ?_
    exact vx_ret (W.widen (Nat.le_of_ble_eq_true rfl) (Nat.le_of_ble_eq_true rfl) (W.iret (v := 1) hx hb hr (fun t ht hW => ⟨⟨1, (z9.2, f), rfl, ⟨okx, Or.inr ⟨z9.1, eqx, ⟨h1, rfl⟩⟩⟩, ⟨ho_of ht hP, by rw [ht]; exact hPo⟩⟩, hS.F ht⟩) hS.2.2 dL_tick_14))
  · obtain ⟨eq9, ok9⟩ := hw9
    have hP := ho_at ht hB
    have hPo := hPo.kept (fun k q hk => hk1 q.1 (vx_lt hPo hk) (wo_out1 hk))
    refine lv_i2l (v := v9.toInt64) hx hb dL_tick_7 rfl ?_
    refine va_last (tys := [(cL, .long)]) hx hb hKo (va_P.app hP hPo) (wp_D1 hA) hS 290 0 (wp_at (ad := ad) (G := G)) rfl (vp_in_iff.mpr (by decide)) dL_tick_8 (fun H locs hP _ hS => ?_)
    obtain ⟨hP, hPo⟩ := wp_set hP
    refine lv_goto (tgt := 15) hx hb dL_tick_9 (by decide) ?_
    obtain ⟨f9, ef9⟩ : ∃ z, z = vp_updL f (0 : Int32).toNatClampNeg v9.toInt64 := ⟨_, rfl⟩
    rw [← ef9] at hPo
    have hf9 : f9 0 = v9.toInt64 := by rw [ef9]; rfl
    refine lv_iconst (v := 0) hx hb dL_tick_15 (by decide) ?_
    exact vx_ret (W.widen (Nat.le_of_ble_eq_true rfl) (Nat.le_of_ble_eq_true rfl) (W.iret (v := 0) hx hb hr (fun t ht hW => ⟨⟨0, (σ9, f9), rfl, ⟨ok9, Or.inl ⟨v9, eq9, rfl, hf9⟩⟩, ⟨ho_of ht hP, by rw [ht]; exact hPo⟩⟩, hS.F ht⟩) hS.2.2 dL_tick_16))
