/-! THE LAW: what its cases rest on -/
def LI (D : va_G) (G : CY) (B0 : Nat) (cL cD : ClassId) (K : Int) (σ : Nat → Nat → Int32) (f : Nat → Int64) (g : Nat → UInt64) (H : Heap) : Prop := va_P D vwCl (pool G (adH B0) σ) H ∧ va_P D vwCl [(B0+290, .inl (cL, 1, .inr (.inl f)))] H ∧ va_P D vwCl [(B0+291, .inl (cD, 1, .inr (.inr (.inr (.inl g)))))] H ∧ Top K σ (σ 16) ∧ okS σ
def LA (D : va_G) (G : CY) (B0 : Nat) (cL cD : ClassId) (b L : Nat) (xs : Nat → Int32) (s : State) : Prop := va_K D vwCl (tysG G) s ∧ NW s ∧ HT B0 s s.heap ∧ HW XEs s ∧ (∃ adK adV : Nat → Nat, HG adK adV B0 s s.heap ∧ HR adK s) ∧ NCx s ∧ va_K D vwCl [(cL, .long)] s ∧ va_K D vwCl [(cD, .double)] s ∧ va_X b L xs s s.heap ∧ b < s.heap.size ∧ s.heap.size = B0
theorem aa_ac {B0 q : Nat} (h : AA B0 q) : AC B0 q := h.1
theorem aw1_ac {B0 q : Nat} (h : AW1 B0 q) : AC B0 q := by
  rcases h with h | h
  · exact h.1
  · show B0 ≤ q; omega
theorem aw2_ac {B0 q : Nat} (h : AW2 B0 q) : AC B0 q := by
  rcases h with h | h
  · exact h.1
  · show B0 ≤ q; omega
theorem wo_o21 {B0 k : Nat} {q : Nat × va_E} {x : va_E} (h : ([(B0+291, x)] : va_W)[k]? = some q) : ¬ AW1 B0 q.1 := by
  have hz : k < 1 := (List.getElem?_eq_some_iff.mp h).1
  rw [show k = 0 by omega] at h
  cases h
  intro z
  rcases z with z | z
  · exact z.2.2 rfl
  · have z : B0 + 291 = B0 + 290 := z
    omega
theorem wo_o12 {B0 k : Nat} {q : Nat × va_E} {x : va_E} (h : ([(B0+290, x)] : va_W)[k]? = some q) : ¬ AW2 B0 q.1 := by
  have hz : k < 1 := (List.getElem?_eq_some_iff.mp h).1
  rw [show k = 0 by omega] at h
  cases h
  intro z
  rcases z with z | z
  · exact z.2.1 rfl
  · have z : B0 + 290 = B0 + 291 := z
    omega
theorem in_scr {i L : Nat} {k : Int32} (hi : i + 7 ≤ L) (hL : L ≤ 3584) (hk : 0 ≤ k.toInt ∧ k.toInt ≤ 6) : vp_in (nI i + k) L := by
  have e : (nI i + k).toInt = (nI i).toInt + k.toInt := ti_add (by rw [nI_toInt (by omega)]; omega) (by rw [nI_toInt (by omega)]; omega)
  exact vp_in_iff.mpr ⟨by rw [e, nI_toInt (by omega)]; omega, by rw [e, nI_toInt (by omega)]; omega⟩
theorem ls_AA {B0 : Nat} {s : State} {H : Heap} {locs : List Loc} (hs : s.heap.size = B0) (hS : va_S (AC B0) s.heap H locs) : va_S (AA B0) s.heap H [] := ⟨hS.1, fun q h1 _ => hS.2.1 q h1 (fun z => by have z : B0 ≤ q := z; omega), fun _ h => nomatch h⟩
section
variable {D : va_G} {G : CY} {ad : Nat → Nat} {B0 : Nat} {σ : Nat → Nat → Int32} {av : List Value} {s : State} {H : Heap} {locs : List Loc} {cL : ClassId} {adK adV : Nat → Nat}
theorem hw0_blind : FrameBlind (va_Pc av (Hw0 D G ad B0 σ)) := fun a U g mk q => by
  obtain ⟨q0, qH, qN⟩ := q
  exact ⟨q0, (hx_blind (av := av) a U g mk ⟨q0, qH⟩).2, NCx.moved (u := U) (U := U.calling g mk a) (Vm.Alike.refl U.vm) qN⟩
theorem hw1_blind {f : Nat → Int64} : FrameBlind (va_Pc av (Hw1 D G ad B0 σ cL f)) := fun a U g mk q => by
  obtain ⟨q0, qH, qN, qP, qK⟩ := q
  exact ⟨q0, (hx_blind (av := av) a U g mk ⟨q0, qH⟩).2, NCx.moved (u := U) (U := U.calling g mk a) (Vm.Alike.refl U.vm) qN, qP, va_K.moved (u := U) (U := U.calling g mk a) (Vm.Alike.refl U.vm) qK⟩
theorem hw2_blind {f : Nat → UInt64} : FrameBlind (va_Pc av (Hw2 D G ad B0 σ cL f)) := fun a U g mk q => by
  obtain ⟨q0, qH, qN, qP, qK⟩ := q
  exact ⟨q0, (hx_blind (av := av) a U g mk ⟨q0, qH⟩).2, NCx.moved (u := U) (U := U.calling g mk a) (Vm.Alike.refl U.vm) qN, qP, va_K.moved (u := U) (U := U.calling g mk a) (Vm.Alike.refl U.vm) qK⟩
theorem hw0_pre (hK : va_K D vwCl (tysG G) s) (hN : NW s) (hT : HT B0 s s.heap) (hL : HW XEs s) (hG : HG adK adV B0 s s.heap) (hR : HR adK s) (hNc : NCx s) (hsz : s.heap.size = B0) (hS : va_S (AC B0) s.heap H locs) (hP : va_P D vwCl (pool G ad σ) H) : ∀ U : State, U.heap = H → s.WarmedH U.vm → va_Pc av (Hw0 D G ad B0 σ) av.toArray U := fun U hU hW => ⟨rfl, (hx_pre (av := av) hK hN hT hL hG hR (ls_AA hsz hS) hP U hU hW).2, NCx.moved hW.alike hNc⟩
theorem hw1_pre {f : Nat → Int64} (hK : va_K D vwCl (tysG G) s) (hN : NW s) (hT : HT B0 s s.heap) (hL : HW XEs s) (hG : HG adK adV B0 s s.heap) (hR : HR adK s) (hNc : NCx s) (hsz : s.heap.size = B0) (hS : va_S (AC B0) s.heap H locs) (hP : va_P D vwCl (pool G ad σ) H) (hPo : va_P D vwCl [(B0+290, .inl (cL, 1, .inr (.inl f)))] H) (hKo : va_K D vwCl [(cL, .long)] s) : ∀ U : State, U.heap = H → s.WarmedH U.vm → va_Pc av (Hw1 D G ad B0 σ cL f) av.toArray U := fun U hU hW => ⟨rfl, (hx_pre (av := av) hK hN hT hL hG hR (ls_AA hsz hS) hP U hU hW).2, NCx.moved hW.alike hNc, by rw [hU]; exact hPo, va_K.moved hW.alike hKo⟩
theorem hw2_pre {f : Nat → UInt64} (hK : va_K D vwCl (tysG G) s) (hN : NW s) (hT : HT B0 s s.heap) (hL : HW XEs s) (hG : HG adK adV B0 s s.heap) (hR : HR adK s) (hNc : NCx s) (hsz : s.heap.size = B0) (hS : va_S (AC B0) s.heap H locs) (hP : va_P D vwCl (pool G ad σ) H) (hPo : va_P D vwCl [(B0+291, .inl (cL, 1, .inr (.inr (.inr (.inl f)))))] H) (hKo : va_K D vwCl [(cL, .double)] s) : ∀ U : State, U.heap = H → s.WarmedH U.vm → va_Pc av (Hw2 D G ad B0 σ cL f) av.toArray U := fun U hU hW => ⟨rfl, (hx_pre (av := av) hK hN hT hL hG hR (ls_AA hsz hS) hP U hU hW).2, NCx.moved hW.alike hNc, by rw [hU]; exact hPo, va_K.moved hW.alike hKo⟩
end
theorem PM.hE {cd : String → Int32 → Prop} {K : Int} {σ : Nat → Nat → Int32} {F : RT} {q : Int32 × (Nat → Int32)} (h : PM cd K σ F q) : ∀ E z, ((Sum.inr E, z) : RT) = F → ∃ n, cd E n := fun E z e => by subst e; exact ⟨_, h.1⟩
theorem PMf.hE {cd : String → Int32 → Prop} {K : Int} {σ : Nat → Nat → Int32} {F : RTF} {q : UInt32 × (Nat → Int32)} (h : PMf cd K σ F q) : ∀ E z, ((Sum.inr E, z) : RTF) = F → ∃ n, cd E n := fun E z e => by subst e; exact ⟨_, h.1⟩
theorem PMf.hF {cd : String → Int32 → Prop} {K : Int} {σ : Nat → Nat → Int32} {F : RTF} {q : UInt32 × (Nat → Int32)} (h : PMf cd K σ F q) : ∀ v z, ((Sum.inl v, z) : RTF) = F → v.toNat % 2147483648 ≤ 2139095040 := fun v z e => by subst e; exact h.1.2.2
/-- codes tell one exception from another, and none is 0 -/
def cdI (cd : String → Int32 → Prop) : Prop := (∀ E n n2, cd E n → cd E n2 → n = n2) ∧ ∀ E, ¬ cd E 0
theorem cd1_i {a : String} : cdI (cd1 a) := ⟨fun E n n2 h1 h2 => h1.2.trans h2.2.symm, fun E h => absurd h.2 (by decide)⟩
theorem cd2_i {a b : String} (h : a ≠ b) : cdI (cd2 a b) := by
  refine ⟨fun E n n2 h1 h2 => ?_, fun E h1 => ?_⟩
  · rcases h1 with h1 | h1 <;> rcases h2 with h2 | h2
    · exact h1.2.trans h2.2.symm
    · exact absurd (h1.1.symm.trans h2.1) h
    · exact absurd (h2.1.symm.trans h1.1) h
    · exact h1.2.trans h2.2.symm
  · rcases h1 with h1 | h1 <;> exact absurd h1.2 (by decide)
theorem cd3_i {a b c : String} (h : a ≠ b) (h' : a ≠ c) (h'' : b ≠ c) : cdI (cd3 a b c) := by
  refine ⟨fun E n n2 h1 h2 => ?_, fun E h1 => ?_⟩
  · rcases h1 with h1 | h1 | h1 <;> rcases h2 with h2 | h2 | h2
    · exact h1.2.trans h2.2.symm
    · exact absurd (h1.1.symm.trans h2.1) h
    · exact absurd (h1.1.symm.trans h2.1) h'
    · exact absurd (h2.1.symm.trans h1.1) h
    · exact h1.2.trans h2.2.symm
    · exact absurd (h1.1.symm.trans h2.1) h''
    · exact absurd (h2.1.symm.trans h1.1) h'
    · exact absurd (h2.1.symm.trans h1.1) h''
    · exact h1.2.trans h2.2.symm
  · rcases h1 with h1 | h1 | h1 <;> exact absurd h1.2 (by decide)
theorem ls_of {cd : String → Int32 → Prop} {K : Int} {σ σ1 : Nat → Nat → Int32} {F : RT} {q : Int32 × (Nat → Int32)} {r : Int32} {P : Int32 → Prop} (h : PM cd K σ F q) (hc : cdI cd) (hw : (∃ v, ((Sum.inl v, σ1) : RT) = F ∧ r = 0 ∧ P v) ∨ (∃ E, ((Sum.inr E, σ1) : RT) = F ∧ cd E r)) : Top K σ1 q.2 ∧ σ1 16 = σ 16 ∧ q.2 490 = r ∧ (r = 0 → ∃ v, P v ∧ v = q.1) := by
  rcases hw with ⟨v, rfl, h1, h2⟩ | ⟨E, rfl, h1⟩
  · exact ⟨h.2.1, h.2.2, h.1.1.trans h1.symm, fun _ => ⟨v, h2, h.1.2⟩⟩
  · exact ⟨h.2.1, h.2.2, hc.1 E _ _ h.1 h1, fun e => absurd (e ▸ h1) (hc.2 E)⟩
theorem lsf_of {cd : String → Int32 → Prop} {K : Int} {σ σ1 : Nat → Nat → Int32} {F : RTF} {q : UInt32 × (Nat → Int32)} {r : Int32} {P : UInt32 → Prop} (h : PMf cd K σ F q) (hc : cdI cd) (hw : (∃ v, ((Sum.inl v, σ1) : RTF) = F ∧ r = 0 ∧ P v) ∨ (∃ E, ((Sum.inr E, σ1) : RTF) = F ∧ cd E r)) : Top K σ1 q.2 ∧ σ1 16 = σ 16 ∧ q.2 490 = r ∧ (r = 0 → ∃ v, (P v ∧ v.toNat % 2147483648 ≤ 2139095040) ∧ v = q.1) := by
  rcases hw with ⟨v, rfl, h1, h2⟩ | ⟨E, rfl, h1⟩
  · exact ⟨h.2.1, h.2.2, h.1.1.trans h1.symm, fun _ => ⟨v, ⟨h2, h.1.2.2⟩, h.1.2.1⟩⟩
  · exact ⟨h.2.1, h.2.2, hc.1 E _ _ h.1 h1, fun e => absurd (e ▸ h1) (hc.2 E)⟩
theorem top_16 {K : Int} {σ : Nat → Nat → Int32} {m : Nat → Int32} (h : Top K σ m) : Top K (va_up σ 16 m) (va_up σ 16 m 16) := by
  rw [va_up_self]
  exact h.cg (fun w hw t _ => by rw [va_up_ne _ _ (by omega)]) (fun t _ => by rw [va_up_ne _ _ (by decide)]) (fun _ _ => rfl)
theorem okS_16 {σ : Nat → Nat → Int32} {m : Nat → Int32} (h : okS σ) (hm : okM m) : okS (va_up σ 16 m) := by
  refine ⟨fun w hw => ?_, ?_, ?_⟩
  · rw [va_up_ne _ _ (by omega)]; exact h.1 w hw
  · rw [va_up_ne _ _ (by decide)]; exact h.2.1
  · rw [va_up_self]; exact hm
theorem lg_cmp_self (x : Int64) : lg_cmp x x = 0 := by simp [lg_cmp]
theorem hd_L_setTileS : yL_setTile.cls ≠ "java/lang/invoke/MethodHandle" ∧ yL_setTile.cls ≠ "java/lang/invoke/VarHandle" ∧ (parseMethodDescriptor yL_setTile.desc).map (fun d => d.parameters.length) = some 5 := by decide +kernel
theorem hd_L_tileS : yL_tile.cls ≠ "java/lang/invoke/MethodHandle" ∧ yL_tile.cls ≠ "java/lang/invoke/VarHandle" ∧ (parseMethodDescriptor yL_tile.desc).map (fun d => d.parameters.length) = some 4 := by decide +kernel
theorem hd_L_addBodyS : yL_addBody.cls ≠ "java/lang/invoke/MethodHandle" ∧ yL_addBody.cls ≠ "java/lang/invoke/VarHandle" ∧ (parseMethodDescriptor yL_addBody.desc).map (fun d => d.parameters.length) = some 6 := by decide +kernel
theorem hd_L_removeBodyS : yL_removeBody.cls ≠ "java/lang/invoke/MethodHandle" ∧ yL_removeBody.cls ≠ "java/lang/invoke/VarHandle" ∧ (parseMethodDescriptor yL_removeBody.desc).map (fun d => d.parameters.length) = some 3 := by decide +kernel
theorem hd_L_bodyS : yL_body.cls ≠ "java/lang/invoke/MethodHandle" ∧ yL_body.cls ≠ "java/lang/invoke/VarHandle" ∧ (parseMethodDescriptor yL_body.desc).map (fun d => d.parameters.length) = some 4 := by decide +kernel
theorem hd_L_pressS : yL_press.cls ≠ "java/lang/invoke/MethodHandle" ∧ yL_press.cls ≠ "java/lang/invoke/VarHandle" ∧ (parseMethodDescriptor yL_press.desc).map (fun d => d.parameters.length) = some 4 := by decide +kernel
theorem hd_L_pushS : yL_push.cls ≠ "java/lang/invoke/MethodHandle" ∧ yL_push.cls ≠ "java/lang/invoke/VarHandle" ∧ (parseMethodDescriptor yL_push.desc).map (fun d => d.parameters.length) = some 5 := by decide +kernel
theorem hd_L_addPlatformS : yL_addPlatform.cls ≠ "java/lang/invoke/MethodHandle" ∧ yL_addPlatform.cls ≠ "java/lang/invoke/VarHandle" ∧ (parseMethodDescriptor yL_addPlatform.desc).map (fun d => d.parameters.length) = some 8 := by decide +kernel
theorem hd_L_removePlatformS : yL_removePlatform.cls ≠ "java/lang/invoke/MethodHandle" ∧ yL_removePlatform.cls ≠ "java/lang/invoke/VarHandle" ∧ (parseMethodDescriptor yL_removePlatform.desc).map (fun d => d.parameters.length) = some 3 := by decide +kernel
theorem hd_L_platformS : yL_platform.cls ≠ "java/lang/invoke/MethodHandle" ∧ yL_platform.cls ≠ "java/lang/invoke/VarHandle" ∧ (parseMethodDescriptor yL_platform.desc).map (fun d => d.parameters.length) = some 4 := by decide +kernel
theorem hd_L_countS : yL_count.cls ≠ "java/lang/invoke/MethodHandle" ∧ yL_count.cls ≠ "java/lang/invoke/VarHandle" ∧ (parseMethodDescriptor yL_count.desc).map (fun d => d.parameters.length) = some 3 := by decide +kernel
theorem hd_L_setS : yL_set.cls ≠ "java/lang/invoke/MethodHandle" ∧ yL_set.cls ≠ "java/lang/invoke/VarHandle" ∧ (parseMethodDescriptor yL_set.desc).map (fun d => d.parameters.length) = some 4 := by decide +kernel
theorem hd_L_tickS : yL_tick.cls ≠ "java/lang/invoke/MethodHandle" ∧ yL_tick.cls ≠ "java/lang/invoke/VarHandle" ∧ (parseMethodDescriptor yL_tick.desc).map (fun d => d.parameters.length) = some 3 := by decide +kernel
theorem hd_L_tickUntilStandingS : yL_tickUntilStanding.cls ≠ "java/lang/invoke/MethodHandle" ∧ yL_tickUntilStanding.cls ≠ "java/lang/invoke/VarHandle" ∧ (parseMethodDescriptor yL_tickUntilStanding.desc).map (fun d => d.parameters.length) = some 4 := by decide +kernel
theorem hd_L_undoS : yL_undo.cls ≠ "java/lang/invoke/MethodHandle" ∧ yL_undo.cls ≠ "java/lang/invoke/VarHandle" ∧ (parseMethodDescriptor yL_undo.desc).map (fun d => d.parameters.length) = some 2 := by decide +kernel
theorem hd_L_supportS : yL_support.cls ≠ "java/lang/invoke/MethodHandle" ∧ yL_support.cls ≠ "java/lang/invoke/VarHandle" ∧ (parseMethodDescriptor yL_support.desc).map (fun d => d.parameters.length) = some 3 := by decide +kernel
theorem hd_L_standsS : yL_stands.cls ≠ "java/lang/invoke/MethodHandle" ∧ yL_stands.cls ≠ "java/lang/invoke/VarHandle" ∧ (parseMethodDescriptor yL_stands.desc).map (fun d => d.parameters.length) = some 3 := by decide +kernel
theorem hd_L_belowS : yL_below.cls ≠ "java/lang/invoke/MethodHandle" ∧ yL_below.cls ≠ "java/lang/invoke/VarHandle" ∧ (parseMethodDescriptor yL_below.desc).map (fun d => d.parameters.length) = some 3 := by decide +kernel
theorem hd_L_isBlockedS : yL_isBlocked.cls ≠ "java/lang/invoke/MethodHandle" ∧ yL_isBlocked.cls ≠ "java/lang/invoke/VarHandle" ∧ (parseMethodDescriptor yL_isBlocked.desc).map (fun d => d.parameters.length) = some 5 := by decide +kernel
theorem hd_L_clearanceS : yL_clearance.cls ≠ "java/lang/invoke/MethodHandle" ∧ yL_clearance.cls ≠ "java/lang/invoke/VarHandle" ∧ (parseMethodDescriptor yL_clearance.desc).map (fun d => d.parameters.length) = some 4 := by decide +kernel
theorem hd_L_dropS : yL_drop.cls ≠ "java/lang/invoke/MethodHandle" ∧ yL_drop.cls ≠ "java/lang/invoke/VarHandle" ∧ (parseMethodDescriptor yL_drop.desc).map (fun d => d.parameters.length) = some 3 := by decide +kernel
theorem hd_L_lookS : yL_look.cls ≠ "java/lang/invoke/MethodHandle" ∧ yL_look.cls ≠ "java/lang/invoke/VarHandle" ∧ (parseMethodDescriptor yL_look.desc).map (fun d => d.parameters.length) = some 4 := by decide +kernel
theorem hd_L_rayS : yL_ray.cls ≠ "java/lang/invoke/MethodHandle" ∧ yL_ray.cls ≠ "java/lang/invoke/VarHandle" ∧ (parseMethodDescriptor yL_ray.desc).map (fun d => d.parameters.length) = some 5 := by decide +kernel
theorem hd_L_predictS : yL_predict.cls ≠ "java/lang/invoke/MethodHandle" ∧ yL_predict.cls ≠ "java/lang/invoke/VarHandle" ∧ (parseMethodDescriptor yL_predict.desc).map (fun d => d.parameters.length) = some 6 := by decide +kernel
theorem hd_L_apexS : yL_apex.cls ≠ "java/lang/invoke/MethodHandle" ∧ yL_apex.cls ≠ "java/lang/invoke/VarHandle" ∧ (parseMethodDescriptor yL_apex.desc).map (fun d => d.parameters.length) = some 5 := by decide +kernel
theorem hd_L_statisticS : yL_statistic.cls ≠ "java/lang/invoke/MethodHandle" ∧ yL_statistic.cls ≠ "java/lang/invoke/VarHandle" ∧ (parseMethodDescriptor yL_statistic.desc).map (fun d => d.parameters.length) = some 4 := by decide +kernel
theorem hd_L_meanMovesS : yL_meanMoves.cls ≠ "java/lang/invoke/MethodHandle" ∧ yL_meanMoves.cls ≠ "java/lang/invoke/VarHandle" ∧ (parseMethodDescriptor yL_meanMoves.desc).map (fun d => d.parameters.length) = some 3 := by decide +kernel
theorem hd_L_appendS : yL_append.cls ≠ "java/lang/invoke/MethodHandle" ∧ yL_append.cls ≠ "java/lang/invoke/VarHandle" ∧ (parseMethodDescriptor yL_append.desc).map (fun d => d.parameters.length) = some 2 := by decide +kernel
theorem hd_L_readTilesS : yL_readTiles.cls ≠ "java/lang/invoke/MethodHandle" ∧ yL_readTiles.cls ≠ "java/lang/invoke/VarHandle" ∧ (parseMethodDescriptor yL_readTiles.desc).map (fun d => d.parameters.length) = some 4 := by decide +kernel
theorem hd_L_playS : yL_play.cls ≠ "java/lang/invoke/MethodHandle" ∧ yL_play.cls ≠ "java/lang/invoke/VarHandle" ∧ (parseMethodDescriptor yL_play.desc).map (fun d => d.parameters.length) = some 3 := by decide +kernel
theorem hd_L_restoreS : yL_restore.cls ≠ "java/lang/invoke/MethodHandle" ∧ yL_restore.cls ≠ "java/lang/invoke/VarHandle" ∧ (parseMethodDescriptor yL_restore.desc).map (fun d => d.parameters.length) = some 1 := by decide +kernel
set_option maxHeartbeats 2000000 in
set_option maxRecDepth 100000 in
theorem law_12 {p : Program} {l : Launch} {e : Env} {R : Room} {s : State} {m : MethodId} {args : Array Value} {below : List Frame} {meth : Method} {c : Code} {Q : State → Prop} (hl0 : l.stackTraces = false) {D : va_G} {G : CY} {B0 b L i cells slots : Nat} {xs : Nat → Int32} {cL cD : ClassId} {K : Int} {σ : Nat → Nat → Int32} {f : Nat → Int64} {g : Nat → UInt64} {H : Heap} {locs : List Loc} {ls : Array Slot}
    (hx : p.tables.exec = Jvm.exec) (hb : c.code = code) (hml : c.maxLocals = 8) (hown : s.vm.findClass RL = some m.cls) (hts : ∀ w ∈ lw_tbl, w.before args s = true) (hLA : LA D G B0 cL cD b L xs s) (hLI : LI D G B0 cL cD K σ f g H) (hS : va_S (AC B0) s.heap H locs) (hl : lv_has ls 8 [(5, .int (nI i)), (4, .ref (B0+291)), (3, .ref (B0+290)), (2, .ref (adH B0 279)), (1, .ref (adH B0 270)), (0, .ref b)]) (hi : i + 7 ≤ L) (hL : L ≤ 3584) (hK8 : K ≤ 800000000) (hfr : 20 ≤ R.frames) (hlo : 400 ≤ R.locals) (hce : cells + 4 ≤ R.cells) (hsl : slots + 24 ≤ R.slots)
    (cont : ∀ (σ2 : Nat → Nat → Int32) (f2 : Nat → Int64) (g2 : Nat → UInt64) (H2 : Heap) (locs2 : List Loc) (ls2 : Array Slot), LI D G B0 cL cD (K+500000) σ2 f2 g2 H2 → va_S (AC B0) s.heap H2 locs2 → lv_has ls2 8 [(5, .int (nI i)), (4, .ref (B0+291)), (3, .ref (B0+290)), (2, .ref (adH B0 279)), (1, .ref (adH B0 270)), (0, .ref b)] → W p l e R s m args below meth c H2 locs2 (cells + 4) (slots + 24) Q (F0 m 2317 ls2 [])) : W p l e R s m args below meth c H locs cells slots Q (F0 m 1074 ls []) := by
  obtain ⟨hK, hN, hT, hLw, ⟨adK, adV, hG, hR⟩, hNc, hKo, hKd, hX, hbl, hsz⟩ := id hLA
  obtain ⟨hP, hPo, hPd, hTop, hO⟩ := hLI
  have hA := adH_ok B0
  have hbA : ¬ AC B0 b := fun z => by have z : B0 ≤ b := z; omega
  refine lv_aload_n hx hb dL_law_1074 rfl (lv_at hl 4 rfl) ?_
  refine lv_aload_n hx hb dL_law_1075 rfl (lv_at hl 5 rfl) ?_
  refine lv_iload hx hb dL_law_1076 (lv_at hl 0 rfl) ?_
  refine lv_iconst (v := 1) hx hb dL_law_1078 (by decide) ?_
  refine lv_iadd hx hb dL_law_1079 ?_
  refine va_sld hx hb hX hbl hbA hS (in_scr hi hL (k := 1) (by decide)) dL_law_1080 ?_
  refine lv_aload_n hx hb dL_law_1081 rfl (lv_at hl 2 rfl) ?_
  have hPM := t_tick (a := (xs (nI i + 1).toNatClampNeg)) hTop (by omega)
  refine vx_calli (vx_runSX (As := [.ref (adH B0 270), .int (xs (nI i + 1).toNatClampNeg), .ref (B0+290)]) (rest := []) ⟨hx, hb, hml, hown, hts⟩ (cL_tick_met l hl0 hA σ (xs (nI i + 1).toNatClampNeg) cL f hO hPM.hE) (vx_cwSW 3 hts gL_law_L_tick rfl rfl rfl hd_L_tickS ⟨Nat.le_trans (by decide) hfr, Nat.le_trans (by decide) hlo⟩) ⟨hw1_blind, hw1_pre hK hN hT hLw hG hR hNc hsz hS hP hPo hKo⟩ rfl rfl hl.1 rfl (lv_room (Nat.le_of_ble_eq_true rfl)) dL_law_1082 ⟨by omega, by omega⟩) hS (fun q _ h => aw1_ac h) (fun q h => aw1_ac h) (fun q _ h => aw1_ac h) (fun _ _ _ _ _ _ _ _ _ hw9 _ _ _ _ _ _ _ => hw9.elim) (fun r6 z1 t H locs ht hvm hw6 hB hz1 hk1 hS => ?_)
  obtain ⟨ok6, hw6⟩ := hw6
  obtain ⟨σ1, eσ1⟩ : ∃ z, z = z1.1 := ⟨_, rfl⟩
  obtain ⟨hB1, hB2⟩ := hB
  rw [← eσ1] at ok6 hw6 hB1
  have hP : va_P D vwCl (pool G (adH B0) σ1) H := ho_at ht hB1
  have hPo : va_P D vwCl [(B0+290, .inl (cL, 1, .inr (.inl z1.2)))] H := by rw [← ht]; exact hB2
  have hPd := hPd.kept (fun k q hk => hk1 q.1 (vx_lt hPd hk) (wo_o21 hk))
  refine lv_istore (lv' := [(6, .int r6), (5, .int (nI i)), (4, .ref (B0+291)), (3, .ref (B0+290)), (2, .ref (adH B0 279)), (1, .ref (adH B0 270)), (0, .ref b)]) hx hb dL_law_1085 hl (by decide) rfl (fun ls hl => ?_)
  refine lv_aload_n hx hb dL_law_1087 rfl (lv_at hl 4 rfl) ?_
  refine lv_aload_n hx hb dL_law_1088 rfl (lv_at hl 6 rfl) ?_
  refine lv_iload hx hb dL_law_1089 (lv_at hl 1 rfl) ?_
  refine lv_iconst (v := 1) hx hb dL_law_1091 (by decide) ?_
  refine lv_iadd hx hb dL_law_1092 ?_
  refine va_sld hx hb hX hbl hbA hS (in_scr hi hL (k := 1) (by decide)) dL_law_1093 ?_
  have hls := ls_of (P := fun v => z1.2 0 = v.toInt64) hPM cd1_i hw6
  obtain ⟨hT1, h16, h490, hval⟩ := hls
  have hu : va_up σ1 16 (σ 16) = σ1 := by rw [← h16]; exact up_eta σ1 16
  rw [← hu] at hP
  refine va_calli (va_runV (As := [.int (xs (nI i + 1).toNatClampNeg)]) (rest := []) ⟨hx, hb, hml, hown, hts⟩ (c7_tick l hA σ1 (σ 16) (xs (nI i + 1).toNatClampNeg) hO.2.2) (cwV 1 hts gL_law_X7_tick rfl rfl rfl hd_X7_tickV ⟨Nat.le_trans (by decide) hfr, Nat.le_trans (by decide) hlo⟩) ⟨hp_blind, va_recv hK hP (ci := 9) (q0 := 279) rfl c_279, hp_pre hK hN hP⟩ rfl rfl hl.1 rfl (lv_room (Nat.le_of_ble_eq_true rfl)) dL_law_1094 ⟨by omega, by omega⟩) hS (fun q _ h => aa_ac h) (fun q h => aa_ac h) (fun r7 u7 t H locs ht hvm hw7 hB hz1 hk1 hS => ?_)
  have hP : va_P D vwCl (pool G (adH B0) (va_up σ1 16 u7)) H := ho_at ht hB
  have hPo := hPo.kept (fun k q hk => hk1 q.1 (vx_lt hPo hk) (wo_out1 hk))
  have hPd := hPd.kept (fun k q hk => hk1 q.1 (vx_lt hPd hk) (wo_out2 hk))
  obtain ⟨eq7, ok7⟩ := hw7
  rw [← eq7] at hT1 h490 hval
  refine lv_istore (lv' := [(7, .int r7), (6, .int r6), (5, .int (nI i)), (4, .ref (B0+291)), (3, .ref (B0+290)), (2, .ref (adH B0 279)), (1, .ref (adH B0 270)), (0, .ref b)]) hx hb dL_law_1097 hl (by decide) rfl (fun ls hl => ?_)
  refine lv_aload_n hx hb dL_law_1099 rfl (lv_at hl 5 rfl) ?_
  refine va_calli (va_runV (As := []) (rest := []) ⟨hx, hb, hml, hown, hts⟩ (c7_thrown l hA σ1 u7) (cwV 0 hts gL_law_X7_thrown rfl rfl rfl hd_X7_thrownV ⟨Nat.le_trans (by decide) hfr, Nat.le_trans (by decide) hlo⟩) ⟨hp_blind, va_recv hK hP (ci := 9) (q0 := 279) rfl c_279, hp_pre hK hN hP⟩ rfl rfl hl.1 rfl (lv_room (Nat.le_of_ble_eq_true rfl)) dL_law_1100 ⟨by omega, by omega⟩) hS (fun q _ h => aa_ac h) (fun q h => aa_ac h) (fun r8 _ t H locs ht hvm hw8 hB hz1 hk1 hS => ?_)
  have hP : va_P D vwCl (pool G (adH B0) (va_up σ1 16 u7)) H := ho_at ht hB
  have hPo := hPo.kept (fun k q hk => hk1 q.1 (vx_lt hPo hk) (wo_out1 hk))
  have hPd := hPd.kept (fun k q hk => hk1 q.1 (vx_lt hPd hk) (wo_out2 hk))
  refine lv_iload hx hb dL_law_1103 (lv_at hl 1 rfl) ?_
  refine lv_icmp_eq (tgt := 1110) hx hb dL_law_1105 (by decide) (fun c9 => ?_) (fun c9 => absurd (hw8.trans h490) c9)
  have hdone : ∀ (k0 n0 : Nat), k0 ≤ cells + 4 → n0 ≤ slots + 24 → ∀ ls2 : Array Slot, lv_has ls2 8 [(7, .int r7), (6, .int r6), (5, .int (nI i)), (4, .ref (B0+291)), (3, .ref (B0+290)), (2, .ref (adH B0 279)), (1, .ref (adH B0 270)), (0, .ref b)] → W p l e R s m args below meth c H locs k0 n0 Q (F0 m 2317 ls2 []) := fun k0 n0 hk0 hn0 ls2 hl2 => W.widen (k := cells + 4) (n := slots + 24) hk0 hn0 (cont _ z1.2 g H locs ls2 ⟨hP, hPo, hPd, (top_16 hT1).mono (by omega), okS_16 ok6 ok7⟩ hS (lv_sub hl2 [2, 3, 4, 5, 6, 7] rfl))
  refine lv_iload hx hb dL_law_1110 (lv_at hl 1 rfl) ?_
  refine lv_if_ne (tgt := 1127) hx hb dL_law_1112 (by decide) (fun c8 => ?_) (fun c8 => ?_)
  · refine lv_goto (tgt := 2317) hx hb dL_law_1127 (by decide) ?_
    exact hdone _ _ (by omega) (by omega) ls hl
  obtain ⟨v9, hv9, rfl⟩ := hval c8
  refine lv_aload_n hx hb dL_law_1115 rfl (lv_at hl 4 rfl) ?_
  refine lv_iconst (v := 0) hx hb dL_law_1116 (by decide) ?_
  refine va_lald (tys := [(cL, .long)]) hx hb hKo hPo 0 0 rfl rfl (vp_in_iff.mpr (by decide)) dL_law_1117 ?_
  have hv9 : z1.2 (0 : Int32).toNatClampNeg = _ := hv9
  rw [hv9]
  refine lv_iload hx hb dL_law_1118 (lv_at hl 0 rfl) ?_
  refine lv_i2l (v := v9.toInt64) hx hb dL_law_1120 rfl ?_
  refine W.lcmp hx hb dL_law_1121 ?_
  refine lv_if_eq (tgt := 1127) hx hb dL_law_1122 (by decide) (fun c7 => ?_) (fun c7 => absurd (lg_cmp_self _) c7)
  refine lv_goto (tgt := 2317) hx hb dL_law_1127 (by decide) ?_
  exact hdone _ _ (by omega) (by omega) ls hl
