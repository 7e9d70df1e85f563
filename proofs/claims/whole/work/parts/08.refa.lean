set_option maxHeartbeats 4000000 in
set_option maxRecDepth 100000 in
theorem cJ9_floorDiv (l : Launch) {D : va_G} {G : CY} {ad : Nat → Nat} {B0 : Nat} (hA : adOK B0 ad) (σ : Nat → Nat → Int32) (a : Int32) (b : Int32) (hne : ¬ b = 0) : Met l yJ9_floorDiv_7cf53 wsJ9_floorDiv_7cf53 { frames := 0, cells := 0, slots := 0, locals := 0 } (va_Pc [.int a, .int b] (Hp D G ad σ)) (va_Qi (fun (r : Int32) (_ : Unit) => r = fJ9_floorDiv a b) (fun (_ : Unit) => Ho D G ad σ) (AA B0)) 0 0 (AA B0) := by
  refine met_ofF (cc := cJ9_floorDiv_7cf53) (maxL := 3) (ret := (some .int)) (by decide +kernel) rfl ?_
  intro p e s m args below meth c s₁ B hml hv
  obtain ⟨rfl, hP, hK, hN⟩ := hv
  have hx := B.exec
  have hb := B.bytes
  have hr := B.returns
  have hts := atoms_spec (ws := wsJ9_floorDiv_7cf53) B.pre
  have hown : s.vm.findClass RJ9 = some m.cls := findClass_of_methodNamed B.named
  have hlocks := B.notSynchronized
  have hP : va_P D vwCl (pool G ad σ) s.heap := hP
  have hS : va_S (AA B0) s.heap s.heap [] := va_S.rf
  have hl := lv_entry ([.int a, .int b]) (n := 3) (Nat.le_of_ble_eq_true rfl)
  rw [lg_entry_eq]
  generalize (lg_sl ([.int a, .int b]) ++ List.replicate (3 - (lg_sl ([.int a, .int b])).length) Slot.unset).toArray = ls at hl ⊢
  have hl : lv_has ls 3 [(0, .int a), (1, .int b)] := hl
  obtain ⟨FF, hFF⟩ : ∃ z, z = fJ9_floorDiv a b := ⟨_, rfl⟩
  have hF := hFF.symm
  rw [fJ9_floorDiv] at hF
  refine lv_iload_n hx hb dJ9_floorDiv_7cf53_0 rfl (lv_at hl 0 rfl) ?_
  refine lv_iload_n hx hb dJ9_floorDiv_7cf53_1 rfl (lv_at hl 1 rfl) ?_
  refine lv_idiv hx hb dJ9_floorDiv_7cf53_2 hne ?_
  refine lv_topi (fun v2_3 e_v2_3 => ?_)
  have hF := bnd_s e_v2_3 hF
  refine lv_istore_n (lv' := [(2, .int v2_3), (0, .int a), (1, .int b)]) hx hb dJ9_floorDiv_7cf53_3 rfl hl (by decide) rfl (fun ls hl => ?_)
  refine lv_iload_n hx hb dJ9_floorDiv_7cf53_4 rfl (lv_at hl 1 rfl) ?_
  refine lv_iload_n hx hb dJ9_floorDiv_7cf53_5 rfl (lv_at hl 2 rfl) ?_
  refine lv_ixor hx hb dJ9_floorDiv_7cf53_6 ?_
  refine lv_if_ge (tgt := 21) hx hb dJ9_floorDiv_7cf53_7 (by decide) (fun c7 => ?_) (fun c7 => ?_)
  · have hF := ift c7 hF
    refine lv_iload_n hx hb dJ9_floorDiv_7cf53_21 rfl (lv_at hl 0 rfl) ?_
    exact W.iret (v := v2_3) hx hb hr (fun t ht hW => ⟨⟨v2_3, (), rfl, hF.trans hFF, ho_of ht hP⟩, hS.F ht⟩) hS.2.2 dJ9_floorDiv_7cf53_22
  · have hF := iff_ c7 hF
    refine lv_iload_n hx hb dJ9_floorDiv_7cf53_10 rfl (lv_at hl 0 rfl) ?_
    refine lv_iload_n hx hb dJ9_floorDiv_7cf53_11 rfl (lv_at hl 2 rfl) ?_
    refine lv_imul hx hb dJ9_floorDiv_7cf53_12 ?_
    refine lv_iload_n hx hb dJ9_floorDiv_7cf53_13 rfl (lv_at hl 1 rfl) ?_
    refine lv_icmp_eq (tgt := 21) hx hb dJ9_floorDiv_7cf53_14 (by decide) (fun c14 => ?_) (fun c14 => ?_)
    · have hF := ift c14 hF
      refine lv_iload_n hx hb dJ9_floorDiv_7cf53_21 rfl (lv_at hl 0 rfl) ?_
      exact W.iret (v := v2_3) hx hb hr (fun t ht hW => ⟨⟨v2_3, (), rfl, hF.trans hFF, ho_of ht hP⟩, hS.F ht⟩) hS.2.2 dJ9_floorDiv_7cf53_22
    · have hF := iff_ c14 hF
      refine lv_iload_n hx hb dJ9_floorDiv_7cf53_17 rfl (lv_at hl 0 rfl) ?_
      refine lv_iconst (v := 1) hx hb dJ9_floorDiv_7cf53_18 (by decide) ?_
      refine lv_isub hx hb dJ9_floorDiv_7cf53_19 ?_
      exact W.iret (v := (v2_3 - 1)) hx hb hr (fun t ht hW => ⟨⟨(v2_3 - 1), (), rfl, hF.trans hFF, ho_of ht hP⟩, hS.F ht⟩) hS.2.2 dJ9_floorDiv_7cf53_20
theorem hd_J9_floorDivS : yJ9_floorDiv_7cf53.cls ≠ "java/lang/invoke/MethodHandle" ∧ yJ9_floorDiv_7cf53.cls ≠ "java/lang/invoke/VarHandle" ∧ (parseMethodDescriptor yJ9_floorDiv_7cf53.desc).map (fun d => d.parameters.length) = some 2 := by decide +kernel
set_option maxHeartbeats 4000000 in
set_option maxRecDepth 100000 in
theorem cJ9_floorMod (l : Launch) {D : va_G} {G : CY} {ad : Nat → Nat} {B0 : Nat} (hA : adOK B0 ad) (σ : Nat → Nat → Int32) (a : Int32) (b : Int32) (hne : ¬ b = 0) : Met l yJ9_floorMod_7cf53 wsJ9_floorMod_7cf53 { frames := 0, cells := 0, slots := 0, locals := 0 } (va_Pc [.int a, .int b] (Hp D G ad σ)) (va_Qi (fun (r : Int32) (_ : Unit) => r = fJ9_floorMod a b) (fun (_ : Unit) => Ho D G ad σ) (AA B0)) 0 0 (AA B0) := by
  refine met_ofF (cc := cJ9_floorMod_7cf53) (maxL := 3) (ret := (some .int)) (by decide +kernel) rfl ?_
  intro p e s m args below meth c s₁ B hml hv
  obtain ⟨rfl, hP, hK, hN⟩ := hv
  have hx := B.exec
  have hb := B.bytes
  have hr := B.returns
  have hts := atoms_spec (ws := wsJ9_floorMod_7cf53) B.pre
  have hown : s.vm.findClass RJ9 = some m.cls := findClass_of_methodNamed B.named
  have hlocks := B.notSynchronized
  have hP : va_P D vwCl (pool G ad σ) s.heap := hP
  have hS : va_S (AA B0) s.heap s.heap [] := va_S.rf
  have hl := lv_entry ([.int a, .int b]) (n := 3) (Nat.le_of_ble_eq_true rfl)
  rw [lg_entry_eq]
  generalize (lg_sl ([.int a, .int b]) ++ List.replicate (3 - (lg_sl ([.int a, .int b])).length) Slot.unset).toArray = ls at hl ⊢
  have hl : lv_has ls 3 [(0, .int a), (1, .int b)] := hl
  obtain ⟨FF, hFF⟩ : ∃ z, z = fJ9_floorMod a b := ⟨_, rfl⟩
  have hF := hFF.symm
  rw [fJ9_floorMod] at hF
  refine lv_iload_n hx hb dJ9_floorMod_7cf53_0 rfl (lv_at hl 0 rfl) ?_
  refine lv_iload_n hx hb dJ9_floorMod_7cf53_1 rfl (lv_at hl 1 rfl) ?_
  refine lv_irem hx hb dJ9_floorMod_7cf53_2 hne ?_
  refine lv_topi (fun v2_3 e_v2_3 => ?_)
  have hF := bnd_s e_v2_3 hF
  refine lv_istore_n (lv' := [(2, .int v2_3), (0, .int a), (1, .int b)]) hx hb dJ9_floorMod_7cf53_3 rfl hl (by decide) rfl (fun ls hl => ?_)
  refine lv_iload_n hx hb dJ9_floorMod_7cf53_4 rfl (lv_at hl 1 rfl) ?_
  refine lv_iload_n hx hb dJ9_floorMod_7cf53_5 rfl (lv_at hl 2 rfl) ?_
  refine lv_ixor hx hb dJ9_floorMod_7cf53_6 ?_
  refine lv_if_ge (tgt := 18) hx hb dJ9_floorMod_7cf53_7 (by decide) (fun c7 => ?_) (fun c7 => ?_)
  · have hF := ift c7 hF
    refine lv_iload_n hx hb dJ9_floorMod_7cf53_18 rfl (lv_at hl 0 rfl) ?_
    exact W.iret (v := v2_3) hx hb hr (fun t ht hW => ⟨⟨v2_3, (), rfl, hF.trans hFF, ho_of ht hP⟩, hS.F ht⟩) hS.2.2 dJ9_floorMod_7cf53_19
  · have hF := iff_ c7 hF
    refine lv_iload_n hx hb dJ9_floorMod_7cf53_10 rfl (lv_at hl 0 rfl) ?_
    refine lv_if_eq (tgt := 18) hx hb dJ9_floorMod_7cf53_11 (by decide) (fun c11 => ?_) (fun c11 => ?_)
    · have hF := ift c11 hF
      refine lv_iload_n hx hb dJ9_floorMod_7cf53_18 rfl (lv_at hl 0 rfl) ?_
      exact W.iret (v := v2_3) hx hb hr (fun t ht hW => ⟨⟨v2_3, (), rfl, hF.trans hFF, ho_of ht hP⟩, hS.F ht⟩) hS.2.2 dJ9_floorMod_7cf53_19
    · have hF := iff_ c11 hF
      refine lv_iload_n hx hb dJ9_floorMod_7cf53_14 rfl (lv_at hl 0 rfl) ?_
      refine lv_iload_n hx hb dJ9_floorMod_7cf53_15 rfl (lv_at hl 2 rfl) ?_
      refine lv_iadd hx hb dJ9_floorMod_7cf53_16 ?_
      exact W.iret (v := (v2_3 + b)) hx hb hr (fun t ht hW => ⟨⟨(v2_3 + b), (), rfl, hF.trans hFF, ho_of ht hP⟩, hS.F ht⟩) hS.2.2 dJ9_floorMod_7cf53_17
theorem hd_J9_floorModS : yJ9_floorMod_7cf53.cls ≠ "java/lang/invoke/MethodHandle" ∧ yJ9_floorMod_7cf53.cls ≠ "java/lang/invoke/VarHandle" ∧ (parseMethodDescriptor yJ9_floorMod_7cf53.desc).map (fun d => d.parameters.length) = some 2 := by decide +kernel
set_option maxHeartbeats 4000000 in
set_option maxRecDepth 100000 in
theorem c7_isBetween (l : Launch) {D : va_G} {G : CY} {ad : Nat → Nat} {B0 : Nat} (hA : adOK B0 ad) (σ : Nat → Nat → Int32) (a : Int32) (b : Int32) (c1 : Int32) : Met l yX7_isBetween wsX7_isBetween { frames := 0, cells := 0, slots := 0, locals := 0 } (va_Pc [.int a, .int b, .int c1] (Hp D G ad σ)) (va_Qi (fun (r : Int32) (_ : Unit) => r = f7_isBetween a b c1 ∧ bl r) (fun (_ : Unit) => Ho D G ad σ) (AA B0)) 0 0 (AA B0) := by
  refine Met.ofW (cc := cX7_isBetween) (maxL := 3) (ret := (some .boolean)) (by decide) rfl ?_
  intro p e s m args below meth c s₁ B hml hv
  obtain ⟨rfl, hP, hK, hN⟩ := hv
  have hx := B.exec
  have hb := B.bytes
  have hr := B.returns
  have hts := atoms_spec (ws := wsX7_isBetween) B.pre
  have hown : s.vm.findClass RX7 = some m.cls := findClass_of_methodNamed B.named
  have hlocks := B.notSynchronized
  have hP : va_P D vwCl (pool G ad σ) s.heap := hP
  have hS : va_S (AA B0) s.heap s.heap [] := va_S.rf
  have hl := lv_entry ([.int a, .int b, .int c1]) (n := 3) (Nat.le_of_ble_eq_true rfl)
  rw [lg_entry_eq]
  generalize (lg_sl ([.int a, .int b, .int c1]) ++ List.replicate (3 - (lg_sl ([.int a, .int b, .int c1])).length) Slot.unset).toArray = ls at hl ⊢
  have hl : lv_has ls 3 [(0, .int a), (1, .int b), (2, .int c1)] := hl
  obtain ⟨FF, hFF⟩ : ∃ z, z = f7_isBetween a b c1 := ⟨_, rfl⟩
  have hF := hFF.symm
  rw [f7_isBetween] at hF
  refine lv_iload_n hx hb dX7_isBetween_0 rfl (lv_at hl 0 rfl) ?_
  refine lv_iload_n hx hb dX7_isBetween_1 rfl (lv_at hl 1 rfl) ?_
  refine lv_icmp_lt (tgt := 14) hx hb dX7_isBetween_2 (by decide) (fun c2 => ?_) (fun c2 => ?_)
  · have hF := ift c2 hF
    refine lv_iconst (v := 0) hx hb dX7_isBetween_14 (by decide) ?_
    exact W.zret (v := 0) hx hb hr (bl_nar bl0) (fun t ht hW => ⟨⟨0, (), rfl, ⟨hF.trans hFF, bl0⟩, ho_of ht hP⟩, hS.F ht⟩) hS.2.2 dX7_isBetween_15
  · have hF := iff_ c2 hF
    refine lv_iload_n hx hb dX7_isBetween_5 rfl (lv_at hl 0 rfl) ?_
    refine lv_iload_n hx hb dX7_isBetween_6 rfl (lv_at hl 2 rfl) ?_
    refine lv_icmp_gt (tgt := 14) hx hb dX7_isBetween_7 (by decide) (fun c7 => ?_) (fun c7 => ?_)
    · have hF := ift c7 hF
      refine lv_iconst (v := 0) hx hb dX7_isBetween_14 (by decide) ?_
      exact W.zret (v := 0) hx hb hr (bl_nar bl0) (fun t ht hW => ⟨⟨0, (), rfl, ⟨hF.trans hFF, bl0⟩, ho_of ht hP⟩, hS.F ht⟩) hS.2.2 dX7_isBetween_15
    · have hF := iff_ c7 hF
      refine lv_iconst (v := 1) hx hb dX7_isBetween_10 (by decide) ?_
      refine lv_goto (tgt := 15) hx hb dX7_isBetween_11 (by decide) ?_
      exact W.zret (v := 1) hx hb hr (bl_nar bl1) (fun t ht hW => ⟨⟨1, (), rfl, ⟨hF.trans hFF, bl1⟩, ho_of ht hP⟩, hS.F ht⟩) hS.2.2 dX7_isBetween_15
theorem hd_X7_isBetweenS : yX7_isBetween.cls ≠ "java/lang/invoke/MethodHandle" ∧ yX7_isBetween.cls ≠ "java/lang/invoke/VarHandle" ∧ (parseMethodDescriptor yX7_isBetween.desc).map (fun d => d.parameters.length) = some 3 := by decide +kernel
set_option maxHeartbeats 4000000 in
set_option maxRecDepth 100000 in
theorem c7_isTile (l : Launch) {D : va_G} {G : CY} {ad : Nat → Nat} {B0 : Nat} (hA : adOK B0 ad) (σ : Nat → Nat → Int32) (a : Int32) (b : Int32) : Met l yX7_isTile wsX7_isTile { frames := 0, cells := 0, slots := 0, locals := 0 } (va_Pc [.int a, .int b] (Hp D G ad σ)) (va_Qi (fun (r : Int32) (_ : Unit) => r = f7_isTile a b ∧ bl r) (fun (_ : Unit) => Ho D G ad σ) (AA B0)) 0 0 (AA B0) := by
  refine Met.ofW (cc := cX7_isTile) (maxL := 2) (ret := (some .boolean)) (by decide) rfl ?_
  intro p e s m args below meth c s₁ B hml hv
  obtain ⟨rfl, hP, hK, hN⟩ := hv
  have hx := B.exec
  have hb := B.bytes
  have hr := B.returns
  have hts := atoms_spec (ws := wsX7_isTile) B.pre
  have hown : s.vm.findClass RX7 = some m.cls := findClass_of_methodNamed B.named
  have hlocks := B.notSynchronized
  have hP : va_P D vwCl (pool G ad σ) s.heap := hP
  have hS : va_S (AA B0) s.heap s.heap [] := va_S.rf
  have hl := lv_entry ([.int a, .int b]) (n := 2) (Nat.le_of_ble_eq_true rfl)
  rw [lg_entry_eq]
  generalize (lg_sl ([.int a, .int b]) ++ List.replicate (2 - (lg_sl ([.int a, .int b])).length) Slot.unset).toArray = ls at hl ⊢
  have hl : lv_has ls 2 [(0, .int a), (1, .int b)] := hl
  obtain ⟨FF, hFF⟩ : ∃ z, z = f7_isTile a b := ⟨_, rfl⟩
  have hF := hFF.symm
  rw [f7_isTile] at hF
  refine lv_iload_n hx hb dX7_isTile_0 rfl (lv_at hl 0 rfl) ?_
  refine lv_if_lt (tgt := 24) hx hb dX7_isTile_1 (by decide) (fun c1 => ?_) (fun c1 => ?_)
  · have hF := ift c1 hF
    refine lv_iconst (v := 0) hx hb dX7_isTile_24 (by decide) ?_
    exact W.zret (v := 0) hx hb hr (bl_nar bl0) (fun t ht hW => ⟨⟨0, (), rfl, ⟨hF.trans hFF, bl0⟩, ho_of ht hP⟩, hS.F ht⟩) hS.2.2 dX7_isTile_25
  · have hF := iff_ c1 hF
    refine lv_iload_n hx hb dX7_isTile_4 rfl (lv_at hl 0 rfl) ?_
    refine lv_bipush (v := 24) hx hb dX7_isTile_5 (by decide) ?_
    refine lv_icmp_ge (tgt := 24) hx hb dX7_isTile_7 (by decide) (fun c7 => ?_) (fun c7 => ?_)
    · have hF := ift c7 hF
      refine lv_iconst (v := 0) hx hb dX7_isTile_24 (by decide) ?_
      exact W.zret (v := 0) hx hb hr (bl_nar bl0) (fun t ht hW => ⟨⟨0, (), rfl, ⟨hF.trans hFF, bl0⟩, ho_of ht hP⟩, hS.F ht⟩) hS.2.2 dX7_isTile_25
    · have hF := iff_ c7 hF
      refine lv_iload_n hx hb dX7_isTile_10 rfl (lv_at hl 1 rfl) ?_
      refine lv_if_lt (tgt := 24) hx hb dX7_isTile_11 (by decide) (fun c11 => ?_) (fun c11 => ?_)
      · have hF := ift c11 hF
        refine lv_iconst (v := 0) hx hb dX7_isTile_24 (by decide) ?_
        exact W.zret (v := 0) hx hb hr (bl_nar bl0) (fun t ht hW => ⟨⟨0, (), rfl, ⟨hF.trans hFF, bl0⟩, ho_of ht hP⟩, hS.F ht⟩) hS.2.2 dX7_isTile_25
      · have hF := iff_ c11 hF
        refine lv_iload_n hx hb dX7_isTile_14 rfl (lv_at hl 1 rfl) ?_
        refine lv_bipush (v := 14) hx hb dX7_isTile_15 (by decide) ?_
        refine lv_icmp_ge (tgt := 24) hx hb dX7_isTile_17 (by decide) (fun c17 => ?_) (fun c17 => ?_)
        · have hF := ift c17 hF
          refine lv_iconst (v := 0) hx hb dX7_isTile_24 (by decide) ?_
          exact W.zret (v := 0) hx hb hr (bl_nar bl0) (fun t ht hW => ⟨⟨0, (), rfl, ⟨hF.trans hFF, bl0⟩, ho_of ht hP⟩, hS.F ht⟩) hS.2.2 dX7_isTile_25
        · have hF := iff_ c17 hF
          refine lv_iconst (v := 1) hx hb dX7_isTile_20 (by decide) ?_
          refine lv_goto (tgt := 25) hx hb dX7_isTile_21 (by decide) ?_
          exact W.zret (v := 1) hx hb hr (bl_nar bl1) (fun t ht hW => ⟨⟨1, (), rfl, ⟨hF.trans hFF, bl1⟩, ho_of ht hP⟩, hS.F ht⟩) hS.2.2 dX7_isTile_25
theorem hd_X7_isTileS : yX7_isTile.cls ≠ "java/lang/invoke/MethodHandle" ∧ yX7_isTile.cls ≠ "java/lang/invoke/VarHandle" ∧ (parseMethodDescriptor yX7_isTile.desc).map (fun d => d.parameters.length) = some 2 := by decide +kernel
set_option maxHeartbeats 4000000 in
set_option maxRecDepth 100000 in
theorem c7_isFirm (l : Launch) {D : va_G} {G : CY} {ad : Nat → Nat} {B0 : Nat} (hA : adOK B0 ad) (σ : Nat → Nat → Int32) (a : Int32) : Met l yX7_isFirm wsX7_isFirm { frames := 1, cells := 0, slots := 0, locals := 22 } (va_Pc [.int a] (Hp D G ad σ)) (va_Qi (fun (r : Int32) (_ : Unit) => r = f7_isFirm a ∧ bl r) (fun (_ : Unit) => Ho D G ad σ) (AA B0)) 0 0 (AA B0) := by
  refine Met.ofW (cc := cX7_isFirm) (maxL := 1) (ret := (some .boolean)) (by decide) rfl ?_
  intro p e s m args below meth c s₁ B hml hv
  obtain ⟨rfl, hP, hK, hN⟩ := hv
  have hx := B.exec
  have hb := B.bytes
  have hr := B.returns
  have hts := atoms_spec (ws := wsX7_isFirm) B.pre
  have hown : s.vm.findClass RX7 = some m.cls := findClass_of_methodNamed B.named
  have hlocks := B.notSynchronized
  have hP : va_P D vwCl (pool G ad σ) s.heap := hP
  have hS : va_S (AA B0) s.heap s.heap [] := va_S.rf
  have hl := lv_entry ([.int a]) (n := 1) (Nat.le_of_ble_eq_true rfl)
  rw [lg_entry_eq]
  generalize (lg_sl ([.int a]) ++ List.replicate (1 - (lg_sl ([.int a])).length) Slot.unset).toArray = ls at hl ⊢
  have hl : lv_has ls 1 [(0, .int a)] := hl
  obtain ⟨FF, hFF⟩ : ∃ z, z = f7_isFirm a := ⟨_, rfl⟩
  have hF := hFF.symm
  rw [f7_isFirm] at hF
  refine lv_iload_n hx hb dX7_isFirm_0 rfl (lv_at hl 0 rfl) ?_
  refine lv_iconst (v := 1) hx hb dX7_isFirm_1 (by decide) ?_
  refine lv_icmp_eq (tgt := 15) hx hb dX7_isFirm_2 (by decide) (fun c2 => ?_) (fun c2 => ?_)
  · have hF := ift c2 hF
    refine lv_iconst (v := 1) hx hb dX7_isFirm_15 (by decide) ?_
    refine lv_goto (tgt := 20) hx hb dX7_isFirm_16 (by decide) ?_
    exact W.zret (v := 1) hx hb hr (bl_nar bl1) (fun t ht hW => ⟨⟨1, (), rfl, ⟨hF.trans hFF, bl1⟩, ho_of ht hP⟩, hS.F ht⟩) hS.2.2 dX7_isFirm_20
  · have hF := iff_ c2 hF
    refine lv_iload_n hx hb dX7_isFirm_5 rfl (lv_at hl 0 rfl) ?_
    refine lv_iconst (v := 5) hx hb dX7_isFirm_6 (by decide) ?_
    refine lv_bipush (v := 8) hx hb dX7_isFirm_7 (by decide) ?_
    refine va_calli (va_runS (As := [.int a, .int 5, .int 8]) (rest := []) ⟨hx, hb, hml, hown, hts⟩ (c7_isBetween l hA σ a 5 8 ) (va_cwS 3 hts gX7_isFirm_X7_isBetween rfl rfl rfl hd_X7_isBetweenS ⟨Nat.le_of_ble_eq_true rfl, Nat.le_of_ble_eq_true rfl⟩) ⟨hp_blind, hp_pre hK hN hP⟩ rfl rfl hl.1 rfl (lv_room (Nat.le_of_ble_eq_true rfl)) dX7_isFirm_9 ⟨Nat.zero_le _, Nat.zero_le _⟩) hS (fun _ _ h => h) (fun _ h => h) (fun r9 _ t H locs ht hvm hw9 hB hz1 hk1 hS => ?_)
    have hP := ho_at ht hB
    obtain ⟨eq9, hb_r9⟩ := hw9
    have hF := bnd_s eq9 hF
    refine lv_if_eq (tgt := 19) hx hb dX7_isFirm_12 (by decide) (fun c12 => ?_) (fun c12 => ?_)
    · have hF := ift c12 hF
      refine lv_iconst (v := 0) hx hb dX7_isFirm_19 (by decide) ?_
      exact W.zret (v := 0) hx hb hr (bl_nar bl0) (fun t ht hW => ⟨⟨0, (), rfl, ⟨hF.trans hFF, bl0⟩, ho_of ht hP⟩, hS.F ht⟩) hS.2.2 dX7_isFirm_20
    · have hF := iff_ c12 hF
      refine lv_iconst (v := 1) hx hb dX7_isFirm_15 (by decide) ?_
      refine lv_goto (tgt := 20) hx hb dX7_isFirm_16 (by decide) ?_
      exact W.zret (v := 1) hx hb hr (bl_nar bl1) (fun t ht hW => ⟨⟨1, (), rfl, ⟨hF.trans hFF, bl1⟩, ho_of ht hP⟩, hS.F ht⟩) hS.2.2 dX7_isFirm_20
theorem hd_X7_isFirmS : yX7_isFirm.cls ≠ "java/lang/invoke/MethodHandle" ∧ yX7_isFirm.cls ≠ "java/lang/invoke/VarHandle" ∧ (parseMethodDescriptor yX7_isFirm.desc).map (fun d => d.parameters.length) = some 1 := by decide +kernel
set_option maxHeartbeats 4000000 in
set_option maxRecDepth 100000 in
theorem c7_isSlope (l : Launch) {D : va_G} {G : CY} {ad : Nat → Nat} {B0 : Nat} (hA : adOK B0 ad) (σ : Nat → Nat → Int32) (a : Int32) : Met l yX7_isSlope wsX7_isSlope { frames := 0, cells := 0, slots := 0, locals := 0 } (va_Pc [.int a] (Hp D G ad σ)) (va_Qi (fun (r : Int32) (_ : Unit) => r = f7_isSlope a ∧ bl r) (fun (_ : Unit) => Ho D G ad σ) (AA B0)) 0 0 (AA B0) := by
  refine Met.ofW (cc := cX7_isSlope) (maxL := 1) (ret := (some .boolean)) (by decide) rfl ?_
  intro p e s m args below meth c s₁ B hml hv
  obtain ⟨rfl, hP, hK, hN⟩ := hv
  have hx := B.exec
  have hb := B.bytes
  have hr := B.returns
  have hts := atoms_spec (ws := wsX7_isSlope) B.pre
  have hown : s.vm.findClass RX7 = some m.cls := findClass_of_methodNamed B.named
  have hlocks := B.notSynchronized
  have hP : va_P D vwCl (pool G ad σ) s.heap := hP
  have hS : va_S (AA B0) s.heap s.heap [] := va_S.rf
  have hl := lv_entry ([.int a]) (n := 1) (Nat.le_of_ble_eq_true rfl)
  rw [lg_entry_eq]
  generalize (lg_sl ([.int a]) ++ List.replicate (1 - (lg_sl ([.int a])).length) Slot.unset).toArray = ls at hl ⊢
  have hl : lv_has ls 1 [(0, .int a)] := hl
  obtain ⟨FF, hFF⟩ : ∃ z, z = f7_isSlope a := ⟨_, rfl⟩
  have hF := hFF.symm
  rw [f7_isSlope] at hF
  refine lv_iload_n hx hb dX7_isSlope_0 rfl (lv_at hl 0 rfl) ?_
  refine lv_iconst (v := 3) hx hb dX7_isSlope_1 (by decide) ?_
  refine lv_icmp_eq (tgt := 10) hx hb dX7_isSlope_2 (by decide) (fun c2 => ?_) (fun c2 => ?_)
  · have hF := ift c2 hF
    refine lv_iconst (v := 1) hx hb dX7_isSlope_10 (by decide) ?_
    refine lv_goto (tgt := 15) hx hb dX7_isSlope_11 (by decide) ?_
    exact W.zret (v := 1) hx hb hr (bl_nar bl1) (fun t ht hW => ⟨⟨1, (), rfl, ⟨hF.trans hFF, bl1⟩, ho_of ht hP⟩, hS.F ht⟩) hS.2.2 dX7_isSlope_15
  · have hF := iff_ c2 hF
    refine lv_iload_n hx hb dX7_isSlope_5 rfl (lv_at hl 0 rfl) ?_
    refine lv_iconst (v := 4) hx hb dX7_isSlope_6 (by decide) ?_
    refine lv_icmp_ne (tgt := 14) hx hb dX7_isSlope_7 (by decide) (fun c7 => ?_) (fun c7 => ?_)
    · have hF := iff_ c7 hF
      refine lv_iconst (v := 0) hx hb dX7_isSlope_14 (by decide) ?_
      exact W.zret (v := 0) hx hb hr (bl_nar bl0) (fun t ht hW => ⟨⟨0, (), rfl, ⟨hF.trans hFF, bl0⟩, ho_of ht hP⟩, hS.F ht⟩) hS.2.2 dX7_isSlope_15
    · have hF := ift c7 hF
      refine lv_iconst (v := 1) hx hb dX7_isSlope_10 (by decide) ?_
      refine lv_goto (tgt := 15) hx hb dX7_isSlope_11 (by decide) ?_
      exact W.zret (v := 1) hx hb hr (bl_nar bl1) (fun t ht hW => ⟨⟨1, (), rfl, ⟨hF.trans hFF, bl1⟩, ho_of ht hP⟩, hS.F ht⟩) hS.2.2 dX7_isSlope_15
theorem hd_X7_isSlopeS : yX7_isSlope.cls ≠ "java/lang/invoke/MethodHandle" ∧ yX7_isSlope.cls ≠ "java/lang/invoke/VarHandle" ∧ (parseMethodDescriptor yX7_isSlope.desc).map (fun d => d.parameters.length) = some 1 := by decide +kernel
set_option maxHeartbeats 4000000 in
set_option maxRecDepth 100000 in
theorem c7_isBeside (l : Launch) {D : va_G} {G : CY} {ad : Nat → Nat} {B0 : Nat} (hA : adOK B0 ad) (σ : Nat → Nat → Int32) (a : Int32) : Met l yX7_isBeside wsX7_isBeside { frames := 0, cells := 0, slots := 0, locals := 0 } (va_Pc [.int a] (Hp D G ad σ)) (va_Qi (fun (r : Int32) (_ : Unit) => r = f7_isBeside a ∧ bl r) (fun (_ : Unit) => Ho D G ad σ) (AA B0)) 0 0 (AA B0) := by
  refine Met.ofW (cc := cX7_isBeside) (maxL := 1) (ret := (some .boolean)) (by decide) rfl ?_
  intro p e s m args below meth c s₁ B hml hv
  obtain ⟨rfl, hP, hK, hN⟩ := hv
  have hx := B.exec
  have hb := B.bytes
  have hr := B.returns
  have hts := atoms_spec (ws := wsX7_isBeside) B.pre
  have hown : s.vm.findClass RX7 = some m.cls := findClass_of_methodNamed B.named
  have hlocks := B.notSynchronized
  have hP : va_P D vwCl (pool G ad σ) s.heap := hP
  have hS : va_S (AA B0) s.heap s.heap [] := va_S.rf
  have hl := lv_entry ([.int a]) (n := 1) (Nat.le_of_ble_eq_true rfl)
  rw [lg_entry_eq]
  generalize (lg_sl ([.int a]) ++ List.replicate (1 - (lg_sl ([.int a])).length) Slot.unset).toArray = ls at hl ⊢
  have hl : lv_has ls 1 [(0, .int a)] := hl
  obtain ⟨FF, hFF⟩ : ∃ z, z = f7_isBeside a := ⟨_, rfl⟩
  have hF := hFF.symm
  rw [f7_isBeside] at hF
  refine lv_iload_n hx hb dX7_isBeside_0 rfl (lv_at hl 0 rfl) ?_
  refine lv_if_lt (tgt := 10) hx hb dX7_isBeside_1 (by decide) (fun c1 => ?_) (fun c1 => ?_)
  · have hF := ift c1 hF
    refine lv_iconst (v := 1) hx hb dX7_isBeside_10 (by decide) ?_
    refine lv_goto (tgt := 15) hx hb dX7_isBeside_11 (by decide) ?_
    exact W.zret (v := 1) hx hb hr (bl_nar bl1) (fun t ht hW => ⟨⟨1, (), rfl, ⟨hF.trans hFF, bl1⟩, ho_of ht hP⟩, hS.F ht⟩) hS.2.2 dX7_isBeside_15
  · have hF := iff_ c1 hF
    refine lv_iload_n hx hb dX7_isBeside_4 rfl (lv_at hl 0 rfl) ?_
    refine lv_bipush (v := 24) hx hb dX7_isBeside_5 (by decide) ?_
    refine lv_icmp_lt (tgt := 14) hx hb dX7_isBeside_7 (by decide) (fun c7 => ?_) (fun c7 => ?_)
    · have hF := ift c7 hF
      refine lv_iconst (v := 0) hx hb dX7_isBeside_14 (by decide) ?_
      exact W.zret (v := 0) hx hb hr (bl_nar bl0) (fun t ht hW => ⟨⟨0, (), rfl, ⟨hF.trans hFF, bl0⟩, ho_of ht hP⟩, hS.F ht⟩) hS.2.2 dX7_isBeside_15
    · have hF := iff_ c7 hF
      refine lv_iconst (v := 1) hx hb dX7_isBeside_10 (by decide) ?_
      refine lv_goto (tgt := 15) hx hb dX7_isBeside_11 (by decide) ?_
      exact W.zret (v := 1) hx hb hr (bl_nar bl1) (fun t ht hW => ⟨⟨1, (), rfl, ⟨hF.trans hFF, bl1⟩, ho_of ht hP⟩, hS.F ht⟩) hS.2.2 dX7_isBeside_15
theorem hd_X7_isBesideS : yX7_isBeside.cls ≠ "java/lang/invoke/MethodHandle" ∧ yX7_isBeside.cls ≠ "java/lang/invoke/VarHandle" ∧ (parseMethodDescriptor yX7_isBeside.desc).map (fun d => d.parameters.length) = some 1 := by decide +kernel
set_option maxHeartbeats 4000000 in
set_option maxRecDepth 100000 in
theorem c7_rowOf (l : Launch) {D : va_G} {G : CY} {ad : Nat → Nat} {B0 : Nat} (hA : adOK B0 ad) (σ : Nat → Nat → Int32) (a : Int32) : Met l yX7_rowOf wsX7_rowOf { frames := 1, cells := 0, slots := 0, locals := 22 } (va_Pc [.int a] (Hp D G ad σ)) (va_Qi (fun (r : Int32) (_ : Unit) => r = f7_rowOf a ∧ r.toInt ≤ 134217727) (fun (_ : Unit) => Ho D G ad σ) (AA B0)) 0 0 (AA B0) := by
  refine Met.ofW (cc := cX7_rowOf) (maxL := 1) (ret := (some .int)) (by decide) rfl ?_
  intro p e s m args below meth c s₁ B hml hv
  obtain ⟨rfl, hP, hK, hN⟩ := hv
  have hx := B.exec
  have hb := B.bytes
  have hr := B.returns
  have hts := atoms_spec (ws := wsX7_rowOf) B.pre
  have hown : s.vm.findClass RX7 = some m.cls := findClass_of_methodNamed B.named
  have hlocks := B.notSynchronized
  have hP : va_P D vwCl (pool G ad σ) s.heap := hP
  have hS : va_S (AA B0) s.heap s.heap [] := va_S.rf
  have hl := lv_entry ([.int a]) (n := 1) (Nat.le_of_ble_eq_true rfl)
  rw [lg_entry_eq]
  generalize (lg_sl ([.int a]) ++ List.replicate (1 - (lg_sl ([.int a])).length) Slot.unset).toArray = ls at hl ⊢
  have hl : lv_has ls 1 [(0, .int a)] := hl
  obtain ⟨FF, hFF⟩ : ∃ z, z = f7_rowOf a := ⟨_, rfl⟩
  have hF := hFF.symm
  rw [f7_rowOf] at hF
  refine lv_iload_n hx hb dX7_rowOf_0 rfl (lv_at hl 0 rfl) ?_
  refine lv_bipush (v := 16) hx hb dX7_rowOf_1 (by decide) ?_
  refine va_calli (va_runS (As := [.int a, .int 16]) (rest := []) ⟨hx, hb, hml, hown, hts⟩ (cJ9_floorDiv l hA σ a 16 (by decide)) (va_cwS 2 hts gX7_rowOf_J9_floorDiv_7cf53 rfl rfl rfl hd_J9_floorDivS ⟨Nat.le_of_ble_eq_true rfl, Nat.le_of_ble_eq_true rfl⟩) ⟨hp_blind, hp_pre hK hN hP⟩ rfl rfl hl.1 rfl (lv_room (Nat.le_of_ble_eq_true rfl)) dX7_rowOf_3 ⟨Nat.zero_le _, Nat.zero_le _⟩) hS (fun _ _ h => h) (fun _ h => h) (fun r3 _ t H locs ht hvm hw9 hB hz1 hk1 hS => ?_)
  have hP := ho_at ht hB
  have eq3 := hw9
  have hF := bnd_s eq3 hF
  exact W.iret (v := r3) hx hb hr (fun t ht hW => ⟨⟨r3, (), rfl, ⟨hF.trans hFF, (by rw [eq3]; exact fd16_le _)⟩, ho_of ht hP⟩, hS.F ht⟩) hS.2.2 dX7_rowOf_6
theorem hd_X7_rowOfS : yX7_rowOf.cls ≠ "java/lang/invoke/MethodHandle" ∧ yX7_rowOf.cls ≠ "java/lang/invoke/VarHandle" ∧ (parseMethodDescriptor yX7_rowOf.desc).map (fun d => d.parameters.length) = some 1 := by decide +kernel
set_option maxHeartbeats 4000000 in
set_option maxRecDepth 100000 in
theorem c7_of (l : Launch) {D : va_G} {G : CY} {ad : Nat → Nat} {B0 : Nat} (hA : adOK B0 ad) (σ : Nat → Nat → Int32) (u : Nat → Int32) (a : Int32) (b : Int32) (hwb : vp_in b 24) (hba : vp_in a 4) : Met l yX7_of wsX7_of { frames := 0, cells := 0, slots := 0, locals := 0 } (va_Pc [.ref (ad (279)), .int a, .int b] (Hp D G ad (va_up σ 16 u))) (va_Qi (fun (r : Int32) (_ : Unit) => r = f7_of u a b) (fun (_ : Unit) => Ho D G ad (va_up σ 16 u)) (AA B0)) 0 0 (AA B0) := by
  refine Met.ofW (cc := cX7_of) (maxL := 3) (ret := (some .int)) (by decide) rfl ?_
  intro p e s m args below meth c s₁ B hml hv
  obtain ⟨rfl, hP, hK, hN⟩ := hv
  have hx := B.exec
  have hb := B.bytes
  have hr := B.returns
  have hts := atoms_spec (ws := wsX7_of) B.pre
  have hown : s.vm.findClass RX7 = some m.cls := findClass_of_methodNamed B.named
  have hlocks := B.notSynchronized
  have inX7 : ∀ w ∈ wsX70, w ∈ wsX7_of := (fun w h => List.mem_cons_of_mem _ (List.mem_append_left _ (List.mem_append_right _ h)))
  have hP : va_P D vwCl (pool G ad (va_up σ 16 u)) s.heap := hP
  have hS : va_S (AA B0) s.heap s.heap [] := va_S.rf
  have hl := lv_entry ([.ref (ad (279)), .int a, .int b]) (n := 3) (Nat.le_of_ble_eq_true rfl)
  rw [lg_entry_eq]
  generalize (lg_sl ([.ref (ad (279)), .int a, .int b]) ++ List.replicate (3 - (lg_sl ([.ref (ad (279)), .int a, .int b])).length) Slot.unset).toArray = ls at hl ⊢
  have hl : lv_has ls 3 [(0, .ref (ad (279))), (1, .int a), (2, .int b)] := hl
  obtain ⟨FF, hFF⟩ : ∃ z, z = f7_of u a b := ⟨_, rfl⟩
  have hF := hFF.symm
  rw [f7_of] at hF
  refine lv_aload_n hx hb dX7_of_0 rfl (lv_at hl 0 rfl) ?_
  refine va_get (D := D) (ci := 9) (C := RX7) (T := TX7) (N := 17) hx hb hts inX7 hown hK hP (279) c_279 rfl 1 (by decide) (hts (.fieldLink RX7 7 "TileRunnersModel" "world" "[I") (List.mem_of_getElem? (i := 1) rfl)) (fun _ h9 => h9) rfl dX7_of_1 ?_
  refine lv_sipush (v := 336) hx hb dX7_of_4 (by decide) ?_
  refine lv_bipush (v := 24) hx hb dX7_of_7 (by decide) ?_
  refine lv_iload_n hx hb dX7_of_9 rfl (lv_at hl 1 rfl) ?_
  refine lv_imul hx hb dX7_of_10 ?_
  refine lv_iadd hx hb dX7_of_11 ?_
  refine lv_iload_n hx hb dX7_of_12 rfl (lv_at hl 2 rfl) ?_
  refine lv_iadd hx hb dX7_of_13 ?_
  refine pald (n := 480) (o := 0) (t := ((336 + (24 * a)) + b).toNatClampNeg) (i := ((336 + (24 * a)) + b)) hx hb hK hP c_280 (in_of hba hwb) (Nat.zero_add _) dX7_of_14 ?_
  exact W.iret (v := (u (((336 + (24 * a)) + b).toNatClampNeg))) hx hb hr (fun t ht hW => ⟨⟨(u (((336 + (24 * a)) + b).toNatClampNeg)), (), rfl, hF.trans hFF, ho_of ht hP⟩, hS.F ht⟩) hS.2.2 dX7_of_15
theorem hd_X7_ofV : yX7_of.cls = RX7 ∧ yX7_of.cls ≠ "java/lang/invoke/MethodHandle" ∧ yX7_of.cls ≠ "java/lang/invoke/VarHandle" ∧ (parseMethodDescriptor yX7_of.desc).map (fun d => d.parameters.length) = some 2 := by decide +kernel
set_option maxHeartbeats 4000000 in
set_option maxRecDepth 100000 in
theorem c7_plate (l : Launch) {D : va_G} {G : CY} {ad : Nat → Nat} {B0 : Nat} (hA : adOK B0 ad) (σ : Nat → Nat → Int32) (u : Nat → Int32) (a : Int32) (b : Int32) (hwb : vp_in b 8) (hba : vp_in a 4) : Met l yX7_plate wsX7_plate { frames := 0, cells := 0, slots := 0, locals := 0 } (va_Pc [.ref (ad (279)), .int a, .int b] (Hp D G ad (va_up σ 16 u))) (va_Qi (fun (r : Int32) (_ : Unit) => r = f7_plate u a b) (fun (_ : Unit) => Ho D G ad (va_up σ 16 u)) (AA B0)) 0 0 (AA B0) := by
  refine Met.ofW (cc := cX7_plate) (maxL := 3) (ret := (some .int)) (by decide) rfl ?_
  intro p e s m args below meth c s₁ B hml hv
  obtain ⟨rfl, hP, hK, hN⟩ := hv
  have hx := B.exec
  have hb := B.bytes
  have hr := B.returns
  have hts := atoms_spec (ws := wsX7_plate) B.pre
  have hown : s.vm.findClass RX7 = some m.cls := findClass_of_methodNamed B.named
  have hlocks := B.notSynchronized
  have inX7 : ∀ w ∈ wsX70, w ∈ wsX7_plate := (fun w h => List.mem_cons_of_mem _ (List.mem_append_left _ (List.mem_append_right _ h)))
  have hP : va_P D vwCl (pool G ad (va_up σ 16 u)) s.heap := hP
  have hS : va_S (AA B0) s.heap s.heap [] := va_S.rf
  have hl := lv_entry ([.ref (ad (279)), .int a, .int b]) (n := 3) (Nat.le_of_ble_eq_true rfl)
  rw [lg_entry_eq]
  generalize (lg_sl ([.ref (ad (279)), .int a, .int b]) ++ List.replicate (3 - (lg_sl ([.ref (ad (279)), .int a, .int b])).length) Slot.unset).toArray = ls at hl ⊢
  have hl : lv_has ls 3 [(0, .ref (ad (279))), (1, .int a), (2, .int b)] := hl
  obtain ⟨FF, hFF⟩ : ∃ z, z = f7_plate u a b := ⟨_, rfl⟩
  have hF := hFF.symm
  rw [f7_plate] at hF
  refine lv_aload_n hx hb dX7_plate_0 rfl (lv_at hl 0 rfl) ?_
  refine va_get (D := D) (ci := 9) (C := RX7) (T := TX7) (N := 17) hx hb hts inX7 hown hK hP (279) c_279 rfl 1 (by decide) (hts (.fieldLink RX7 7 "TileRunnersModel" "world" "[I") (List.mem_of_getElem? (i := 1) rfl)) (fun _ h9 => h9) rfl dX7_plate_1 ?_
  refine lv_sipush (v := 432) hx hb dX7_plate_4 (by decide) ?_
  refine lv_bipush (v := 8) hx hb dX7_plate_7 (by decide) ?_
  refine lv_iload_n hx hb dX7_plate_9 rfl (lv_at hl 1 rfl) ?_
  refine lv_imul hx hb dX7_plate_10 ?_
  refine lv_iadd hx hb dX7_plate_11 ?_
  refine lv_iload_n hx hb dX7_plate_12 rfl (lv_at hl 2 rfl) ?_
  refine lv_iadd hx hb dX7_plate_13 ?_
  refine pald (n := 480) (o := 0) (t := ((432 + (8 * a)) + b).toNatClampNeg) (i := ((432 + (8 * a)) + b)) hx hb hK hP c_280 (in_pl hba hwb) (Nat.zero_add _) dX7_plate_14 ?_
  exact W.iret (v := (u (((432 + (8 * a)) + b).toNatClampNeg))) hx hb hr (fun t ht hW => ⟨⟨(u (((432 + (8 * a)) + b).toNatClampNeg)), (), rfl, hF.trans hFF, ho_of ht hP⟩, hS.F ht⟩) hS.2.2 dX7_plate_15
theorem hd_X7_plateV : yX7_plate.cls = RX7 ∧ yX7_plate.cls ≠ "java/lang/invoke/MethodHandle" ∧ yX7_plate.cls ≠ "java/lang/invoke/VarHandle" ∧ (parseMethodDescriptor yX7_plate.desc).map (fun d => d.parameters.length) = some 2 := by decide +kernel
set_option maxHeartbeats 4000000 in
set_option maxRecDepth 100000 in
theorem c7_sets (l : Launch) {D : va_G} {G : CY} {ad : Nat → Nat} {B0 : Nat} (hA : adOK B0 ad) (σ : Nat → Nat → Int32) (u : Nat → Int32) (a : Int32) (b : Int32) (c1 : Int32) (hO : okM u) (hwb : vp_in b 24) (hba : vp_in a 4) : Met l yX7_sets wsX7_sets { frames := 0, cells := 0, slots := 0, locals := 0 } (va_Pc [.ref (ad (279)), .int a, .int b, .int c1] (Hp D G ad (va_up σ 16 u))) (va_Qv (fun (z : Nat → Int32) => z = f7_sets u a b c1 ∧ okM z) (fun (z : Nat → Int32) => Ho D G ad (va_up σ 16 z)) (AA B0)) 0 0 (AA B0) := by
  refine Met.ofW (cc := cX7_sets) (maxL := 4) (ret := none) (by decide) rfl ?_
  intro p e s m args below meth c s₁ B hml hv
  obtain ⟨rfl, hP, hK, hN⟩ := hv
  have hx := B.exec
  have hb := B.bytes
  have hr := B.returns
  have hts := atoms_spec (ws := wsX7_sets) B.pre
  have hown : s.vm.findClass RX7 = some m.cls := findClass_of_methodNamed B.named
  have hlocks := B.notSynchronized
  have inX7 : ∀ w ∈ wsX70, w ∈ wsX7_sets := (fun w h => List.mem_cons_of_mem _ (List.mem_append_left _ (List.mem_append_right _ h)))
  have hP : va_P D vwCl (pool G ad (va_up σ 16 u)) s.heap := hP
  have hS : va_S (AA B0) s.heap s.heap [] := va_S.rf
  have hl := lv_entry ([.ref (ad (279)), .int a, .int b, .int c1]) (n := 4) (Nat.le_of_ble_eq_true rfl)
  rw [lg_entry_eq]
  generalize (lg_sl ([.ref (ad (279)), .int a, .int b, .int c1]) ++ List.replicate (4 - (lg_sl ([.ref (ad (279)), .int a, .int b, .int c1])).length) Slot.unset).toArray = ls at hl ⊢
  have hl : lv_has ls 4 [(0, .ref (ad (279))), (1, .int a), (2, .int b), (3, .int c1)] := hl
  obtain ⟨FF, hFF⟩ : ∃ z, z = f7_sets u a b c1 := ⟨_, rfl⟩
  have hF := hFF.symm
  rw [f7_sets] at hF
  refine lv_aload_n hx hb dX7_sets_0 rfl (lv_at hl 0 rfl) ?_
  refine va_get (D := D) (ci := 9) (C := RX7) (T := TX7) (N := 17) hx hb hts inX7 hown hK hP (279) c_279 rfl 1 (by decide) (hts (.fieldLink RX7 7 "TileRunnersModel" "world" "[I") (List.mem_of_getElem? (i := 1) rfl)) (fun _ h9 => h9) rfl dX7_sets_1 ?_
  refine lv_sipush (v := 336) hx hb dX7_sets_4 (by decide) ?_
  refine lv_bipush (v := 24) hx hb dX7_sets_7 (by decide) ?_
  refine lv_iload_n hx hb dX7_sets_9 rfl (lv_at hl 1 rfl) ?_
  refine lv_imul hx hb dX7_sets_10 ?_
  refine lv_iadd hx hb dX7_sets_11 ?_
  refine lv_iload_n hx hb dX7_sets_12 rfl (lv_at hl 2 rfl) ?_
  refine lv_iadd hx hb dX7_sets_13 ?_
  refine lv_iload_n hx hb dX7_sets_14 rfl (lv_at hl 3 rfl) ?_
  have hin9 : vp_in ((336 + (24 * a)) + b) 480 := (in_of hba hwb)
  refine past16 (n := 480) (o := 0) (t := ((336 + (24 * a)) + b).toNatClampNeg) hx hb hK hP hA hS (j := 280) (by decide) (by decide) (fun _ _ => rfl) (fun k9 hk9 => by unfold own16; repeat first | rw [if_pos (by omega)] | rw [if_neg (by omega)]) hin9 (Nat.zero_add _) dX7_sets_15 (fun u9 H locs eu9 hP hS => ?_)
  have hlt9 := in_lt hin9
  obtain ⟨u15, e_u15⟩ : ∃ z, z = u9 := ⟨_, rfl⟩
  rw [← e_u15] at hP eu9
  have hF := bnd_s eu9 hF
  have hO := okM_up eu9 hO (by rw [of_ix hba hwb]; have h8 := in_lt hba; have h7 := in_lt hwb; omega) (by rw [of_ix hba hwb]; have h8 := in_lt hba; have h7 := in_lt hwb; omega) (by rw [of_ix hba hwb]; have h8 := in_lt hba; have h7 := in_lt hwb; omega)
  exact W.vret hx hb hr (fun t ht hW => ⟨⟨u15, rfl, ⟨hF.trans hFF, hO⟩, ho_of ht hP⟩, hS.F ht⟩) hS.2.2 dX7_sets_16
theorem hd_X7_setsV : yX7_sets.cls = RX7 ∧ yX7_sets.cls ≠ "java/lang/invoke/MethodHandle" ∧ yX7_sets.cls ≠ "java/lang/invoke/VarHandle" ∧ (parseMethodDescriptor yX7_sets.desc).map (fun d => d.parameters.length) = some 3 := by decide +kernel
set_option maxHeartbeats 4000000 in
set_option maxRecDepth 100000 in
theorem c7_adds (l : Launch) {D : va_G} {G : CY} {ad : Nat → Nat} {B0 : Nat} (hA : adOK B0 ad) (σ : Nat → Nat → Int32) (u : Nat → Int32) (a : Int32) (b : Int32) (c1 : Int32) (hO : okM u) (hwb : vp_in b 24) (hba : vp_in a 4) : Met l yX7_adds wsX7_adds { frames := 0, cells := 0, slots := 0, locals := 0 } (va_Pc [.ref (ad (279)), .int a, .int b, .int c1] (Hp D G ad (va_up σ 16 u))) (va_Qv (fun (z : Nat → Int32) => z = f7_adds u a b c1 ∧ okM z) (fun (z : Nat → Int32) => Ho D G ad (va_up σ 16 z)) (AA B0)) 0 0 (AA B0) := by
  refine Met.ofW (cc := cX7_adds) (maxL := 4) (ret := none) (by decide) rfl ?_
  intro p e s m args below meth c s₁ B hml hv
  obtain ⟨rfl, hP, hK, hN⟩ := hv
  have hx := B.exec
  have hb := B.bytes
  have hr := B.returns
  have hts := atoms_spec (ws := wsX7_adds) B.pre
  have hown : s.vm.findClass RX7 = some m.cls := findClass_of_methodNamed B.named
  have hlocks := B.notSynchronized
  have inX7 : ∀ w ∈ wsX70, w ∈ wsX7_adds := (fun w h => List.mem_cons_of_mem _ (List.mem_append_left _ (List.mem_append_right _ h)))
  have hP : va_P D vwCl (pool G ad (va_up σ 16 u)) s.heap := hP
  have hS : va_S (AA B0) s.heap s.heap [] := va_S.rf
  have hl := lv_entry ([.ref (ad (279)), .int a, .int b, .int c1]) (n := 4) (Nat.le_of_ble_eq_true rfl)
  rw [lg_entry_eq]
  generalize (lg_sl ([.ref (ad (279)), .int a, .int b, .int c1]) ++ List.replicate (4 - (lg_sl ([.ref (ad (279)), .int a, .int b, .int c1])).length) Slot.unset).toArray = ls at hl ⊢
  have hl : lv_has ls 4 [(0, .ref (ad (279))), (1, .int a), (2, .int b), (3, .int c1)] := hl
  obtain ⟨FF, hFF⟩ : ∃ z, z = f7_adds u a b c1 := ⟨_, rfl⟩
  have hF := hFF.symm
  rw [f7_adds] at hF
  refine lv_aload_n hx hb dX7_adds_0 rfl (lv_at hl 0 rfl) ?_
  refine va_get (D := D) (ci := 9) (C := RX7) (T := TX7) (N := 17) hx hb hts inX7 hown hK hP (279) c_279 rfl 1 (by decide) (hts (.fieldLink RX7 7 "TileRunnersModel" "world" "[I") (List.mem_of_getElem? (i := 1) rfl)) (fun _ h9 => h9) rfl dX7_adds_1 ?_
  refine lv_sipush (v := 336) hx hb dX7_adds_4 (by decide) ?_
  refine lv_bipush (v := 24) hx hb dX7_adds_7 (by decide) ?_
  refine lv_iload_n hx hb dX7_adds_9 rfl (lv_at hl 1 rfl) ?_
  refine lv_imul hx hb dX7_adds_10 ?_
  refine lv_iadd hx hb dX7_adds_11 ?_
  refine lv_iload_n hx hb dX7_adds_12 rfl (lv_at hl 2 rfl) ?_
  refine lv_iadd hx hb dX7_adds_13 ?_
  refine lv_dup2_11 hx hb dX7_adds_14 rfl rfl ?_
  refine pald (n := 480) (o := 0) (t := ((336 + (24 * a)) + b).toNatClampNeg) (i := ((336 + (24 * a)) + b)) hx hb hK hP c_280 (in_of hba hwb) (Nat.zero_add _) dX7_adds_15 ?_
  refine lv_iload_n hx hb dX7_adds_16 rfl (lv_at hl 3 rfl) ?_
  refine lv_iadd hx hb dX7_adds_17 ?_
  have hin9 : vp_in ((336 + (24 * a)) + b) 480 := (in_of hba hwb)
  refine past16 (n := 480) (o := 0) (t := ((336 + (24 * a)) + b).toNatClampNeg) hx hb hK hP hA hS (j := 280) (by decide) (by decide) (fun _ _ => rfl) (fun k9 hk9 => by unfold own16; repeat first | rw [if_pos (by omega)] | rw [if_neg (by omega)]) hin9 (Nat.zero_add _) dX7_adds_18 (fun u9 H locs eu9 hP hS => ?_)
  have hlt9 := in_lt hin9
  obtain ⟨u18, e_u18⟩ : ∃ z, z = u9 := ⟨_, rfl⟩
  rw [← e_u18] at hP eu9
  have hF := bnd_s eu9 hF
  have hO := okM_up eu9 hO (by rw [of_ix hba hwb]; have h8 := in_lt hba; have h7 := in_lt hwb; omega) (by rw [of_ix hba hwb]; have h8 := in_lt hba; have h7 := in_lt hwb; omega) (by rw [of_ix hba hwb]; have h8 := in_lt hba; have h7 := in_lt hwb; omega)
  exact W.vret hx hb hr (fun t ht hW => ⟨⟨u18, rfl, ⟨hF.trans hFF, hO⟩, ho_of ht hP⟩, hS.F ht⟩) hS.2.2 dX7_adds_19
theorem hd_X7_addsV : yX7_adds.cls = RX7 ∧ yX7_adds.cls ≠ "java/lang/invoke/MethodHandle" ∧ yX7_adds.cls ≠ "java/lang/invoke/VarHandle" ∧ (parseMethodDescriptor yX7_adds.desc).map (fun d => d.parameters.length) = some 3 := by decide +kernel
set_option maxHeartbeats 4000000 in
set_option maxRecDepth 100000 in
theorem c7_setsPlate (l : Launch) {D : va_G} {G : CY} {ad : Nat → Nat} {B0 : Nat} (hA : adOK B0 ad) (σ : Nat → Nat → Int32) (u : Nat → Int32) (a : Int32) (b : Int32) (c1 : Int32) (hO : okM u) (hwb : vp_in b 8) (hba : vp_in a 4) : Met l yX7_setsPlate wsX7_setsPlate { frames := 0, cells := 0, slots := 0, locals := 0 } (va_Pc [.ref (ad (279)), .int a, .int b, .int c1] (Hp D G ad (va_up σ 16 u))) (va_Qv (fun (z : Nat → Int32) => z = f7_setsPlate u a b c1 ∧ okM z) (fun (z : Nat → Int32) => Ho D G ad (va_up σ 16 z)) (AA B0)) 0 0 (AA B0) := by
  refine Met.ofW (cc := cX7_setsPlate) (maxL := 4) (ret := none) (by decide) rfl ?_
  intro p e s m args below meth c s₁ B hml hv
  obtain ⟨rfl, hP, hK, hN⟩ := hv
  have hx := B.exec
  have hb := B.bytes
  have hr := B.returns
  have hts := atoms_spec (ws := wsX7_setsPlate) B.pre
  have hown : s.vm.findClass RX7 = some m.cls := findClass_of_methodNamed B.named
  have hlocks := B.notSynchronized
  have inX7 : ∀ w ∈ wsX70, w ∈ wsX7_setsPlate := (fun w h => List.mem_cons_of_mem _ (List.mem_append_left _ (List.mem_append_right _ h)))
  have hP : va_P D vwCl (pool G ad (va_up σ 16 u)) s.heap := hP
  have hS : va_S (AA B0) s.heap s.heap [] := va_S.rf
  have hl := lv_entry ([.ref (ad (279)), .int a, .int b, .int c1]) (n := 4) (Nat.le_of_ble_eq_true rfl)
  rw [lg_entry_eq]
  generalize (lg_sl ([.ref (ad (279)), .int a, .int b, .int c1]) ++ List.replicate (4 - (lg_sl ([.ref (ad (279)), .int a, .int b, .int c1])).length) Slot.unset).toArray = ls at hl ⊢
  have hl : lv_has ls 4 [(0, .ref (ad (279))), (1, .int a), (2, .int b), (3, .int c1)] := hl
  obtain ⟨FF, hFF⟩ : ∃ z, z = f7_setsPlate u a b c1 := ⟨_, rfl⟩
  have hF := hFF.symm
  rw [f7_setsPlate] at hF
  refine lv_aload_n hx hb dX7_setsPlate_0 rfl (lv_at hl 0 rfl) ?_
  refine va_get (D := D) (ci := 9) (C := RX7) (T := TX7) (N := 17) hx hb hts inX7 hown hK hP (279) c_279 rfl 1 (by decide) (hts (.fieldLink RX7 7 "TileRunnersModel" "world" "[I") (List.mem_of_getElem? (i := 1) rfl)) (fun _ h9 => h9) rfl dX7_setsPlate_1 ?_
  refine lv_sipush (v := 432) hx hb dX7_setsPlate_4 (by decide) ?_
  refine lv_bipush (v := 8) hx hb dX7_setsPlate_7 (by decide) ?_
  refine lv_iload_n hx hb dX7_setsPlate_9 rfl (lv_at hl 1 rfl) ?_
  refine lv_imul hx hb dX7_setsPlate_10 ?_
  refine lv_iadd hx hb dX7_setsPlate_11 ?_
  refine lv_iload_n hx hb dX7_setsPlate_12 rfl (lv_at hl 2 rfl) ?_
  refine lv_iadd hx hb dX7_setsPlate_13 ?_
  refine lv_iload_n hx hb dX7_setsPlate_14 rfl (lv_at hl 3 rfl) ?_
  have hin9 : vp_in ((432 + (8 * a)) + b) 480 := (in_pl hba hwb)
  refine past16 (n := 480) (o := 0) (t := ((432 + (8 * a)) + b).toNatClampNeg) hx hb hK hP hA hS (j := 280) (by decide) (by decide) (fun _ _ => rfl) (fun k9 hk9 => by unfold own16; repeat first | rw [if_pos (by omega)] | rw [if_neg (by omega)]) hin9 (Nat.zero_add _) dX7_setsPlate_15 (fun u9 H locs eu9 hP hS => ?_)
  have hlt9 := in_lt hin9
  obtain ⟨u15, e_u15⟩ : ∃ z, z = u9 := ⟨_, rfl⟩
  rw [← e_u15] at hP eu9
  have hF := bnd_s eu9 hF
  have hO := okM_up eu9 hO (by rw [pl_ix hba hwb]; have h8 := in_lt hba; have h7 := in_lt hwb; omega) (by rw [pl_ix hba hwb]; have h8 := in_lt hba; have h7 := in_lt hwb; omega) (by rw [pl_ix hba hwb]; have h8 := in_lt hba; have h7 := in_lt hwb; omega)
  exact W.vret hx hb hr (fun t ht hW => ⟨⟨u15, rfl, ⟨hF.trans hFF, hO⟩, ho_of ht hP⟩, hS.F ht⟩) hS.2.2 dX7_setsPlate_16
theorem hd_X7_setsPlateV : yX7_setsPlate.cls = RX7 ∧ yX7_setsPlate.cls ≠ "java/lang/invoke/MethodHandle" ∧ yX7_setsPlate.cls ≠ "java/lang/invoke/VarHandle" ∧ (parseMethodDescriptor yX7_setsPlate.desc).map (fun d => d.parameters.length) = some 3 := by decide +kernel
set_option maxHeartbeats 4000000 in
set_option maxRecDepth 100000 in
theorem c7_thrown (l : Launch) {D : va_G} {G : CY} {ad : Nat → Nat} {B0 : Nat} (hA : adOK B0 ad) (σ : Nat → Nat → Int32) (u : Nat → Int32)  : Met l yX7_thrown wsX7_thrown { frames := 0, cells := 0, slots := 0, locals := 0 } (va_Pc [.ref (ad (279))] (Hp D G ad (va_up σ 16 u))) (va_Qi (fun (r : Int32) (_ : Unit) => r = f7_thrown u) (fun (_ : Unit) => Ho D G ad (va_up σ 16 u)) (AA B0)) 0 0 (AA B0) := by
  refine Met.ofW (cc := cX7_thrown) (maxL := 1) (ret := (some .int)) (by decide) rfl ?_
  intro p e s m args below meth c s₁ B hml hv
  obtain ⟨rfl, hP, hK, hN⟩ := hv
  have hx := B.exec
  have hb := B.bytes
  have hr := B.returns
  have hts := atoms_spec (ws := wsX7_thrown) B.pre
  have hown : s.vm.findClass RX7 = some m.cls := findClass_of_methodNamed B.named
  have hlocks := B.notSynchronized
  have inX7 : ∀ w ∈ wsX70, w ∈ wsX7_thrown := (fun w h => List.mem_cons_of_mem _ (List.mem_append_right _ h))
  have hP : va_P D vwCl (pool G ad (va_up σ 16 u)) s.heap := hP
  have hS : va_S (AA B0) s.heap s.heap [] := va_S.rf
  have hl := lv_entry ([.ref (ad (279))]) (n := 1) (Nat.le_of_ble_eq_true rfl)
  rw [lg_entry_eq]
  generalize (lg_sl ([.ref (ad (279))]) ++ List.replicate (1 - (lg_sl ([.ref (ad (279))])).length) Slot.unset).toArray = ls at hl ⊢
  have hl : lv_has ls 1 [(0, .ref (ad (279)))] := hl
  obtain ⟨FF, hFF⟩ : ∃ z, z = f7_thrown u := ⟨_, rfl⟩
  have hF := hFF.symm
  rw [f7_thrown] at hF
  refine lv_aload_n hx hb dX7_thrown_0 rfl (lv_at hl 0 rfl) ?_
  refine va_get (D := D) (ci := 9) (C := RX7) (T := TX7) (N := 17) hx hb hts inX7 hown hK hP (279) c_279 rfl 0 (by decide) (hts (.fieldLink RX7 45 "TileRunnersModel" "thrown" "I") (List.mem_of_getElem? (i := 1) rfl)) (fun _ h9 => h9) rfl dX7_thrown_1 ?_
  exact W.iret (v := (u 490)) hx hb hr (fun t ht hW => ⟨⟨(u 490), (), rfl, hF.trans hFF, ho_of ht hP⟩, hS.F ht⟩) hS.2.2 dX7_thrown_4
theorem hd_X7_thrownV : yX7_thrown.cls = RX7 ∧ yX7_thrown.cls ≠ "java/lang/invoke/MethodHandle" ∧ yX7_thrown.cls ≠ "java/lang/invoke/VarHandle" ∧ (parseMethodDescriptor yX7_thrown.desc).map (fun d => d.parameters.length) = some 0 := by decide +kernel
set_option maxHeartbeats 4000000 in
set_option maxRecDepth 100000 in
theorem c7_fails (l : Launch) {D : va_G} {G : CY} {ad : Nat → Nat} {B0 : Nat} (hA : adOK B0 ad) (σ : Nat → Nat → Int32) (u : Nat → Int32) (a : Int32) (hO : okM u) : Met l yX7_fails wsX7_fails { frames := 0, cells := 0, slots := 0, locals := 0 } (va_Pc [.ref (ad (279)), .int a] (Hp D G ad (va_up σ 16 u))) (va_Qi (fun (r : Int32) (z : Nat → Int32) => (r, z) = f7_fails u a ∧ okM z) (fun (z : Nat → Int32) => Ho D G ad (va_up σ 16 z)) (AA B0)) 0 0 (AA B0) := by
  refine Met.ofW (cc := cX7_fails) (maxL := 2) (ret := (some .int)) (by decide) rfl ?_
  intro p e s m args below meth c s₁ B hml hv
  obtain ⟨rfl, hP, hK, hN⟩ := hv
  have hx := B.exec
  have hb := B.bytes
  have hr := B.returns
  have hts := atoms_spec (ws := wsX7_fails) B.pre
  have hown : s.vm.findClass RX7 = some m.cls := findClass_of_methodNamed B.named
  have hlocks := B.notSynchronized
  have inX7 : ∀ w ∈ wsX70, w ∈ wsX7_fails := (fun w h => List.mem_cons_of_mem _ (List.mem_append_right _ h))
  have hP : va_P D vwCl (pool G ad (va_up σ 16 u)) s.heap := hP
  have hS : va_S (AA B0) s.heap s.heap [] := va_S.rf
  have hl := lv_entry ([.ref (ad (279)), .int a]) (n := 2) (Nat.le_of_ble_eq_true rfl)
  rw [lg_entry_eq]
  generalize (lg_sl ([.ref (ad (279)), .int a]) ++ List.replicate (2 - (lg_sl ([.ref (ad (279)), .int a])).length) Slot.unset).toArray = ls at hl ⊢
  have hl : lv_has ls 2 [(0, .ref (ad (279))), (1, .int a)] := hl
  obtain ⟨FF, hFF⟩ : ∃ z, z = f7_fails u a := ⟨_, rfl⟩
  have hF := hFF.symm
  rw [f7_fails] at hF
  refine lv_aload_n hx hb dX7_fails_0 rfl (lv_at hl 0 rfl) ?_
  refine lv_iload_n hx hb dX7_fails_1 rfl (lv_at hl 1 rfl) ?_
  refine pput16 hx hb hts inX7 tyX7 tyX7_ok nmX7 hown hK hP hA hS (j := 279) (by decide) (by decide) rfl rfl 0 (by decide) (hts (.fieldLink RX7 45 "TileRunnersModel" "thrown" "I") (List.mem_of_getElem? (i := 1) rfl)) (fun _ h9 => h9) rfl (tyX7_ok 0 (by decide)) rfl rfl (Nat.le_of_ble_eq_true rfl) (490) (by decide) (setM_0) dX7_fails_2 (fun u9 H locs eu9 hP hS => ?_)
  obtain ⟨u2, e_u2⟩ : ∃ z, z = u9 := ⟨_, rfl⟩
  rw [← e_u2] at hP eu9
  have hF := bnd_s eu9 hF
  have hO := okM_up eu9 hO (by omega) (by omega) (by omega)
  refine lv_iconst (v := 0) hx hb dX7_fails_5 (by decide) ?_
  exact W.iret (v := 0) hx hb hr (fun t ht hW => ⟨⟨0, u2, rfl, ⟨hF.trans hFF, hO⟩, ho_of ht hP⟩, hS.F ht⟩) hS.2.2 dX7_fails_6
theorem hd_X7_failsV : yX7_fails.cls = RX7 ∧ yX7_fails.cls ≠ "java/lang/invoke/MethodHandle" ∧ yX7_fails.cls ≠ "java/lang/invoke/VarHandle" ∧ (parseMethodDescriptor yX7_fails.desc).map (fun d => d.parameters.length) = some 1 := by decide +kernel
set_option maxHeartbeats 4000000 in
set_option maxRecDepth 100000 in
theorem c7_refuses (l : Launch) {D : va_G} {G : CY} {ad : Nat → Nat} {B0 : Nat} (hA : adOK B0 ad) (σ : Nat → Nat → Int32) (u : Nat → Int32) (a : Int32) (hO : okM u) : Met l yX7_refuses wsX7_refuses { frames := 0, cells := 0, slots := 0, locals := 0 } (va_Pc [.ref (ad (279)), .int a] (Hp D G ad (va_up σ 16 u))) (va_Qi (fun (r : Int32) (z : Nat → Int32) => (r, z) = f7_refuses u a ∧ okM z ∧ bl r) (fun (z : Nat → Int32) => Ho D G ad (va_up σ 16 z)) (AA B0)) 0 0 (AA B0) := by
  refine Met.ofW (cc := cX7_refuses) (maxL := 2) (ret := (some .boolean)) (by decide) rfl ?_
  intro p e s m args below meth c s₁ B hml hv
  obtain ⟨rfl, hP, hK, hN⟩ := hv
  have hx := B.exec
  have hb := B.bytes
  have hr := B.returns
  have hts := atoms_spec (ws := wsX7_refuses) B.pre
  have hown : s.vm.findClass RX7 = some m.cls := findClass_of_methodNamed B.named
  have hlocks := B.notSynchronized
  have inX7 : ∀ w ∈ wsX70, w ∈ wsX7_refuses := (fun w h => List.mem_cons_of_mem _ (List.mem_append_right _ h))
  have hP : va_P D vwCl (pool G ad (va_up σ 16 u)) s.heap := hP
  have hS : va_S (AA B0) s.heap s.heap [] := va_S.rf
  have hl := lv_entry ([.ref (ad (279)), .int a]) (n := 2) (Nat.le_of_ble_eq_true rfl)
  rw [lg_entry_eq]
  generalize (lg_sl ([.ref (ad (279)), .int a]) ++ List.replicate (2 - (lg_sl ([.ref (ad (279)), .int a])).length) Slot.unset).toArray = ls at hl ⊢
  have hl : lv_has ls 2 [(0, .ref (ad (279))), (1, .int a)] := hl
  obtain ⟨FF, hFF⟩ : ∃ z, z = f7_refuses u a := ⟨_, rfl⟩
  have hF := hFF.symm
  rw [f7_refuses] at hF
  refine lv_aload_n hx hb dX7_refuses_0 rfl (lv_at hl 0 rfl) ?_
  refine lv_iload_n hx hb dX7_refuses_1 rfl (lv_at hl 1 rfl) ?_
  refine pput16 hx hb hts inX7 tyX7 tyX7_ok nmX7 hown hK hP hA hS (j := 279) (by decide) (by decide) rfl rfl 0 (by decide) (hts (.fieldLink RX7 45 "TileRunnersModel" "thrown" "I") (List.mem_of_getElem? (i := 1) rfl)) (fun _ h9 => h9) rfl (tyX7_ok 0 (by decide)) rfl rfl (Nat.le_of_ble_eq_true rfl) (490) (by decide) (setM_0) dX7_refuses_2 (fun u9 H locs eu9 hP hS => ?_)
  obtain ⟨u2, e_u2⟩ : ∃ z, z = u9 := ⟨_, rfl⟩
  rw [← e_u2] at hP eu9
  have hF := bnd_s eu9 hF
  have hO := okM_up eu9 hO (by omega) (by omega) (by omega)
  refine lv_iconst (v := 0) hx hb dX7_refuses_5 (by decide) ?_
  exact W.zret (v := 0) hx hb hr (bl_nar bl0) (fun t ht hW => ⟨⟨0, u2, rfl, ⟨hF.trans hFF, hO, bl0⟩, ho_of ht hP⟩, hS.F ht⟩) hS.2.2 dX7_refuses_6
theorem hd_X7_refusesV : yX7_refuses.cls = RX7 ∧ yX7_refuses.cls ≠ "java/lang/invoke/MethodHandle" ∧ yX7_refuses.cls ≠ "java/lang/invoke/VarHandle" ∧ (parseMethodDescriptor yX7_refuses.desc).map (fun d => d.parameters.length) = some 1 := by decide +kernel
set_option maxHeartbeats 4000000 in
set_option maxRecDepth 100000 in
theorem c7_isBody (l : Launch) {D : va_G} {G : CY} {ad : Nat → Nat} {B0 : Nat} (hA : adOK B0 ad) (σ : Nat → Nat → Int32) (u : Nat → Int32) (a : Int32) : Met l yX7_isBody wsX7_isBody { frames := 0, cells := 0, slots := 0, locals := 0 } (va_Pc [.ref (ad (279)), .int a] (Hp D G ad (va_up σ 16 u))) (va_Qi (fun (r : Int32) (_ : Unit) => r = f7_isBody u a ∧ bl r) (fun (_ : Unit) => Ho D G ad (va_up σ 16 u)) (AA B0)) 0 0 (AA B0) := by
  refine Met.ofW (cc := cX7_isBody) (maxL := 2) (ret := (some .boolean)) (by decide) rfl ?_
  intro p e s m args below meth c s₁ B hml hv
  obtain ⟨rfl, hP, hK, hN⟩ := hv
  have hx := B.exec
  have hb := B.bytes
  have hr := B.returns
  have hts := atoms_spec (ws := wsX7_isBody) B.pre
  have hown : s.vm.findClass RX7 = some m.cls := findClass_of_methodNamed B.named
  have hlocks := B.notSynchronized
  have inX7 : ∀ w ∈ wsX70, w ∈ wsX7_isBody := (fun w h => List.mem_cons_of_mem _ (List.mem_append_left _ (List.mem_append_right _ h)))
  have hP : va_P D vwCl (pool G ad (va_up σ 16 u)) s.heap := hP
  have hS : va_S (AA B0) s.heap s.heap [] := va_S.rf
  have hl := lv_entry ([.ref (ad (279)), .int a]) (n := 2) (Nat.le_of_ble_eq_true rfl)
  rw [lg_entry_eq]
  generalize (lg_sl ([.ref (ad (279)), .int a]) ++ List.replicate (2 - (lg_sl ([.ref (ad (279)), .int a])).length) Slot.unset).toArray = ls at hl ⊢
  have hl : lv_has ls 2 [(0, .ref (ad (279))), (1, .int a)] := hl
  obtain ⟨FF, hFF⟩ : ∃ z, z = f7_isBody u a := ⟨_, rfl⟩
  have hF := hFF.symm
  rw [f7_isBody] at hF
  refine lv_iload_n hx hb dX7_isBody_0 rfl (lv_at hl 1 rfl) ?_
  refine lv_if_lt (tgt := 20) hx hb dX7_isBody_1 (by decide) (fun c1 => ?_) (fun c1 => ?_)
  · have hF := ift c1 hF
    refine lv_iconst (v := 0) hx hb dX7_isBody_20 (by decide) ?_
    exact W.zret (v := 0) hx hb hr (bl_nar bl0) (fun t ht hW => ⟨⟨0, (), rfl, ⟨hF.trans hFF, bl0⟩, ho_of ht hP⟩, hS.F ht⟩) hS.2.2 dX7_isBody_21
  · have hF := iff_ c1 hF
    refine lv_iload_n hx hb dX7_isBody_4 rfl (lv_at hl 1 rfl) ?_
    refine lv_aload_n hx hb dX7_isBody_5 rfl (lv_at hl 0 rfl) ?_
    refine va_get (D := D) (ci := 9) (C := RX7) (T := TX7) (N := 17) hx hb hts inX7 hown hK hP (279) c_279 rfl 1 (by decide) (hts (.fieldLink RX7 7 "TileRunnersModel" "world" "[I") (List.mem_of_getElem? (i := 1) rfl)) (fun _ h9 => h9) rfl dX7_isBody_6 ?_
    refine lv_sipush (v := 464) hx hb dX7_isBody_9 (by decide) ?_
    refine pald (n := 480) (o := 0) (t := 464) (i := 464) hx hb hK hP c_280 (vp_in_iff.mpr (by decide)) rfl dX7_isBody_12 ?_
    refine lv_icmp_ge (tgt := 20) hx hb dX7_isBody_13 (by decide) (fun c13 => ?_) (fun c13 => ?_)
    · have hF := ift c13 hF
      refine lv_iconst (v := 0) hx hb dX7_isBody_20 (by decide) ?_
      exact W.zret (v := 0) hx hb hr (bl_nar bl0) (fun t ht hW => ⟨⟨0, (), rfl, ⟨hF.trans hFF, bl0⟩, ho_of ht hP⟩, hS.F ht⟩) hS.2.2 dX7_isBody_21
    · have hF := iff_ c13 hF
      refine lv_iconst (v := 1) hx hb dX7_isBody_16 (by decide) ?_
      refine lv_goto (tgt := 21) hx hb dX7_isBody_17 (by decide) ?_
      exact W.zret (v := 1) hx hb hr (bl_nar bl1) (fun t ht hW => ⟨⟨1, (), rfl, ⟨hF.trans hFF, bl1⟩, ho_of ht hP⟩, hS.F ht⟩) hS.2.2 dX7_isBody_21
theorem hd_X7_isBodyV : yX7_isBody.cls = RX7 ∧ yX7_isBody.cls ≠ "java/lang/invoke/MethodHandle" ∧ yX7_isBody.cls ≠ "java/lang/invoke/VarHandle" ∧ (parseMethodDescriptor yX7_isBody.desc).map (fun d => d.parameters.length) = some 1 := by decide +kernel
set_option maxHeartbeats 4000000 in
set_option maxRecDepth 100000 in
theorem c7_isPlatform (l : Launch) {D : va_G} {G : CY} {ad : Nat → Nat} {B0 : Nat} (hA : adOK B0 ad) (σ : Nat → Nat → Int32) (u : Nat → Int32) (a : Int32) : Met l yX7_isPlatform wsX7_isPlatform { frames := 0, cells := 0, slots := 0, locals := 0 } (va_Pc [.ref (ad (279)), .int a] (Hp D G ad (va_up σ 16 u))) (va_Qi (fun (r : Int32) (_ : Unit) => r = f7_isPlatform u a ∧ bl r) (fun (_ : Unit) => Ho D G ad (va_up σ 16 u)) (AA B0)) 0 0 (AA B0) := by
  refine Met.ofW (cc := cX7_isPlatform) (maxL := 2) (ret := (some .boolean)) (by decide) rfl ?_
  intro p e s m args below meth c s₁ B hml hv
  obtain ⟨rfl, hP, hK, hN⟩ := hv
  have hx := B.exec
  have hb := B.bytes
  have hr := B.returns
  have hts := atoms_spec (ws := wsX7_isPlatform) B.pre
  have hown : s.vm.findClass RX7 = some m.cls := findClass_of_methodNamed B.named
  have hlocks := B.notSynchronized
  have inX7 : ∀ w ∈ wsX70, w ∈ wsX7_isPlatform := (fun w h => List.mem_cons_of_mem _ (List.mem_append_left _ (List.mem_append_right _ h)))
  have hP : va_P D vwCl (pool G ad (va_up σ 16 u)) s.heap := hP
  have hS : va_S (AA B0) s.heap s.heap [] := va_S.rf
  have hl := lv_entry ([.ref (ad (279)), .int a]) (n := 2) (Nat.le_of_ble_eq_true rfl)
  rw [lg_entry_eq]
  generalize (lg_sl ([.ref (ad (279)), .int a]) ++ List.replicate (2 - (lg_sl ([.ref (ad (279)), .int a])).length) Slot.unset).toArray = ls at hl ⊢
  have hl : lv_has ls 2 [(0, .ref (ad (279))), (1, .int a)] := hl
  obtain ⟨FF, hFF⟩ : ∃ z, z = f7_isPlatform u a := ⟨_, rfl⟩
  have hF := hFF.symm
  rw [f7_isPlatform] at hF
  refine lv_iload_n hx hb dX7_isPlatform_0 rfl (lv_at hl 1 rfl) ?_
  refine lv_if_lt (tgt := 20) hx hb dX7_isPlatform_1 (by decide) (fun c1 => ?_) (fun c1 => ?_)
  · have hF := ift c1 hF
    refine lv_iconst (v := 0) hx hb dX7_isPlatform_20 (by decide) ?_
    exact W.zret (v := 0) hx hb hr (bl_nar bl0) (fun t ht hW => ⟨⟨0, (), rfl, ⟨hF.trans hFF, bl0⟩, ho_of ht hP⟩, hS.F ht⟩) hS.2.2 dX7_isPlatform_21
  · have hF := iff_ c1 hF
    refine lv_iload_n hx hb dX7_isPlatform_4 rfl (lv_at hl 1 rfl) ?_
    refine lv_aload_n hx hb dX7_isPlatform_5 rfl (lv_at hl 0 rfl) ?_
    refine va_get (D := D) (ci := 9) (C := RX7) (T := TX7) (N := 17) hx hb hts inX7 hown hK hP (279) c_279 rfl 1 (by decide) (hts (.fieldLink RX7 7 "TileRunnersModel" "world" "[I") (List.mem_of_getElem? (i := 1) rfl)) (fun _ h9 => h9) rfl dX7_isPlatform_6 ?_
    refine lv_sipush (v := 465) hx hb dX7_isPlatform_9 (by decide) ?_
    refine pald (n := 480) (o := 0) (t := 465) (i := 465) hx hb hK hP c_280 (vp_in_iff.mpr (by decide)) rfl dX7_isPlatform_12 ?_
    refine lv_icmp_ge (tgt := 20) hx hb dX7_isPlatform_13 (by decide) (fun c13 => ?_) (fun c13 => ?_)
    · have hF := ift c13 hF
      refine lv_iconst (v := 0) hx hb dX7_isPlatform_20 (by decide) ?_
      exact W.zret (v := 0) hx hb hr (bl_nar bl0) (fun t ht hW => ⟨⟨0, (), rfl, ⟨hF.trans hFF, bl0⟩, ho_of ht hP⟩, hS.F ht⟩) hS.2.2 dX7_isPlatform_21
    · have hF := iff_ c13 hF
      refine lv_iconst (v := 1) hx hb dX7_isPlatform_16 (by decide) ?_
      refine lv_goto (tgt := 21) hx hb dX7_isPlatform_17 (by decide) ?_
      exact W.zret (v := 1) hx hb hr (bl_nar bl1) (fun t ht hW => ⟨⟨1, (), rfl, ⟨hF.trans hFF, bl1⟩, ho_of ht hP⟩, hS.F ht⟩) hS.2.2 dX7_isPlatform_21
theorem hd_X7_isPlatformV : yX7_isPlatform.cls = RX7 ∧ yX7_isPlatform.cls ≠ "java/lang/invoke/MethodHandle" ∧ yX7_isPlatform.cls ≠ "java/lang/invoke/VarHandle" ∧ (parseMethodDescriptor yX7_isPlatform.desc).map (fun d => d.parameters.length) = some 1 := by decide +kernel
set_option maxHeartbeats 4000000 in
set_option maxRecDepth 100000 in
theorem c7_kindIn (l : Launch) {D : va_G} {G : CY} {ad : Nat → Nat} {B0 : Nat} (hA : adOK B0 ad) (σ : Nat → Nat → Int32) (u : Nat → Int32) (a : Int32) (b : Int32) : Met l yX7_kindIn wsX7_kindIn { frames := 0, cells := 0, slots := 0, locals := 0 } (va_Pc [.ref (ad (279)), .int a, .int b] (Hp D G ad (va_up σ 16 u))) (va_Qi (fun (r : Int32) (_ : Unit) => r = f7_kindIn u a b) (fun (_ : Unit) => Ho D G ad (va_up σ 16 u)) (AA B0)) 0 0 (AA B0) := by
  refine Met.ofW (cc := cX7_kindIn) (maxL := 3) (ret := (some .int)) (by decide) rfl ?_
  intro p e s m args below meth c s₁ B hml hv
  obtain ⟨rfl, hP, hK, hN⟩ := hv
  have hx := B.exec
  have hb := B.bytes
  have hr := B.returns
  have hts := atoms_spec (ws := wsX7_kindIn) B.pre
  have hown : s.vm.findClass RX7 = some m.cls := findClass_of_methodNamed B.named
  have hlocks := B.notSynchronized
  have inX7 : ∀ w ∈ wsX70, w ∈ wsX7_kindIn := (fun w h => List.mem_cons_of_mem _ (List.mem_append_left _ (List.mem_append_right _ h)))
  have hP : va_P D vwCl (pool G ad (va_up σ 16 u)) s.heap := hP
  have hS : va_S (AA B0) s.heap s.heap [] := va_S.rf
  have hl := lv_entry ([.ref (ad (279)), .int a, .int b]) (n := 3) (Nat.le_of_ble_eq_true rfl)
  rw [lg_entry_eq]
  generalize (lg_sl ([.ref (ad (279)), .int a, .int b]) ++ List.replicate (3 - (lg_sl ([.ref (ad (279)), .int a, .int b])).length) Slot.unset).toArray = ls at hl ⊢
  have hl : lv_has ls 3 [(0, .ref (ad (279))), (1, .int a), (2, .int b)] := hl
  obtain ⟨FF, hFF⟩ : ∃ z, z = f7_kindIn u a b := ⟨_, rfl⟩
  have hF := hFF.symm
  rw [f7_kindIn] at hF
  refine lv_iload_n hx hb dX7_kindIn_0 rfl (lv_at hl 1 rfl) ?_
  refine lv_if_lt (tgt := 10) hx hb dX7_kindIn_1 (by decide) (fun c1 => ?_) (fun c1 => ?_)
  · have hF := ift c1 hF
    refine lv_iconst (v := 1) hx hb dX7_kindIn_10 (by decide) ?_
    exact W.iret (v := 1) hx hb hr (fun t ht hW => ⟨⟨1, (), rfl, hF.trans hFF, ho_of ht hP⟩, hS.F ht⟩) hS.2.2 dX7_kindIn_11
  · have hF := iff_ c1 hF
    refine lv_iload_n hx hb dX7_kindIn_4 rfl (lv_at hl 1 rfl) ?_
    refine lv_bipush (v := 24) hx hb dX7_kindIn_5 (by decide) ?_
    refine lv_icmp_lt (tgt := 12) hx hb dX7_kindIn_7 (by decide) (fun c7 => ?_) (fun c7 => ?_)
    · have hF := ift c7 hF
      refine lv_iload_n hx hb dX7_kindIn_12 rfl (lv_at hl 2 rfl) ?_
      refine lv_if_lt (tgt := 22) hx hb dX7_kindIn_13 (by decide) (fun c13 => ?_) (fun c13 => ?_)
      · have hF := ift c13 hF
        refine lv_iconst (v := 0) hx hb dX7_kindIn_22 (by decide) ?_
        refine lv_goto (tgt := 37) hx hb dX7_kindIn_23 (by decide) ?_
        exact W.iret (v := 0) hx hb hr (fun t ht hW => ⟨⟨0, (), rfl, hF.trans hFF, ho_of ht hP⟩, hS.F ht⟩) hS.2.2 dX7_kindIn_37
      · have hF := iff_ c13 hF
        refine lv_iload_n hx hb dX7_kindIn_16 rfl (lv_at hl 2 rfl) ?_
        refine lv_bipush (v := 14) hx hb dX7_kindIn_17 (by decide) ?_
        refine lv_icmp_lt (tgt := 26) hx hb dX7_kindIn_19 (by decide) (fun c19 => ?_) (fun c19 => ?_)
        · have hF := ift c19 hF
          refine lv_aload_n hx hb dX7_kindIn_26 rfl (lv_at hl 0 rfl) ?_
          refine va_get (D := D) (ci := 9) (C := RX7) (T := TX7) (N := 17) hx hb hts inX7 hown hK hP (279) c_279 rfl 1 (by decide) (hts (.fieldLink RX7 7 "TileRunnersModel" "world" "[I") (List.mem_of_getElem? (i := 1) rfl)) (fun _ h9 => h9) rfl dX7_kindIn_27 ?_
          refine lv_bipush (v := 24) hx hb dX7_kindIn_30 (by decide) ?_
          refine lv_iload_n hx hb dX7_kindIn_32 rfl (lv_at hl 2 rfl) ?_
          refine lv_imul hx hb dX7_kindIn_33 ?_
          refine lv_iload_n hx hb dX7_kindIn_34 rfl (lv_at hl 1 rfl) ?_
          refine lv_iadd hx hb dX7_kindIn_35 ?_
          refine pald (n := 480) (o := 0) (t := ((24 * b) + a).toNatClampNeg) (i := ((24 * b) + a)) hx hb hK hP c_280 (in_kidx2 c1 c7 c13 c19) (Nat.zero_add _) dX7_kindIn_36 ?_
          exact W.iret (v := (u (((24 * b) + a).toNatClampNeg))) hx hb hr (fun t ht hW => ⟨⟨(u (((24 * b) + a).toNatClampNeg)), (), rfl, hF.trans hFF, ho_of ht hP⟩, hS.F ht⟩) hS.2.2 dX7_kindIn_37
        · have hF := iff_ c19 hF
          refine lv_iconst (v := 0) hx hb dX7_kindIn_22 (by decide) ?_
          refine lv_goto (tgt := 37) hx hb dX7_kindIn_23 (by decide) ?_
          exact W.iret (v := 0) hx hb hr (fun t ht hW => ⟨⟨0, (), rfl, hF.trans hFF, ho_of ht hP⟩, hS.F ht⟩) hS.2.2 dX7_kindIn_37
    · have hF := iff_ c7 hF
      refine lv_iconst (v := 1) hx hb dX7_kindIn_10 (by decide) ?_
      exact W.iret (v := 1) hx hb hr (fun t ht hW => ⟨⟨1, (), rfl, hF.trans hFF, ho_of ht hP⟩, hS.F ht⟩) hS.2.2 dX7_kindIn_11
theorem hd_X7_kindInV : yX7_kindIn.cls = RX7 ∧ yX7_kindIn.cls ≠ "java/lang/invoke/MethodHandle" ∧ yX7_kindIn.cls ≠ "java/lang/invoke/VarHandle" ∧ (parseMethodDescriptor yX7_kindIn.desc).map (fun d => d.parameters.length) = some 2 := by decide +kernel
set_option maxHeartbeats 4000000 in
set_option maxRecDepth 100000 in
theorem c7_kindAt (l : Launch) {D : va_G} {G : CY} {ad : Nat → Nat} {B0 : Nat} (hA : adOK B0 ad) (σ : Nat → Nat → Int32) (u : Nat → Int32) (a : Int32) (b : Int32) : Met l yX7_kindAt wsX7_kindAt { frames := 2, cells := 0, slots := 0, locals := 42 } (va_Pc [.ref (ad (279)), .int a, .int b] (Hp D G ad (va_up σ 16 u))) (va_Qi (fun (r : Int32) (_ : Unit) => r = f7_kindAt u a b) (fun (_ : Unit) => Ho D G ad (va_up σ 16 u)) (AA B0)) 0 0 (AA B0) := by
  refine Met.ofW (cc := cX7_kindAt) (maxL := 3) (ret := (some .int)) (by decide) rfl ?_
  intro p e s m args below meth c s₁ B hml hv
  obtain ⟨rfl, hP, hK, hN⟩ := hv
  have hx := B.exec
  have hb := B.bytes
  have hr := B.returns
  have hts := atoms_spec (ws := wsX7_kindAt) B.pre
  have hown : s.vm.findClass RX7 = some m.cls := findClass_of_methodNamed B.named
  have hlocks := B.notSynchronized
  have hP : va_P D vwCl (pool G ad (va_up σ 16 u)) s.heap := hP
  have hS : va_S (AA B0) s.heap s.heap [] := va_S.rf
  have hl := lv_entry ([.ref (ad (279)), .int a, .int b]) (n := 3) (Nat.le_of_ble_eq_true rfl)
  rw [lg_entry_eq]
  generalize (lg_sl ([.ref (ad (279)), .int a, .int b]) ++ List.replicate (3 - (lg_sl ([.ref (ad (279)), .int a, .int b])).length) Slot.unset).toArray = ls at hl ⊢
  have hl : lv_has ls 3 [(0, .ref (ad (279))), (1, .int a), (2, .int b)] := hl
  obtain ⟨FF, hFF⟩ : ∃ z, z = f7_kindAt u a b := ⟨_, rfl⟩
  have hF := hFF.symm
  rw [f7_kindAt] at hF
  refine lv_aload_n hx hb dX7_kindAt_0 rfl (lv_at hl 0 rfl) ?_
  refine lv_iload_n hx hb dX7_kindAt_1 rfl (lv_at hl 1 rfl) ?_
  refine lv_bipush (v := 16) hx hb dX7_kindAt_2 (by decide) ?_
  refine va_calli (va_runS (As := [.int a, .int 16]) (rest := [.ref (ad (279))]) ⟨hx, hb, hml, hown, hts⟩ (cJ9_floorDiv l hA (va_up σ 16 u) a 16 (by decide)) (va_cwS 2 hts gX7_kindAt_J9_floorDiv_7cf53 rfl rfl rfl hd_J9_floorDivS ⟨Nat.le_of_ble_eq_true rfl, Nat.le_of_ble_eq_true rfl⟩) ⟨hp_blind, hp_pre hK hN hP⟩ rfl rfl hl.1 rfl (lv_room (Nat.le_of_ble_eq_true rfl)) dX7_kindAt_4 ⟨Nat.zero_le _, Nat.zero_le _⟩) hS (fun _ _ h => h) (fun _ h => h) (fun r4 _ t H locs ht hvm hw9 hB hz1 hk1 hS => ?_)
  have hP := ho_at ht hB
  have eq4 := hw9
  have hF := bnd_s eq4 hF
  refine lv_iload_n hx hb dX7_kindAt_7 rfl (lv_at hl 2 rfl) ?_
  refine va_calli (va_runS (As := [.int b]) (rest := [.int r4, .ref (ad (279))]) ⟨hx, hb, hml, hown, hts⟩ (c7_rowOf l hA (va_up σ 16 u) b ) (va_cwS 1 hts gX7_kindAt_X7_rowOf rfl rfl rfl hd_X7_rowOfS ⟨Nat.le_of_ble_eq_true rfl, Nat.le_of_ble_eq_true rfl⟩) ⟨hp_blind, hp_pre hK hN hP⟩ rfl rfl hl.1 rfl (lv_room (Nat.le_of_ble_eq_true rfl)) dX7_kindAt_8 ⟨Nat.zero_le _, Nat.zero_le _⟩) hS (fun _ _ h => h) (fun _ h => h) (fun r8 _ t H locs ht hvm hw9 hB hz1 hk1 hS => ?_)
  have hP := ho_at ht hB
  obtain ⟨eq8, hq_r8⟩ := hw9
  have hF := bnd_s eq8 hF
  refine va_calli (va_runV (As := [.int r4, .int r8]) (rest := []) ⟨hx, hb, hml, hown, hts⟩ (c7_kindIn l hA σ u r4 r8 ) (cwV 2 hts gX7_kindAt_X7_kindIn rfl rfl rfl hd_X7_kindInV ⟨Nat.le_of_ble_eq_true rfl, Nat.le_of_ble_eq_true rfl⟩) ⟨hp_blind, va_recv hK hP (ci := 9) (q0 := 279) rfl c_279, hp_pre hK hN hP⟩ rfl rfl hl.1 rfl (lv_room (Nat.le_of_ble_eq_true rfl)) dX7_kindAt_11 ⟨Nat.zero_le _, Nat.zero_le _⟩) hS (fun _ _ h => h) (fun _ h => h) (fun r11 _ t H locs ht hvm hw9 hB hz1 hk1 hS => ?_)
  have hP := ho_at ht hB
  have eq11 := hw9
  have hF := bnd_s eq11 hF
  exact W.iret (v := r11) hx hb hr (fun t ht hW => ⟨⟨r11, (), rfl, hF.trans hFF, ho_of ht hP⟩, hS.F ht⟩) hS.2.2 dX7_kindAt_14
theorem hd_X7_kindAtV : yX7_kindAt.cls = RX7 ∧ yX7_kindAt.cls ≠ "java/lang/invoke/MethodHandle" ∧ yX7_kindAt.cls ≠ "java/lang/invoke/VarHandle" ∧ (parseMethodDescriptor yX7_kindAt.desc).map (fun d => d.parameters.length) = some 2 := by decide +kernel
set_option maxHeartbeats 4000000 in
set_option maxRecDepth 100000 in
theorem c7_surfaceAt (l : Launch) {D : va_G} {G : CY} {ad : Nat → Nat} {B0 : Nat} (hA : adOK B0 ad) (σ : Nat → Nat → Int32) (u : Nat → Int32) (a : Int32) (b : Int32) : Met l yX7_surfaceAt wsX7_surfaceAt { frames := 3, cells := 0, slots := 0, locals := 64 } (va_Pc [.ref (ad (279)), .int a, .int b] (Hp D G ad (va_up σ 16 u))) (va_Qi (fun (r : Int32) (_ : Unit) => r = f7_surfaceAt u a b) (fun (_ : Unit) => Ho D G ad (va_up σ 16 u)) (AA B0)) 0 0 (AA B0) := by
  refine Met.ofW (cc := cX7_surfaceAt) (maxL := 3) (ret := (some .int)) (by decide) rfl ?_
  intro p e s m args below meth c s₁ B hml hv
  obtain ⟨rfl, hP, hK, hN⟩ := hv
  have hx := B.exec
  have hb := B.bytes
  have hr := B.returns
  have hts := atoms_spec (ws := wsX7_surfaceAt) B.pre
  have hown : s.vm.findClass RX7 = some m.cls := findClass_of_methodNamed B.named
  have hlocks := B.notSynchronized
  have hP : va_P D vwCl (pool G ad (va_up σ 16 u)) s.heap := hP
  have hS : va_S (AA B0) s.heap s.heap [] := va_S.rf
  have hl := lv_entry ([.ref (ad (279)), .int a, .int b]) (n := 3) (Nat.le_of_ble_eq_true rfl)
  rw [lg_entry_eq]
  generalize (lg_sl ([.ref (ad (279)), .int a, .int b]) ++ List.replicate (3 - (lg_sl ([.ref (ad (279)), .int a, .int b])).length) Slot.unset).toArray = ls at hl ⊢
  have hl : lv_has ls 3 [(0, .ref (ad (279))), (1, .int a), (2, .int b)] := hl
  obtain ⟨FF, hFF⟩ : ∃ z, z = f7_surfaceAt u a b := ⟨_, rfl⟩
  have hF := hFF.symm
  rw [f7_surfaceAt] at hF
  refine lv_bipush (v := 16) hx hb dX7_surfaceAt_0 (by decide) ?_
  refine lv_iload_n hx hb dX7_surfaceAt_2 rfl (lv_at hl 2 rfl) ?_
  refine va_calli (va_runS (As := [.int b]) (rest := [.int 16]) ⟨hx, hb, hml, hown, hts⟩ (c7_rowOf l hA (va_up σ 16 u) b ) (va_cwS 1 hts gX7_surfaceAt_X7_rowOf rfl rfl rfl hd_X7_rowOfS ⟨Nat.le_of_ble_eq_true rfl, Nat.le_of_ble_eq_true rfl⟩) ⟨hp_blind, hp_pre hK hN hP⟩ rfl rfl hl.1 rfl (lv_room (Nat.le_of_ble_eq_true rfl)) dX7_surfaceAt_3 ⟨Nat.zero_le _, Nat.zero_le _⟩) hS (fun _ _ h => h) (fun _ h => h) (fun r3 _ t H locs ht hvm hw9 hB hz1 hk1 hS => ?_)
  have hP := ho_at ht hB
  obtain ⟨eq3, hq_r3⟩ := hw9
  have hF := bnd_s eq3 hF
  refine lv_imul hx hb dX7_surfaceAt_6 ?_
  refine lv_aload_n hx hb dX7_surfaceAt_7 rfl (lv_at hl 0 rfl) ?_
  refine lv_iload_n hx hb dX7_surfaceAt_8 rfl (lv_at hl 1 rfl) ?_
  refine lv_iload_n hx hb dX7_surfaceAt_9 rfl (lv_at hl 2 rfl) ?_
  refine va_calli (va_runV (As := [.int a, .int b]) (rest := [.int (16 * r3)]) ⟨hx, hb, hml, hown, hts⟩ (c7_kindAt l hA σ u a b ) (cwV 2 hts gX7_surfaceAt_X7_kindAt rfl rfl rfl hd_X7_kindAtV ⟨Nat.le_of_ble_eq_true rfl, Nat.le_of_ble_eq_true rfl⟩) ⟨hp_blind, va_recv hK hP (ci := 9) (q0 := 279) rfl c_279, hp_pre hK hN hP⟩ rfl rfl hl.1 rfl (lv_room (Nat.le_of_ble_eq_true rfl)) dX7_surfaceAt_10 ⟨Nat.zero_le _, Nat.zero_le _⟩) hS (fun _ _ h => h) (fun _ h => h) (fun r10 _ t H locs ht hvm hw9 hB hz1 hk1 hS => ?_)
  have hP := ho_at ht hB
  have eq10 := hw9
  have hF := bnd_s eq10 hF
  refine lv_iconst (v := 3) hx hb dX7_surfaceAt_13 (by decide) ?_
  refine lv_icmp_ne (tgt := 26) hx hb dX7_surfaceAt_14 (by decide) (fun c14 => ?_) (fun c14 => ?_)
  · have hF := iff_ c14 hF
    refine lv_bipush (v := 16) hx hb dX7_surfaceAt_26 (by decide) ?_
    refine lv_iload_n hx hb dX7_surfaceAt_28 rfl (lv_at hl 1 rfl) ?_
    refine lv_bipush (v := 16) hx hb dX7_surfaceAt_29 (by decide) ?_
    refine lv_irem hx hb dX7_surfaceAt_31 (by decide) ?_
    refine lv_isub hx hb dX7_surfaceAt_32 ?_
    refine lv_iadd hx hb dX7_surfaceAt_33 ?_
    exact W.iret (v := ((16 * r3) + (16 - (a - a / 16 * 16)))) hx hb hr (fun t ht hW => ⟨⟨((16 * r3) + (16 - (a - a / 16 * 16))), (), rfl, hF.trans hFF, ho_of ht hP⟩, hS.F ht⟩) hS.2.2 dX7_surfaceAt_34
  · have hF := ift c14 hF
    refine lv_iload_n hx hb dX7_surfaceAt_17 rfl (lv_at hl 1 rfl) ?_
    refine lv_bipush (v := 16) hx hb dX7_surfaceAt_18 (by decide) ?_
    refine lv_irem hx hb dX7_surfaceAt_20 (by decide) ?_
    refine lv_iconst (v := 1) hx hb dX7_surfaceAt_21 (by decide) ?_
    refine lv_iadd hx hb dX7_surfaceAt_22 ?_
    refine lv_goto (tgt := 33) hx hb dX7_surfaceAt_23 (by decide) ?_
    refine lv_iadd hx hb dX7_surfaceAt_33 ?_
    exact W.iret (v := ((16 * r3) + ((a - a / 16 * 16) + 1))) hx hb hr (fun t ht hW => ⟨⟨((16 * r3) + ((a - a / 16 * 16) + 1)), (), rfl, hF.trans hFF, ho_of ht hP⟩, hS.F ht⟩) hS.2.2 dX7_surfaceAt_34
theorem hd_X7_surfaceAtV : yX7_surfaceAt.cls = RX7 ∧ yX7_surfaceAt.cls ≠ "java/lang/invoke/MethodHandle" ∧ yX7_surfaceAt.cls ≠ "java/lang/invoke/VarHandle" ∧ (parseMethodDescriptor yX7_surfaceAt.desc).map (fun d => d.parameters.length) = some 2 := by decide +kernel
set_option maxHeartbeats 4000000 in
set_option maxRecDepth 100000 in
theorem c7_foot (l : Launch) {D : va_G} {G : CY} {ad : Nat → Nat} {B0 : Nat} (hA : adOK B0 ad) (σ : Nat → Nat → Int32) (u : Nat → Int32) (a : Int32) (b : Int32) (hba : vp_in a 4) : Met l yX7_foot wsX7_foot { frames := 1, cells := 0, slots := 0, locals := 22 } (va_Pc [.ref (ad (279)), .int a, .int b] (Hp D G ad (va_up σ 16 u))) (va_Qi (fun (r : Int32) (_ : Unit) => r = f7_foot u a b) (fun (_ : Unit) => Ho D G ad (va_up σ 16 u)) (AA B0)) 0 0 (AA B0) := by
  refine Met.ofW (cc := cX7_foot) (maxL := 3) (ret := (some .int)) (by decide) rfl ?_
  intro p e s m args below meth c s₁ B hml hv
  obtain ⟨rfl, hP, hK, hN⟩ := hv
  have hx := B.exec
  have hb := B.bytes
  have hr := B.returns
  have hts := atoms_spec (ws := wsX7_foot) B.pre
  have hown : s.vm.findClass RX7 = some m.cls := findClass_of_methodNamed B.named
  have hlocks := B.notSynchronized
  have hP : va_P D vwCl (pool G ad (va_up σ 16 u)) s.heap := hP
  have hS : va_S (AA B0) s.heap s.heap [] := va_S.rf
  have hl := lv_entry ([.ref (ad (279)), .int a, .int b]) (n := 3) (Nat.le_of_ble_eq_true rfl)
  rw [lg_entry_eq]
  generalize (lg_sl ([.ref (ad (279)), .int a, .int b]) ++ List.replicate (3 - (lg_sl ([.ref (ad (279)), .int a, .int b])).length) Slot.unset).toArray = ls at hl ⊢
  have hl : lv_has ls 3 [(0, .ref (ad (279))), (1, .int a), (2, .int b)] := hl
  obtain ⟨FF, hFF⟩ : ∃ z, z = f7_foot u a b := ⟨_, rfl⟩
  have hF := hFF.symm
  rw [f7_foot] at hF
  refine lv_iload_n hx hb dX7_foot_0 rfl (lv_at hl 2 rfl) ?_
  refine lv_aload_n hx hb dX7_foot_1 rfl (lv_at hl 0 rfl) ?_
  refine lv_iload_n hx hb dX7_foot_2 rfl (lv_at hl 1 rfl) ?_
  refine lv_bipush (v := 7) hx hb dX7_foot_3 (by decide) ?_
  refine va_calli (va_runV (As := [.int a, .int 7]) (rest := [.int b]) ⟨hx, hb, hml, hown, hts⟩ (c7_of l hA σ u a 7 (vp_in_iff.mpr (by decide)) hba) (cwV 2 hts gX7_foot_X7_of rfl rfl rfl hd_X7_ofV ⟨Nat.le_of_ble_eq_true rfl, Nat.le_of_ble_eq_true rfl⟩) ⟨hp_blind, va_recv hK hP (ci := 9) (q0 := 279) rfl c_279, hp_pre hK hN hP⟩ rfl rfl hl.1 rfl (lv_room (Nat.le_of_ble_eq_true rfl)) dX7_foot_5 ⟨Nat.zero_le _, Nat.zero_le _⟩) hS (fun _ _ h => h) (fun _ h => h) (fun r5 _ t H locs ht hvm hw9 hB hz1 hk1 hS => ?_)
  have hP := ho_at ht hB
  have eq5 := hw9
  have hF := bnd_s eq5 hF
  refine lv_iconst (v := 2) hx hb dX7_foot_8 (by decide) ?_
  refine lv_idiv hx hb dX7_foot_9 (by decide) ?_
  refine lv_iadd hx hb dX7_foot_10 ?_
  exact W.iret (v := (b + (r5 / 2))) hx hb hr (fun t ht hW => ⟨⟨(b + (r5 / 2)), (), rfl, hF.trans hFF, ho_of ht hP⟩, hS.F ht⟩) hS.2.2 dX7_foot_11
theorem hd_X7_footV : yX7_foot.cls = RX7 ∧ yX7_foot.cls ≠ "java/lang/invoke/MethodHandle" ∧ yX7_foot.cls ≠ "java/lang/invoke/VarHandle" ∧ (parseMethodDescriptor yX7_foot.desc).map (fun d => d.parameters.length) = some 2 := by decide +kernel
set_option maxHeartbeats 4000000 in
set_option maxRecDepth 100000 in
theorem c7_rowLeftOut (l : Launch) {D : va_G} {G : CY} {ad : Nat → Nat} {B0 : Nat} (hA : adOK B0 ad) (σ : Nat → Nat → Int32) (u : Nat → Int32) (a : Int32) (b : Int32) (c1 : Int32) (hba : vp_in a 4) : Met l yX7_rowLeftOut wsX7_rowLeftOut { frames := 3, cells := 0, slots := 0, locals := 64 } (va_Pc [.ref (ad (279)), .int a, .int b, .int c1] (Hp D G ad (va_up σ 16 u))) (va_Qi (fun (r : Int32) (_ : Unit) => r = f7_rowLeftOut u a b c1) (fun (_ : Unit) => Ho D G ad (va_up σ 16 u)) (AA B0)) 0 0 (AA B0) := by
  refine Met.ofW (cc := cX7_rowLeftOut) (maxL := 4) (ret := (some .int)) (by decide) rfl ?_
  intro p e s m args below meth c s₁ B hml hv
  obtain ⟨rfl, hP, hK, hN⟩ := hv
  have hx := B.exec
  have hb := B.bytes
  have hr := B.returns
  have hts := atoms_spec (ws := wsX7_rowLeftOut) B.pre
  have hown : s.vm.findClass RX7 = some m.cls := findClass_of_methodNamed B.named
  have hlocks := B.notSynchronized
  have hP : va_P D vwCl (pool G ad (va_up σ 16 u)) s.heap := hP
  have hS : va_S (AA B0) s.heap s.heap [] := va_S.rf
  have hl := lv_entry ([.ref (ad (279)), .int a, .int b, .int c1]) (n := 4) (Nat.le_of_ble_eq_true rfl)
  rw [lg_entry_eq]
  generalize (lg_sl ([.ref (ad (279)), .int a, .int b, .int c1]) ++ List.replicate (4 - (lg_sl ([.ref (ad (279)), .int a, .int b, .int c1])).length) Slot.unset).toArray = ls at hl ⊢
  have hl : lv_has ls 4 [(0, .ref (ad (279))), (1, .int a), (2, .int b), (3, .int c1)] := hl
  obtain ⟨FF, hFF⟩ : ∃ z, z = f7_rowLeftOut u a b c1 := ⟨_, rfl⟩
  have hF := hFF.symm
  rw [f7_rowLeftOut] at hF
  refine lv_aload_n hx hb dX7_rowLeftOut_0 rfl (lv_at hl 0 rfl) ?_
  refine lv_aload_n hx hb dX7_rowLeftOut_1 rfl (lv_at hl 0 rfl) ?_
  refine lv_iload_n hx hb dX7_rowLeftOut_2 rfl (lv_at hl 1 rfl) ?_
  refine lv_iload_n hx hb dX7_rowLeftOut_3 rfl (lv_at hl 2 rfl) ?_
  refine va_calli (va_runV (As := [.int a, .int b]) (rest := [.ref (ad (279))]) ⟨hx, hb, hml, hown, hts⟩ (c7_foot l hA σ u a b hba) (cwV 2 hts gX7_rowLeftOut_X7_foot rfl rfl rfl hd_X7_footV ⟨Nat.le_of_ble_eq_true rfl, Nat.le_of_ble_eq_true rfl⟩) ⟨hp_blind, va_recv hK hP (ci := 9) (q0 := 279) rfl c_279, hp_pre hK hN hP⟩ rfl rfl hl.1 rfl (lv_room (Nat.le_of_ble_eq_true rfl)) dX7_rowLeftOut_4 ⟨Nat.zero_le _, Nat.zero_le _⟩) hS (fun _ _ h => h) (fun _ h => h) (fun r4 _ t H locs ht hvm hw9 hB hz1 hk1 hS => ?_)
  have hP := ho_at ht hB
  have eq4 := hw9
  have hF := bnd_s eq4 hF
  refine lv_iload_n hx hb dX7_rowLeftOut_7 rfl (lv_at hl 3 rfl) ?_
  refine va_calli (va_runV (As := [.int r4, .int c1]) (rest := []) ⟨hx, hb, hml, hown, hts⟩ (c7_kindAt l hA σ u r4 c1 ) (cwV 2 hts gX7_rowLeftOut_X7_kindAt rfl rfl rfl hd_X7_kindAtV ⟨Nat.le_of_ble_eq_true rfl, Nat.le_of_ble_eq_true rfl⟩) ⟨hp_blind, va_recv hK hP (ci := 9) (q0 := 279) rfl c_279, hp_pre hK hN hP⟩ rfl rfl hl.1 rfl (lv_room (Nat.le_of_ble_eq_true rfl)) dX7_rowLeftOut_8 ⟨Nat.zero_le _, Nat.zero_le _⟩) hS (fun _ _ h => h) (fun _ h => h) (fun r8 _ t H locs ht hvm hw9 hB hz1 hk1 hS => ?_)
  have hP := ho_at ht hB
  have eq8 := hw9
  have hF := bnd_s eq8 hF
  refine va_calli (va_runS (As := [.int r8]) (rest := []) ⟨hx, hb, hml, hown, hts⟩ (c7_isSlope l hA (va_up σ 16 u) r8 ) (va_cwS 1 hts gX7_rowLeftOut_X7_isSlope rfl rfl rfl hd_X7_isSlopeS ⟨Nat.le_of_ble_eq_true rfl, Nat.le_of_ble_eq_true rfl⟩) ⟨hp_blind, hp_pre hK hN hP⟩ rfl rfl hl.1 rfl (lv_room (Nat.le_of_ble_eq_true rfl)) dX7_rowLeftOut_11 ⟨Nat.zero_le _, Nat.zero_le _⟩) hS (fun _ _ h => h) (fun _ h => h) (fun r11 _ t H locs ht hvm hw9 hB hz1 hk1 hS => ?_)
  have hP := ho_at ht hB
  obtain ⟨eq11, hb_r11⟩ := hw9
  have hF := bnd_s eq11 hF
  refine lv_if_eq (tgt := 24) hx hb dX7_rowLeftOut_14 (by decide) (fun c14 => ?_) (fun c14 => ?_)
  · have hF := ift c14 hF
    refine lv_sipush (v := (-1000)) hx hb dX7_rowLeftOut_24 (by decide) ?_
    exact W.iret (v := (-1000)) hx hb hr (fun t ht hW => ⟨⟨(-1000), (), rfl, hF.trans hFF, ho_of ht hP⟩, hS.F ht⟩) hS.2.2 dX7_rowLeftOut_27
  · have hF := iff_ c14 hF
    refine lv_iload_n hx hb dX7_rowLeftOut_17 rfl (lv_at hl 3 rfl) ?_
    refine va_calli (va_runS (As := [.int c1]) (rest := []) ⟨hx, hb, hml, hown, hts⟩ (c7_rowOf l hA (va_up σ 16 u) c1 ) (va_cwS 1 hts gX7_rowLeftOut_X7_rowOf rfl rfl rfl hd_X7_rowOfS ⟨Nat.le_of_ble_eq_true rfl, Nat.le_of_ble_eq_true rfl⟩) ⟨hp_blind, hp_pre hK hN hP⟩ rfl rfl hl.1 rfl (lv_room (Nat.le_of_ble_eq_true rfl)) dX7_rowLeftOut_18 ⟨Nat.zero_le _, Nat.zero_le _⟩) hS (fun _ _ h => h) (fun _ h => h) (fun r18 _ t H locs ht hvm hw9 hB hz1 hk1 hS => ?_)
    have hP := ho_at ht hB
    obtain ⟨eq18, hq_r18⟩ := hw9
    have hF := bnd_s eq18 hF
    refine lv_goto (tgt := 27) hx hb dX7_rowLeftOut_21 (by decide) ?_
    exact W.iret (v := r18) hx hb hr (fun t ht hW => ⟨⟨r18, (), rfl, hF.trans hFF, ho_of ht hP⟩, hS.F ht⟩) hS.2.2 dX7_rowLeftOut_27
theorem hd_X7_rowLeftOutV : yX7_rowLeftOut.cls = RX7 ∧ yX7_rowLeftOut.cls ≠ "java/lang/invoke/MethodHandle" ∧ yX7_rowLeftOut.cls ≠ "java/lang/invoke/VarHandle" ∧ (parseMethodDescriptor yX7_rowLeftOut.desc).map (fun d => d.parameters.length) = some 3 := by decide +kernel
set_option maxHeartbeats 4000000 in
set_option maxRecDepth 100000 in
theorem c7_blocks (l : Launch) {D : va_G} {G : CY} {ad : Nat → Nat} {B0 : Nat} (hA : adOK B0 ad) (σ : Nat → Nat → Int32) (u : Nat → Int32) (a : Int32) (b : Int32) (c1 : Int32) (hba : vp_in a 4) : Met l yX7_blocks wsX7_blocks { frames := 4, cells := 0, slots := 0, locals := 87 } (va_Pc [.ref (ad (279)), .int a, .int b, .int c1] (Hp D G ad (va_up σ 16 u))) (va_Qi (fun (r : Int32) (_ : Unit) => r = f7_blocks u a b c1 ∧ bl r) (fun (_ : Unit) => Ho D G ad (va_up σ 16 u)) (AA B0)) 0 0 (AA B0) := by
  refine Met.ofW (cc := cX7_blocks) (maxL := 7) (ret := (some .boolean)) (by decide) rfl ?_
  intro p e s m args below meth c s₁ B hml hv
  obtain ⟨rfl, hP, hK, hN⟩ := hv
  have hx := B.exec
  have hb := B.bytes
  have hr := B.returns
  have hts := atoms_spec (ws := wsX7_blocks) B.pre
  have hown : s.vm.findClass RX7 = some m.cls := findClass_of_methodNamed B.named
  have hlocks := B.notSynchronized
  have hP : va_P D vwCl (pool G ad (va_up σ 16 u)) s.heap := hP
  have hS : va_S (AA B0) s.heap s.heap [] := va_S.rf
  have hl := lv_entry ([.ref (ad (279)), .int a, .int b, .int c1]) (n := 7) (Nat.le_of_ble_eq_true rfl)
  rw [lg_entry_eq]
  generalize (lg_sl ([.ref (ad (279)), .int a, .int b, .int c1]) ++ List.replicate (7 - (lg_sl ([.ref (ad (279)), .int a, .int b, .int c1])).length) Slot.unset).toArray = ls at hl ⊢
  have hl : lv_has ls 7 [(0, .ref (ad (279))), (1, .int a), (2, .int b), (3, .int c1)] := hl
  obtain ⟨FF, hFF⟩ : ∃ z, z = f7_blocks u a b c1 := ⟨_, rfl⟩
  have hF := hFF.symm
  rw [f7_blocks] at hF
  refine lv_aload_n hx hb dX7_blocks_0 rfl (lv_at hl 0 rfl) ?_
  refine lv_iload_n hx hb dX7_blocks_1 rfl (lv_at hl 1 rfl) ?_
  refine lv_iload_n hx hb dX7_blocks_2 rfl (lv_at hl 2 rfl) ?_
  refine lv_iload_n hx hb dX7_blocks_3 rfl (lv_at hl 3 rfl) ?_
  refine va_calli (va_runV (As := [.int a, .int b, .int c1]) (rest := []) ⟨hx, hb, hml, hown, hts⟩ (c7_rowLeftOut l hA σ u a b c1 hba) (cwV 3 hts gX7_blocks_X7_rowLeftOut rfl rfl rfl hd_X7_rowLeftOutV ⟨Nat.le_of_ble_eq_true rfl, Nat.le_of_ble_eq_true rfl⟩) ⟨hp_blind, va_recv hK hP (ci := 9) (q0 := 279) rfl c_279, hp_pre hK hN hP⟩ rfl rfl hl.1 rfl (lv_room (Nat.le_of_ble_eq_true rfl)) dX7_blocks_4 ⟨Nat.zero_le _, Nat.zero_le _⟩) hS (fun _ _ h => h) (fun _ h => h) (fun r4 _ t H locs ht hvm hw9 hB hz1 hk1 hS => ?_)
  have hP := ho_at ht hB
  have eq4 := hw9
  have hF := bnd_s eq4 hF
  refine lv_istore (lv' := [(4, .int r4), (0, .ref (ad (279))), (1, .int a), (2, .int b), (3, .int c1)]) hx hb dX7_blocks_7 hl (by decide) rfl (fun ls hl => ?_)
  refine lv_iload_n hx hb dX7_blocks_9 rfl (lv_at hl 3 rfl) ?_
  refine lv_bipush (v := 16) hx hb dX7_blocks_10 (by decide) ?_
  refine va_calli (va_runS (As := [.int b, .int 16]) (rest := []) ⟨hx, hb, hml, hown, hts⟩ (cJ9_floorDiv l hA (va_up σ 16 u) b 16 (by decide)) (va_cwS 2 hts gX7_blocks_J9_floorDiv_7cf53 rfl rfl rfl hd_J9_floorDivS ⟨Nat.le_of_ble_eq_true rfl, Nat.le_of_ble_eq_true rfl⟩) ⟨hp_blind, hp_pre hK hN hP⟩ rfl rfl hl.1 rfl (lv_room (Nat.le_of_ble_eq_true rfl)) dX7_blocks_12 ⟨Nat.zero_le _, Nat.zero_le _⟩) hS (fun _ _ h => h) (fun _ h => h) (fun r12 _ t H locs ht hvm hw9 hB hz1 hk1 hS => ?_)
  have hP := ho_at ht hB
  have eq12 := hw9
  have hF := bnd_s eq12 hF
  refine lv_istore (lv' := [(5, .int r12), (4, .int r4), (0, .ref (ad (279))), (1, .int a), (2, .int b), (3, .int c1)]) hx hb dX7_blocks_15 hl (by decide) rfl (fun ls hl => ?_)
  have L17 : ∀ (n17 : Nat) (w5_17 : Int32) (H : Heap) (locs : List Loc) (ls : Array Slot), (134217728 - w5_17.toInt).toNat < n17 → va_P D vwCl (pool G ad (va_up σ 16 u)) H → va_S (AA B0) s.heap H locs → lv_has ls 7 [(5, .int w5_17), (4, .int r4), (0, .ref (ad (279))), (1, .int a), (2, .int b), (3, .int c1)] → f7_blocks_L17 u a b c1 r4 n17 w5_17 = FF → W p l e (headSpec wsX7_blocks { frames := 4, cells := 0, slots := 0, locals := 87 }).room s m ([.ref (ad (279)), .int a, .int b, .int c1] : List Value).toArray below meth c H locs 0 0 (MQ below (va_Qi (fun (r : Int32) (_ : Unit) => r = f7_blocks u a b c1 ∧ bl r) (fun (_ : Unit) => Ho D G ad (va_up σ 16 u)) (AA B0)) ([.ref (ad (279)), .int a, .int b, .int c1] : List Value).toArray s 0 0 (AA B0)) (F0 m 17 ls []) := by
    intro n17
    induction n17 with
    | zero => intro w5_17 H locs ls hm; exact absurd hm (Nat.not_lt_zero _)
    | succ n17 ih17 =>
      intro w5_17 H locs ls hm17 hP hS hl hF
      rw [f7_blocks_L17] at hF
      refine lv_iload hx hb dX7_blocks_17 (lv_at hl 0 rfl) ?_
      refine lv_iload_n hx hb dX7_blocks_19 rfl (lv_at hl 4 rfl) ?_
      refine lv_aload_n hx hb dX7_blocks_20 rfl (lv_at hl 2 rfl) ?_
      refine lv_iload_n hx hb dX7_blocks_21 rfl (lv_at hl 3 rfl) ?_
      refine lv_bipush (v := 7) hx hb dX7_blocks_22 (by decide) ?_
      refine va_calli (va_runV (As := [.int a, .int 7]) (rest := [.int b, .int w5_17]) ⟨hx, hb, hml, hown, hts⟩ (c7_of l hA σ u a 7 (vp_in_iff.mpr (by decide)) hba) (cwV 2 hts gX7_blocks_X7_of rfl rfl rfl hd_X7_ofV ⟨Nat.le_of_ble_eq_true rfl, Nat.le_of_ble_eq_true rfl⟩) ⟨hp_blind, va_recv hK hP (ci := 9) (q0 := 279) rfl c_279, hp_pre hK hN hP⟩ rfl rfl hl.1 rfl (lv_room (Nat.le_of_ble_eq_true rfl)) dX7_blocks_24 ⟨Nat.zero_le _, Nat.zero_le _⟩) hS (fun _ _ h => h) (fun _ h => h) (fun r24 _ t H locs ht hvm hw9 hB hz1 hk1 hS => ?_)
      have hP := ho_at ht hB
      have eq24 := hw9
      have hF := bnd_s eq24 hF
      refine lv_iadd hx hb dX7_blocks_27 ?_
      refine lv_iconst (v := 1) hx hb dX7_blocks_28 (by decide) ?_
      refine lv_isub hx hb dX7_blocks_29 ?_
      refine lv_bipush (v := 16) hx hb dX7_blocks_30 (by decide) ?_
      refine va_calli (va_runS (As := [.int ((b + r24) - 1), .int 16]) (rest := [.int w5_17]) ⟨hx, hb, hml, hown, hts⟩ (cJ9_floorDiv l hA (va_up σ 16 u) ((b + r24) - 1) 16 (by decide)) (va_cwS 2 hts gX7_blocks_J9_floorDiv_7cf53 rfl rfl rfl hd_J9_floorDivS ⟨Nat.le_of_ble_eq_true rfl, Nat.le_of_ble_eq_true rfl⟩) ⟨hp_blind, hp_pre hK hN hP⟩ rfl rfl hl.1 rfl (lv_room (Nat.le_of_ble_eq_true rfl)) dX7_blocks_32 ⟨Nat.zero_le _, Nat.zero_le _⟩) hS (fun _ _ h => h) (fun _ h => h) (fun r32 _ t H locs ht hvm hw9 hB hz1 hk1 hS => ?_)
      have hP := ho_at ht hB
      have eq32 := hw9
      have hF := bnd_s eq32 hF
      refine lv_icmp_gt (tgt := 106) hx hb dX7_blocks_35 (by decide) (fun c35 => ?_) (fun c35 => ?_)
      · have hF := ift c35 hF
        refine lv_iconst (v := 0) hx hb dX7_blocks_106 (by decide) ?_
        exact W.zret (v := 0) hx hb hr (bl_nar bl0) (fun t ht hW => ⟨⟨0, (), rfl, ⟨hF.trans hFF, bl0⟩, ho_of ht hP⟩, hS.F ht⟩) hS.2.2 dX7_blocks_107
      · have hF := iff_ c35 hF
        refine lv_iload_n hx hb dX7_blocks_38 rfl (lv_at hl 5 rfl) ?_
        refine va_calli (va_runS (As := [.int c1]) (rest := []) ⟨hx, hb, hml, hown, hts⟩ (c7_rowOf l hA (va_up σ 16 u) c1 ) (va_cwS 1 hts gX7_blocks_X7_rowOf rfl rfl rfl hd_X7_rowOfS ⟨Nat.le_of_ble_eq_true rfl, Nat.le_of_ble_eq_true rfl⟩) ⟨hp_blind, hp_pre hK hN hP⟩ rfl rfl hl.1 rfl (lv_room (Nat.le_of_ble_eq_true rfl)) dX7_blocks_39 ⟨Nat.zero_le _, Nat.zero_le _⟩) hS (fun _ _ h => h) (fun _ h => h) (fun r39 _ t H locs ht hvm hw9 hB hz1 hk1 hS => ?_)
        have hP := ho_at ht hB
        obtain ⟨eq39, hq_r39⟩ := hw9
        have hF := bnd_s eq39 hF
        refine lv_istore (lv' := [(6, .int r39), (5, .int w5_17), (4, .int r4), (0, .ref (ad (279))), (1, .int a), (2, .int b), (3, .int c1)]) hx hb dX7_blocks_42 hl (by decide) rfl (fun ls hl => ?_)
        have L44 : ∀ (n44 : Nat) (w6_44 : Int32) (H : Heap) (locs : List Loc) (ls : Array Slot), (134217728 - w6_44.toInt).toNat < n44 → va_P D vwCl (pool G ad (va_up σ 16 u)) H → va_S (AA B0) s.heap H locs → lv_has ls 7 [(6, .int w6_44), (5, .int w5_17), (4, .int r4), (0, .ref (ad (279))), (1, .int a), (2, .int b), (3, .int c1)] → f7_blocks_L44 (f7_blocks_L17 u a b c1 r4 n17) u a c1 r4 w5_17 n44 w6_44 = FF → W p l e (headSpec wsX7_blocks { frames := 4, cells := 0, slots := 0, locals := 87 }).room s m ([.ref (ad (279)), .int a, .int b, .int c1] : List Value).toArray below meth c H locs 0 0 (MQ below (va_Qi (fun (r : Int32) (_ : Unit) => r = f7_blocks u a b c1 ∧ bl r) (fun (_ : Unit) => Ho D G ad (va_up σ 16 u)) (AA B0)) ([.ref (ad (279)), .int a, .int b, .int c1] : List Value).toArray s 0 0 (AA B0)) (F0 m 44 ls []) := by
          intro n44
          induction n44 with
          | zero => intro w6_44 H locs ls hm; exact absurd hm (Nat.not_lt_zero _)
          | succ n44 ih44 =>
            intro w6_44 H locs ls hm44 hP hS hl hF
            rw [f7_blocks_L44] at hF
            refine lv_iload hx hb dX7_blocks_44 (lv_at hl 0 rfl) ?_
            refine lv_iload_n hx hb dX7_blocks_46 rfl (lv_at hl 6 rfl) ?_
            refine lv_aload_n hx hb dX7_blocks_47 rfl (lv_at hl 3 rfl) ?_
            refine lv_iload_n hx hb dX7_blocks_48 rfl (lv_at hl 4 rfl) ?_
            refine lv_bipush (v := 8) hx hb dX7_blocks_49 (by decide) ?_
            refine va_calli (va_runV (As := [.int a, .int 8]) (rest := [.int c1, .int w6_44]) ⟨hx, hb, hml, hown, hts⟩ (c7_of l hA σ u a 8 (vp_in_iff.mpr (by decide)) hba) (cwV 2 hts gX7_blocks_X7_of rfl rfl rfl hd_X7_ofV ⟨Nat.le_of_ble_eq_true rfl, Nat.le_of_ble_eq_true rfl⟩) ⟨hp_blind, va_recv hK hP (ci := 9) (q0 := 279) rfl c_279, hp_pre hK hN hP⟩ rfl rfl hl.1 rfl (lv_room (Nat.le_of_ble_eq_true rfl)) dX7_blocks_51 ⟨Nat.zero_le _, Nat.zero_le _⟩) hS (fun _ _ h => h) (fun _ h => h) (fun r51 _ t H locs ht hvm hw9 hB hz1 hk1 hS => ?_)
            have hP := ho_at ht hB
            have eq51 := hw9
            have hF := bnd_s eq51 hF
            refine lv_iadd hx hb dX7_blocks_54 ?_
            refine lv_iconst (v := 1) hx hb dX7_blocks_55 (by decide) ?_
            refine lv_isub hx hb dX7_blocks_56 ?_
            refine va_calli (va_runS (As := [.int ((c1 + r51) - 1)]) (rest := [.int w6_44]) ⟨hx, hb, hml, hown, hts⟩ (c7_rowOf l hA (va_up σ 16 u) ((c1 + r51) - 1) ) (va_cwS 1 hts gX7_blocks_X7_rowOf rfl rfl rfl hd_X7_rowOfS ⟨Nat.le_of_ble_eq_true rfl, Nat.le_of_ble_eq_true rfl⟩) ⟨hp_blind, hp_pre hK hN hP⟩ rfl rfl hl.1 rfl (lv_room (Nat.le_of_ble_eq_true rfl)) dX7_blocks_57 ⟨Nat.zero_le _, Nat.zero_le _⟩) hS (fun _ _ h => h) (fun _ h => h) (fun r57 _ t H locs ht hvm hw9 hB hz1 hk1 hS => ?_)
            have hP := ho_at ht hB
            obtain ⟨eq57, hq_r57⟩ := hw9
            have hF := bnd_s eq57 hF
            refine lv_icmp_gt (tgt := 100) hx hb dX7_blocks_60 (by decide) (fun c60 => ?_) (fun c60 => ?_)
            · have hF := ift c60 hF
              obtain ⟨v5_100, e_v5_100⟩ : ∃ z : Int32, z = w5_17 + 1 := ⟨_, rfl⟩
              have hF := bnd_s e_v5_100 hF
              refine lv_iinc (v := v5_100) (lv' := [(5, .int v5_100), (6, .int w6_44), (4, .int r4), (0, .ref (ad (279))), (1, .int a), (2, .int b), (3, .int c1)]) hx hb dX7_blocks_100 hl (k := 1) rfl (by rw [e_v5_100]; rfl) (by decide) rfl (fun ls hl => ?_)
              refine lv_goto (tgt := 17) hx hb dX7_blocks_103 (by decide) ?_
              exact ih17 v5_100 _ _ ls (ms_s (dec_k c35 (by rw [eq32]; exact fd16_le _) e_v5_100) hm17) hP hS (lv_sub hl [0, 2, 3, 4, 5, 6] rfl) hF
            · have hF := iff_ c60 hF
              refine lv_aload_n hx hb dX7_blocks_63 rfl (lv_at hl 3 rfl) ?_
              refine lv_iload hx hb dX7_blocks_64 (lv_at hl 1 rfl) ?_
              refine lv_iload hx hb dX7_blocks_66 (lv_at hl 0 rfl) ?_
              refine va_calli (va_runV (As := [.int w5_17, .int w6_44]) (rest := []) ⟨hx, hb, hml, hown, hts⟩ (c7_kindIn l hA σ u w5_17 w6_44 ) (cwV 2 hts gX7_blocks_X7_kindIn rfl rfl rfl hd_X7_kindInV ⟨Nat.le_of_ble_eq_true rfl, Nat.le_of_ble_eq_true rfl⟩) ⟨hp_blind, va_recv hK hP (ci := 9) (q0 := 279) rfl c_279, hp_pre hK hN hP⟩ rfl rfl hl.1 rfl (lv_room (Nat.le_of_ble_eq_true rfl)) dX7_blocks_68 ⟨Nat.zero_le _, Nat.zero_le _⟩) hS (fun _ _ h => h) (fun _ h => h) (fun r68 _ t H locs ht hvm hw9 hB hz1 hk1 hS => ?_)
              have hP := ho_at ht hB
              have eq68 := hw9
              have hF := bnd_s eq68 hF
              refine va_calli (va_runS (As := [.int r68]) (rest := []) ⟨hx, hb, hml, hown, hts⟩ (c7_isFirm l hA (va_up σ 16 u) r68 ) (va_cwS 1 hts gX7_blocks_X7_isFirm rfl rfl rfl hd_X7_isFirmS ⟨Nat.le_of_ble_eq_true rfl, Nat.le_of_ble_eq_true rfl⟩) ⟨hp_blind, hp_pre hK hN hP⟩ rfl rfl hl.1 rfl (lv_room (Nat.le_of_ble_eq_true rfl)) dX7_blocks_71 ⟨Nat.zero_le _, Nat.zero_le _⟩) hS (fun _ _ h => h) (fun _ h => h) (fun r71 _ t H locs ht hvm hw9 hB hz1 hk1 hS => ?_)
              have hP := ho_at ht hB
              obtain ⟨eq71, hb_r71⟩ := hw9
              have hF := bnd_s eq71 hF
              have J94 : ∀  (H : Heap) (locs : List Loc) (ls : Array Slot), va_P D vwCl (pool G ad (va_up σ 16 u)) H → va_S (AA B0) s.heap H locs → lv_has ls 7 [(6, .int w6_44), (5, .int w5_17), (4, .int r4), (0, .ref (ad (279))), (1, .int a), (2, .int b), (3, .int c1)] → f7_blocks_b94 (f7_blocks_L44 (f7_blocks_L17 u a b c1 r4 n17) u a c1 r4 w5_17 n44) w6_44  = FF → W p l e (headSpec wsX7_blocks { frames := 4, cells := 0, slots := 0, locals := 87 }).room s m ([.ref (ad (279)), .int a, .int b, .int c1] : List Value).toArray below meth c H locs 0 0 (MQ below (va_Qi (fun (r : Int32) (_ : Unit) => r = f7_blocks u a b c1 ∧ bl r) (fun (_ : Unit) => Ho D G ad (va_up σ 16 u)) (AA B0)) ([.ref (ad (279)), .int a, .int b, .int c1] : List Value).toArray s 0 0 (AA B0)) (F0 m 94 ls []) := by
                intro  H locs ls hP hS hl hF
                rw [f7_blocks_b94] at hF
                obtain ⟨v6_94, e_v6_94⟩ : ∃ z : Int32, z = w6_44 + 1 := ⟨_, rfl⟩
                have hF := bnd_s e_v6_94 hF
                refine lv_iinc (v := v6_94) (lv' := [(6, .int v6_94), (5, .int w5_17), (4, .int r4), (0, .ref (ad (279))), (1, .int a), (2, .int b), (3, .int c1)]) hx hb dX7_blocks_94 hl (k := 0) rfl (by rw [e_v6_94]; rfl) (by decide) rfl (fun ls hl => ?_)
                refine lv_goto (tgt := 44) hx hb dX7_blocks_97 (by decide) ?_
                exact ih44 v6_94 _ _ ls (ms_s (dec_k c60 hq_r57 e_v6_94) hm44) hP hS (lv_sub hl [0, 1, 2, 3, 4, 5, 6] rfl) hF
              refine lv_if_eq (tgt := 94) hx hb dX7_blocks_74 (by decide) (fun c74 => ?_) (fun c74 => ?_)
              · have hF := ift c74 hF
                exact J94  _ _ ls hP hS (lv_sub hl [0, 1, 2, 3, 4, 5, 6] rfl) hF
              · have hF := iff_ c74 hF
                refine lv_iload hx hb dX7_blocks_77 (lv_at hl 0 rfl) ?_
                refine lv_iload hx hb dX7_blocks_79 (lv_at hl 2 rfl) ?_
                refine lv_icmp_ne (tgt := 92) hx hb dX7_blocks_81 (by decide) (fun c81 => ?_) (fun c81 => ?_)
                · have hF := iff_ c81 hF
                  refine lv_iconst (v := 1) hx hb dX7_blocks_92 (by decide) ?_
                  exact W.zret (v := 1) hx hb hr (bl_nar bl1) (fun t ht hW => ⟨⟨1, (), rfl, ⟨hF.trans hFF, bl1⟩, ho_of ht hP⟩, hS.F ht⟩) hS.2.2 dX7_blocks_93
                · have hF := ift c81 hF
                  refine lv_iload hx hb dX7_blocks_84 (lv_at hl 1 rfl) ?_
                  refine va_calli (va_runS (As := [.int w5_17]) (rest := []) ⟨hx, hb, hml, hown, hts⟩ (c7_isBeside l hA (va_up σ 16 u) w5_17 ) (va_cwS 1 hts gX7_blocks_X7_isBeside rfl rfl rfl hd_X7_isBesideS ⟨Nat.le_of_ble_eq_true rfl, Nat.le_of_ble_eq_true rfl⟩) ⟨hp_blind, hp_pre hK hN hP⟩ rfl rfl hl.1 rfl (lv_room (Nat.le_of_ble_eq_true rfl)) dX7_blocks_86 ⟨Nat.zero_le _, Nat.zero_le _⟩) hS (fun _ _ h => h) (fun _ h => h) (fun r86 _ t H locs ht hvm hw9 hB hz1 hk1 hS => ?_)
                  have hP := ho_at ht hB
                  obtain ⟨eq86, hb_r86⟩ := hw9
                  have hF := bnd_s eq86 hF
                  refine lv_if_eq (tgt := 94) hx hb dX7_blocks_89 (by decide) (fun c89 => ?_) (fun c89 => ?_)
                  · have hF := ift c89 hF
                    exact J94  _ _ ls hP hS (lv_sub hl [0, 1, 2, 3, 4, 5, 6] rfl) hF
                  · have hF := iff_ c89 hF
                    refine lv_iconst (v := 1) hx hb dX7_blocks_92 (by decide) ?_
                    exact W.zret (v := 1) hx hb hr (bl_nar bl1) (fun t ht hW => ⟨⟨1, (), rfl, ⟨hF.trans hFF, bl1⟩, ho_of ht hP⟩, hS.F ht⟩) hS.2.2 dX7_blocks_93
        exact L44 BIG r39 _ _ ls (big_k _) hP hS (lv_sub hl [0, 1, 2, 3, 4, 5, 6] rfl) hF
  exact L17 BIG r12 _ _ ls (big_k _) hP hS (lv_sub hl [0, 1, 2, 3, 4, 5] rfl) hF
theorem hd_X7_blocksV : yX7_blocks.cls = RX7 ∧ yX7_blocks.cls ≠ "java/lang/invoke/MethodHandle" ∧ yX7_blocks.cls ≠ "java/lang/invoke/VarHandle" ∧ (parseMethodDescriptor yX7_blocks.desc).map (fun d => d.parameters.length) = some 3 := by decide +kernel
set_option maxHeartbeats 4000000 in
set_option maxRecDepth 100000 in
theorem c7_firmBelow (l : Launch) {D : va_G} {G : CY} {ad : Nat → Nat} {B0 : Nat} (hA : adOK B0 ad) (σ : Nat → Nat → Int32) (u : Nat → Int32) (a : Int32) (b : Int32) (c1 : Int32) (hba : vp_in a 4) : Met l yX7_firmBelow wsX7_firmBelow { frames := 4, cells := 0, slots := 0, locals := 87 } (va_Pc [.ref (ad (279)), .int a, .int b, .int c1] (Hp D G ad (va_up σ 16 u))) (va_Qi (fun (r : Int32) (_ : Unit) => r = f7_firmBelow u a b c1) (fun (_ : Unit) => Ho D G ad (va_up σ 16 u)) (AA B0)) 0 0 (AA B0) := by
  refine Met.ofW (cc := cX7_firmBelow) (maxL := 9) (ret := (some .int)) (by decide) rfl ?_
  intro p e s m args below meth c s₁ B hml hv
  obtain ⟨rfl, hP, hK, hN⟩ := hv
  have hx := B.exec
  have hb := B.bytes
  have hr := B.returns
  have hts := atoms_spec (ws := wsX7_firmBelow) B.pre
  have hown : s.vm.findClass RX7 = some m.cls := findClass_of_methodNamed B.named
  have hlocks := B.notSynchronized
  have hP : va_P D vwCl (pool G ad (va_up σ 16 u)) s.heap := hP
  have hS : va_S (AA B0) s.heap s.heap [] := va_S.rf
  have hl := lv_entry ([.ref (ad (279)), .int a, .int b, .int c1]) (n := 9) (Nat.le_of_ble_eq_true rfl)
  rw [lg_entry_eq]
  generalize (lg_sl ([.ref (ad (279)), .int a, .int b, .int c1]) ++ List.replicate (9 - (lg_sl ([.ref (ad (279)), .int a, .int b, .int c1])).length) Slot.unset).toArray = ls at hl ⊢
  have hl : lv_has ls 9 [(0, .ref (ad (279))), (1, .int a), (2, .int b), (3, .int c1)] := hl
  obtain ⟨FF, hFF⟩ : ∃ z, z = f7_firmBelow u a b c1 := ⟨_, rfl⟩
  have hF := hFF.symm
  rw [f7_firmBelow] at hF
  refine lv_aload_n hx hb dX7_firmBelow_0 rfl (lv_at hl 0 rfl) ?_
  refine lv_iload_n hx hb dX7_firmBelow_1 rfl (lv_at hl 1 rfl) ?_
  refine lv_iload_n hx hb dX7_firmBelow_2 rfl (lv_at hl 2 rfl) ?_
  refine lv_iload_n hx hb dX7_firmBelow_3 rfl (lv_at hl 3 rfl) ?_
  refine va_calli (va_runV (As := [.int a, .int b, .int c1]) (rest := []) ⟨hx, hb, hml, hown, hts⟩ (c7_rowLeftOut l hA σ u a b c1 hba) (cwV 3 hts gX7_firmBelow_X7_rowLeftOut rfl rfl rfl hd_X7_rowLeftOutV ⟨Nat.le_of_ble_eq_true rfl, Nat.le_of_ble_eq_true rfl⟩) ⟨hp_blind, va_recv hK hP (ci := 9) (q0 := 279) rfl c_279, hp_pre hK hN hP⟩ rfl rfl hl.1 rfl (lv_room (Nat.le_of_ble_eq_true rfl)) dX7_firmBelow_4 ⟨Nat.zero_le _, Nat.zero_le _⟩) hS (fun _ _ h => h) (fun _ h => h) (fun r4 _ t H locs ht hvm hw9 hB hz1 hk1 hS => ?_)
  have hP := ho_at ht hB
  have eq4 := hw9
  have hF := bnd_s eq4 hF
  refine lv_istore (lv' := [(4, .int r4), (0, .ref (ad (279))), (1, .int a), (2, .int b), (3, .int c1)]) hx hb dX7_firmBelow_7 hl (by decide) rfl (fun ls hl => ?_)
  refine lv_iload_n hx hb dX7_firmBelow_9 rfl (lv_at hl 4 rfl) ?_
  refine lv_iconst (v := 1) hx hb dX7_firmBelow_10 (by decide) ?_
  refine lv_isub hx hb dX7_firmBelow_11 ?_
  refine va_calli (va_runS (As := [.int (c1 - 1)]) (rest := []) ⟨hx, hb, hml, hown, hts⟩ (c7_rowOf l hA (va_up σ 16 u) (c1 - 1) ) (va_cwS 1 hts gX7_firmBelow_X7_rowOf rfl rfl rfl hd_X7_rowOfS ⟨Nat.le_of_ble_eq_true rfl, Nat.le_of_ble_eq_true rfl⟩) ⟨hp_blind, hp_pre hK hN hP⟩ rfl rfl hl.1 rfl (lv_room (Nat.le_of_ble_eq_true rfl)) dX7_firmBelow_12 ⟨Nat.zero_le _, Nat.zero_le _⟩) hS (fun _ _ h => h) (fun _ h => h) (fun r12 _ t H locs ht hvm hw9 hB hz1 hk1 hS => ?_)
  have hP := ho_at ht hB
  obtain ⟨eq12, hq_r12⟩ := hw9
  have hF := bnd_s eq12 hF
  refine lv_istore (lv' := [(5, .int r12), (4, .int r4), (0, .ref (ad (279))), (1, .int a), (2, .int b), (3, .int c1)]) hx hb dX7_firmBelow_15 hl (by decide) rfl (fun ls hl => ?_)
  refine lv_iconst (v := 0) hx hb dX7_firmBelow_17 (by decide) ?_
  refine lv_istore (lv' := [(6, .int 0), (5, .int r12), (4, .int r4), (0, .ref (ad (279))), (1, .int a), (2, .int b), (3, .int c1)]) hx hb dX7_firmBelow_18 hl (by decide) rfl (fun ls hl => ?_)
  refine lv_iload_n hx hb dX7_firmBelow_20 rfl (lv_at hl 5 rfl) ?_
  refine lv_bipush (v := 16) hx hb dX7_firmBelow_21 (by decide) ?_
  refine va_calli (va_runS (As := [.int b, .int 16]) (rest := []) ⟨hx, hb, hml, hown, hts⟩ (cJ9_floorDiv l hA (va_up σ 16 u) b 16 (by decide)) (va_cwS 2 hts gX7_firmBelow_J9_floorDiv_7cf53 rfl rfl rfl hd_J9_floorDivS ⟨Nat.le_of_ble_eq_true rfl, Nat.le_of_ble_eq_true rfl⟩) ⟨hp_blind, hp_pre hK hN hP⟩ rfl rfl hl.1 rfl (lv_room (Nat.le_of_ble_eq_true rfl)) dX7_firmBelow_23 ⟨Nat.zero_le _, Nat.zero_le _⟩) hS (fun _ _ h => h) (fun _ h => h) (fun r23 _ t H locs ht hvm hw9 hB hz1 hk1 hS => ?_)
  have hP := ho_at ht hB
  have eq23 := hw9
  have hF := bnd_s eq23 hF
  refine lv_istore (lv' := [(7, .int r23), (6, .int 0), (5, .int r12), (4, .int r4), (0, .ref (ad (279))), (1, .int a), (2, .int b), (3, .int c1)]) hx hb dX7_firmBelow_26 hl (by decide) rfl (fun ls hl => ?_)
  have L28 : ∀ (n28 : Nat) (w7_28 : Int32) (w6_28 : Int32) (H : Heap) (locs : List Loc) (ls : Array Slot), (134217728 - w7_28.toInt).toNat < n28 → va_P D vwCl (pool G ad (va_up σ 16 u)) H → va_S (AA B0) s.heap H locs → lv_has ls 9 [(7, .int w7_28), (6, .int w6_28), (5, .int r12), (4, .int r4), (0, .ref (ad (279))), (1, .int a), (2, .int b)] → f7_firmBelow_L28 u a b r4 r12 n28 w7_28 w6_28 = FF → W p l e (headSpec wsX7_firmBelow { frames := 4, cells := 0, slots := 0, locals := 87 }).room s m ([.ref (ad (279)), .int a, .int b, .int c1] : List Value).toArray below meth c H locs 0 0 (MQ below (va_Qi (fun (r : Int32) (_ : Unit) => r = f7_firmBelow u a b c1) (fun (_ : Unit) => Ho D G ad (va_up σ 16 u)) (AA B0)) ([.ref (ad (279)), .int a, .int b, .int c1] : List Value).toArray s 0 0 (AA B0)) (F0 m 28 ls []) := by
    intro n28
    induction n28 with
    | zero => intro w7_28 w6_28 H locs ls hm; exact absurd hm (Nat.not_lt_zero _)
    | succ n28 ih28 =>
      intro w7_28 w6_28 H locs ls hm28 hP hS hl hF
      rw [f7_firmBelow_L28] at hF
      refine lv_iload hx hb dX7_firmBelow_28 (lv_at hl 0 rfl) ?_
      refine lv_iload_n hx hb dX7_firmBelow_30 rfl (lv_at hl 6 rfl) ?_
      refine lv_aload_n hx hb dX7_firmBelow_31 rfl (lv_at hl 4 rfl) ?_
      refine lv_iload_n hx hb dX7_firmBelow_32 rfl (lv_at hl 5 rfl) ?_
      refine lv_bipush (v := 7) hx hb dX7_firmBelow_33 (by decide) ?_
      refine va_calli (va_runV (As := [.int a, .int 7]) (rest := [.int b, .int w7_28]) ⟨hx, hb, hml, hown, hts⟩ (c7_of l hA σ u a 7 (vp_in_iff.mpr (by decide)) hba) (cwV 2 hts gX7_firmBelow_X7_of rfl rfl rfl hd_X7_ofV ⟨Nat.le_of_ble_eq_true rfl, Nat.le_of_ble_eq_true rfl⟩) ⟨hp_blind, va_recv hK hP (ci := 9) (q0 := 279) rfl c_279, hp_pre hK hN hP⟩ rfl rfl hl.1 rfl (lv_room (Nat.le_of_ble_eq_true rfl)) dX7_firmBelow_35 ⟨Nat.zero_le _, Nat.zero_le _⟩) hS (fun _ _ h => h) (fun _ h => h) (fun r35 _ t H locs ht hvm hw9 hB hz1 hk1 hS => ?_)
      have hP := ho_at ht hB
      have eq35 := hw9
      have hF := bnd_s eq35 hF
      refine lv_iadd hx hb dX7_firmBelow_38 ?_
      refine lv_iconst (v := 1) hx hb dX7_firmBelow_39 (by decide) ?_
      refine lv_isub hx hb dX7_firmBelow_40 ?_
      refine lv_bipush (v := 16) hx hb dX7_firmBelow_41 (by decide) ?_
      refine va_calli (va_runS (As := [.int ((b + r35) - 1), .int 16]) (rest := [.int w7_28]) ⟨hx, hb, hml, hown, hts⟩ (cJ9_floorDiv l hA (va_up σ 16 u) ((b + r35) - 1) 16 (by decide)) (va_cwS 2 hts gX7_firmBelow_J9_floorDiv_7cf53 rfl rfl rfl hd_J9_floorDivS ⟨Nat.le_of_ble_eq_true rfl, Nat.le_of_ble_eq_true rfl⟩) ⟨hp_blind, hp_pre hK hN hP⟩ rfl rfl hl.1 rfl (lv_room (Nat.le_of_ble_eq_true rfl)) dX7_firmBelow_43 ⟨Nat.zero_le _, Nat.zero_le _⟩) hS (fun _ _ h => h) (fun _ h => h) (fun r43 _ t H locs ht hvm hw9 hB hz1 hk1 hS => ?_)
      have hP := ho_at ht hB
      have eq43 := hw9
      have hF := bnd_s eq43 hF
      refine lv_icmp_gt (tgt := 97) hx hb dX7_firmBelow_46 (by decide) (fun c46 => ?_) (fun c46 => ?_)
      · have hF := ift c46 hF
        refine lv_iload hx hb dX7_firmBelow_97 (lv_at hl 1 rfl) ?_
        exact W.iret (v := w6_28) hx hb hr (fun t ht hW => ⟨⟨w6_28, (), rfl, hF.trans hFF, ho_of ht hP⟩, hS.F ht⟩) hS.2.2 dX7_firmBelow_99
      · have hF := iff_ c46 hF
        refine lv_aload_n hx hb dX7_firmBelow_49 rfl (lv_at hl 4 rfl) ?_
        refine lv_iload hx hb dX7_firmBelow_50 (lv_at hl 0 rfl) ?_
        refine lv_iload hx hb dX7_firmBelow_52 (lv_at hl 2 rfl) ?_
        refine va_calli (va_runV (As := [.int w7_28, .int r12]) (rest := []) ⟨hx, hb, hml, hown, hts⟩ (c7_kindIn l hA σ u w7_28 r12 ) (cwV 2 hts gX7_firmBelow_X7_kindIn rfl rfl rfl hd_X7_kindInV ⟨Nat.le_of_ble_eq_true rfl, Nat.le_of_ble_eq_true rfl⟩) ⟨hp_blind, va_recv hK hP (ci := 9) (q0 := 279) rfl c_279, hp_pre hK hN hP⟩ rfl rfl hl.1 rfl (lv_room (Nat.le_of_ble_eq_true rfl)) dX7_firmBelow_54 ⟨Nat.zero_le _, Nat.zero_le _⟩) hS (fun _ _ h => h) (fun _ h => h) (fun r54 _ t H locs ht hvm hw9 hB hz1 hk1 hS => ?_)
        have hP := ho_at ht hB
        have eq54 := hw9
        have hF := bnd_s eq54 hF
        refine lv_istore (lv' := [(8, .int r54), (7, .int w7_28), (6, .int w6_28), (5, .int r12), (4, .int r4), (0, .ref (ad (279))), (1, .int a), (2, .int b)]) hx hb dX7_firmBelow_57 hl (by decide) rfl (fun ls hl => ?_)
        refine lv_iload hx hb dX7_firmBelow_59 (lv_at hl 0 rfl) ?_
        refine va_calli (va_runS (As := [.int r54]) (rest := []) ⟨hx, hb, hml, hown, hts⟩ (c7_isFirm l hA (va_up σ 16 u) r54 ) (va_cwS 1 hts gX7_firmBelow_X7_isFirm rfl rfl rfl hd_X7_isFirmS ⟨Nat.le_of_ble_eq_true rfl, Nat.le_of_ble_eq_true rfl⟩) ⟨hp_blind, hp_pre hK hN hP⟩ rfl rfl hl.1 rfl (lv_room (Nat.le_of_ble_eq_true rfl)) dX7_firmBelow_61 ⟨Nat.zero_le _, Nat.zero_le _⟩) hS (fun _ _ h => h) (fun _ h => h) (fun r61 _ t H locs ht hvm hw9 hB hz1 hk1 hS => ?_)
        have hP := ho_at ht hB
        obtain ⟨eq61, hb_r61⟩ := hw9
        have hF := bnd_s eq61 hF
        have J91 : ∀ (w6_91 : Int32) (H : Heap) (locs : List Loc) (ls : Array Slot), va_P D vwCl (pool G ad (va_up σ 16 u)) H → va_S (AA B0) s.heap H locs → lv_has ls 9 [(7, .int w7_28), (6, .int w6_91), (5, .int r12), (4, .int r4), (0, .ref (ad (279))), (1, .int a), (2, .int b)] → f7_firmBelow_b91 (f7_firmBelow_L28 u a b r4 r12 n28) w7_28 w6_91 = FF → W p l e (headSpec wsX7_firmBelow { frames := 4, cells := 0, slots := 0, locals := 87 }).room s m ([.ref (ad (279)), .int a, .int b, .int c1] : List Value).toArray below meth c H locs 0 0 (MQ below (va_Qi (fun (r : Int32) (_ : Unit) => r = f7_firmBelow u a b c1) (fun (_ : Unit) => Ho D G ad (va_up σ 16 u)) (AA B0)) ([.ref (ad (279)), .int a, .int b, .int c1] : List Value).toArray s 0 0 (AA B0)) (F0 m 91 ls []) := by
          intro w6_91 H locs ls hP hS hl hF
          rw [f7_firmBelow_b91] at hF
          obtain ⟨v7_91, e_v7_91⟩ : ∃ z : Int32, z = w7_28 + 1 := ⟨_, rfl⟩
          have hF := bnd_s e_v7_91 hF
          refine lv_iinc (v := v7_91) (lv' := [(7, .int v7_91), (6, .int w6_91), (5, .int r12), (4, .int r4), (0, .ref (ad (279))), (1, .int a), (2, .int b)]) hx hb dX7_firmBelow_91 hl (k := 0) rfl (by rw [e_v7_91]; rfl) (by decide) rfl (fun ls hl => ?_)
          refine lv_goto (tgt := 28) hx hb dX7_firmBelow_94 (by decide) ?_
          exact ih28 v7_91 w6_91 _ _ ls (ms_s (dec_k c46 (by rw [eq43]; exact fd16_le _) e_v7_91) hm28) hP hS (lv_sub hl [0, 1, 2, 3, 4, 5, 6] rfl) hF
        refine lv_if_eq (tgt := 91) hx hb dX7_firmBelow_64 (by decide) (fun c64 => ?_) (fun c64 => ?_)
        · have hF := ift c64 hF
          exact J91 w6_28 _ _ ls hP hS (lv_sub hl [1, 2, 3, 4, 5, 6, 7] rfl) hF
        · have hF := iff_ c64 hF
          refine lv_iload hx hb dX7_firmBelow_67 (lv_at hl 3 rfl) ?_
          refine lv_iload hx hb dX7_firmBelow_69 (lv_at hl 4 rfl) ?_
          have J82 : ∀  (H : Heap) (locs : List Loc) (ls : Array Slot), va_P D vwCl (pool G ad (va_up σ 16 u)) H → va_S (AA B0) s.heap H locs → lv_has ls 9 [(8, .int r54), (7, .int w7_28), (6, .int w6_28), (5, .int r12), (4, .int r4), (0, .ref (ad (279))), (1, .int a), (2, .int b)] → f7_firmBelow_b82 (f7_firmBelow_L28 u a b r4 r12 n28) w7_28 w6_28 r54  = FF → W p l e (headSpec wsX7_firmBelow { frames := 4, cells := 0, slots := 0, locals := 87 }).room s m ([.ref (ad (279)), .int a, .int b, .int c1] : List Value).toArray below meth c H locs 0 0 (MQ below (va_Qi (fun (r : Int32) (_ : Unit) => r = f7_firmBelow u a b c1) (fun (_ : Unit) => Ho D G ad (va_up σ 16 u)) (AA B0)) ([.ref (ad (279)), .int a, .int b, .int c1] : List Value).toArray s 0 0 (AA B0)) (F0 m 82 ls []) := by
            intro  H locs ls hP hS hl hF
            rw [f7_firmBelow_b82] at hF
            refine lv_iload hx hb dX7_firmBelow_82 (lv_at hl 2 rfl) ?_
            refine lv_iconst (v := 1) hx hb dX7_firmBelow_84 (by decide) ?_
            refine lv_iload hx hb dX7_firmBelow_85 (lv_at hl 0 rfl) ?_
            refine lv_ishl hx hb dX7_firmBelow_87 ?_
            refine lv_ior hx hb dX7_firmBelow_88 ?_
            refine lv_topi (fun v6_89 e_v6_89 => ?_)
            have hF := bnd_s e_v6_89 hF
            refine lv_istore (lv' := [(6, .int v6_89), (8, .int r54), (7, .int w7_28), (5, .int r12), (4, .int r4), (0, .ref (ad (279))), (1, .int a), (2, .int b)]) hx hb dX7_firmBelow_89 hl (by decide) rfl (fun ls hl => ?_)
            exact J91 v6_89 _ _ ls hP hS (lv_sub hl [2, 0, 3, 4, 5, 6, 7] rfl) hF
          refine lv_icmp_ne (tgt := 82) hx hb dX7_firmBelow_71 (by decide) (fun c71 => ?_) (fun c71 => ?_)
          · have hF := iff_ c71 hF
            exact J82  _ _ ls hP hS (lv_sub hl [0, 1, 2, 3, 4, 5, 6, 7] rfl) hF
          · have hF := ift c71 hF
            refine lv_iload hx hb dX7_firmBelow_74 (lv_at hl 1 rfl) ?_
            refine va_calli (va_runS (As := [.int w7_28]) (rest := []) ⟨hx, hb, hml, hown, hts⟩ (c7_isBeside l hA (va_up σ 16 u) w7_28 ) (va_cwS 1 hts gX7_firmBelow_X7_isBeside rfl rfl rfl hd_X7_isBesideS ⟨Nat.le_of_ble_eq_true rfl, Nat.le_of_ble_eq_true rfl⟩) ⟨hp_blind, hp_pre hK hN hP⟩ rfl rfl hl.1 rfl (lv_room (Nat.le_of_ble_eq_true rfl)) dX7_firmBelow_76 ⟨Nat.zero_le _, Nat.zero_le _⟩) hS (fun _ _ h => h) (fun _ h => h) (fun r76 _ t H locs ht hvm hw9 hB hz1 hk1 hS => ?_)
            have hP := ho_at ht hB
            obtain ⟨eq76, hb_r76⟩ := hw9
            have hF := bnd_s eq76 hF
            refine lv_if_eq (tgt := 91) hx hb dX7_firmBelow_79 (by decide) (fun c79 => ?_) (fun c79 => ?_)
            · have hF := ift c79 hF
              exact J91 w6_28 _ _ ls hP hS (lv_sub hl [1, 2, 3, 4, 5, 6, 7] rfl) hF
            · have hF := iff_ c79 hF
              exact J82  _ _ ls hP hS (lv_sub hl [0, 1, 2, 3, 4, 5, 6, 7] rfl) hF
  exact L28 BIG r23 0 _ _ ls (big_k _) hP hS (lv_sub hl [0, 1, 2, 3, 4, 5, 6] rfl) hF
theorem hd_X7_firmBelowV : yX7_firmBelow.cls = RX7 ∧ yX7_firmBelow.cls ≠ "java/lang/invoke/MethodHandle" ∧ yX7_firmBelow.cls ≠ "java/lang/invoke/VarHandle" ∧ (parseMethodDescriptor yX7_firmBelow.desc).map (fun d => d.parameters.length) = some 3 := by decide +kernel
set_option maxHeartbeats 4000000 in
set_option maxRecDepth 100000 in
theorem c7_hasOneWay (l : Launch) {D : va_G} {G : CY} {ad : Nat → Nat} {B0 : Nat} (hA : adOK B0 ad) (σ : Nat → Nat → Int32) (u : Nat → Int32) (a : Int32) (b : Int32) (c1 : Int32) (hba : vp_in a 4) : Met l yX7_hasOneWay wsX7_hasOneWay { frames := 2, cells := 0, slots := 0, locals := 42 } (va_Pc [.ref (ad (279)), .int a, .int b, .int c1] (Hp D G ad (va_up σ 16 u))) (va_Qi (fun (r : Int32) (_ : Unit) => r = f7_hasOneWay u a b c1 ∧ bl r) (fun (_ : Unit) => Ho D G ad (va_up σ 16 u)) (AA B0)) 0 0 (AA B0) := by
  refine Met.ofW (cc := cX7_hasOneWay) (maxL := 5) (ret := (some .boolean)) (by decide) rfl ?_
  intro p e s m args below meth c s₁ B hml hv
  obtain ⟨rfl, hP, hK, hN⟩ := hv
  have hx := B.exec
  have hb := B.bytes
  have hr := B.returns
  have hts := atoms_spec (ws := wsX7_hasOneWay) B.pre
  have hown : s.vm.findClass RX7 = some m.cls := findClass_of_methodNamed B.named
  have hlocks := B.notSynchronized
  have hP : va_P D vwCl (pool G ad (va_up σ 16 u)) s.heap := hP
  have hS : va_S (AA B0) s.heap s.heap [] := va_S.rf
  have hl := lv_entry ([.ref (ad (279)), .int a, .int b, .int c1]) (n := 5) (Nat.le_of_ble_eq_true rfl)
  rw [lg_entry_eq]
  generalize (lg_sl ([.ref (ad (279)), .int a, .int b, .int c1]) ++ List.replicate (5 - (lg_sl ([.ref (ad (279)), .int a, .int b, .int c1])).length) Slot.unset).toArray = ls at hl ⊢
  have hl : lv_has ls 5 [(0, .ref (ad (279))), (1, .int a), (2, .int b), (3, .int c1)] := hl
  obtain ⟨FF, hFF⟩ : ∃ z, z = f7_hasOneWay u a b c1 := ⟨_, rfl⟩
  have hF := hFF.symm
  rw [f7_hasOneWay] at hF
  refine lv_iload_n hx hb dX7_hasOneWay_0 rfl (lv_at hl 3 rfl) ?_
  refine lv_bipush (v := 16) hx hb dX7_hasOneWay_1 (by decide) ?_
  refine va_calli (va_runS (As := [.int c1, .int 16]) (rest := []) ⟨hx, hb, hml, hown, hts⟩ (cJ9_floorMod l hA (va_up σ 16 u) c1 16 (by decide)) (va_cwS 2 hts gX7_hasOneWay_J9_floorMod_7cf53 rfl rfl rfl hd_J9_floorModS ⟨Nat.le_of_ble_eq_true rfl, Nat.le_of_ble_eq_true rfl⟩) ⟨hp_blind, hp_pre hK hN hP⟩ rfl rfl hl.1 rfl (lv_room (Nat.le_of_ble_eq_true rfl)) dX7_hasOneWay_3 ⟨Nat.zero_le _, Nat.zero_le _⟩) hS (fun _ _ h => h) (fun _ h => h) (fun r3 _ t H locs ht hvm hw9 hB hz1 hk1 hS => ?_)
  have hP := ho_at ht hB
  have eq3 := hw9
  have hF := bnd_s eq3 hF
  refine lv_if_eq (tgt := 11) hx hb dX7_hasOneWay_6 (by decide) (fun c6 => ?_) (fun c6 => ?_)
  · have hF := ift c6 hF
    refine lv_iload_n hx hb dX7_hasOneWay_11 rfl (lv_at hl 2 rfl) ?_
    refine lv_bipush (v := 16) hx hb dX7_hasOneWay_12 (by decide) ?_
    refine va_calli (va_runS (As := [.int b, .int 16]) (rest := []) ⟨hx, hb, hml, hown, hts⟩ (cJ9_floorDiv l hA (va_up σ 16 u) b 16 (by decide)) (va_cwS 2 hts gX7_hasOneWay_J9_floorDiv_7cf53 rfl rfl rfl hd_J9_floorDivS ⟨Nat.le_of_ble_eq_true rfl, Nat.le_of_ble_eq_true rfl⟩) ⟨hp_blind, hp_pre hK hN hP⟩ rfl rfl hl.1 rfl (lv_room (Nat.le_of_ble_eq_true rfl)) dX7_hasOneWay_14 ⟨Nat.zero_le _, Nat.zero_le _⟩) hS (fun _ _ h => h) (fun _ h => h) (fun r14 _ t H locs ht hvm hw9 hB hz1 hk1 hS => ?_)
    have hP := ho_at ht hB
    have eq14 := hw9
    have hF := bnd_s eq14 hF
    refine lv_istore (lv' := [(4, .int r14), (0, .ref (ad (279))), (1, .int a), (2, .int b), (3, .int c1)]) hx hb dX7_hasOneWay_17 hl (by decide) rfl (fun ls hl => ?_)
    have L19 : ∀ (n19 : Nat) (w4_19 : Int32) (H : Heap) (locs : List Loc) (ls : Array Slot), (134217728 - w4_19.toInt).toNat < n19 → va_P D vwCl (pool G ad (va_up σ 16 u)) H → va_S (AA B0) s.heap H locs → lv_has ls 5 [(4, .int w4_19), (0, .ref (ad (279))), (1, .int a), (2, .int b), (3, .int c1)] → f7_hasOneWay_L19 u a b c1 n19 w4_19 = FF → W p l e (headSpec wsX7_hasOneWay { frames := 2, cells := 0, slots := 0, locals := 42 }).room s m ([.ref (ad (279)), .int a, .int b, .int c1] : List Value).toArray below meth c H locs 0 0 (MQ below (va_Qi (fun (r : Int32) (_ : Unit) => r = f7_hasOneWay u a b c1 ∧ bl r) (fun (_ : Unit) => Ho D G ad (va_up σ 16 u)) (AA B0)) ([.ref (ad (279)), .int a, .int b, .int c1] : List Value).toArray s 0 0 (AA B0)) (F0 m 19 ls []) := by
      intro n19
      induction n19 with
      | zero => intro w4_19 H locs ls hm; exact absurd hm (Nat.not_lt_zero _)
      | succ n19 ih19 =>
        intro w4_19 H locs ls hm19 hP hS hl hF
        rw [f7_hasOneWay_L19] at hF
        refine lv_iload hx hb dX7_hasOneWay_19 (lv_at hl 0 rfl) ?_
        refine lv_iload_n hx hb dX7_hasOneWay_21 rfl (lv_at hl 3 rfl) ?_
        refine lv_aload_n hx hb dX7_hasOneWay_22 rfl (lv_at hl 1 rfl) ?_
        refine lv_iload_n hx hb dX7_hasOneWay_23 rfl (lv_at hl 2 rfl) ?_
        refine lv_bipush (v := 7) hx hb dX7_hasOneWay_24 (by decide) ?_
        refine va_calli (va_runV (As := [.int a, .int 7]) (rest := [.int b, .int w4_19]) ⟨hx, hb, hml, hown, hts⟩ (c7_of l hA σ u a 7 (vp_in_iff.mpr (by decide)) hba) (cwV 2 hts gX7_hasOneWay_X7_of rfl rfl rfl hd_X7_ofV ⟨Nat.le_of_ble_eq_true rfl, Nat.le_of_ble_eq_true rfl⟩) ⟨hp_blind, va_recv hK hP (ci := 9) (q0 := 279) rfl c_279, hp_pre hK hN hP⟩ rfl rfl hl.1 rfl (lv_room (Nat.le_of_ble_eq_true rfl)) dX7_hasOneWay_26 ⟨Nat.zero_le _, Nat.zero_le _⟩) hS (fun _ _ h => h) (fun _ h => h) (fun r26 _ t H locs ht hvm hw9 hB hz1 hk1 hS => ?_)
        have hP := ho_at ht hB
        have eq26 := hw9
        have hF := bnd_s eq26 hF
        refine lv_iadd hx hb dX7_hasOneWay_29 ?_
        refine lv_iconst (v := 1) hx hb dX7_hasOneWay_30 (by decide) ?_
        refine lv_isub hx hb dX7_hasOneWay_31 ?_
        refine lv_bipush (v := 16) hx hb dX7_hasOneWay_32 (by decide) ?_
        refine va_calli (va_runS (As := [.int ((b + r26) - 1), .int 16]) (rest := [.int w4_19]) ⟨hx, hb, hml, hown, hts⟩ (cJ9_floorDiv l hA (va_up σ 16 u) ((b + r26) - 1) 16 (by decide)) (va_cwS 2 hts gX7_hasOneWay_J9_floorDiv_7cf53 rfl rfl rfl hd_J9_floorDivS ⟨Nat.le_of_ble_eq_true rfl, Nat.le_of_ble_eq_true rfl⟩) ⟨hp_blind, hp_pre hK hN hP⟩ rfl rfl hl.1 rfl (lv_room (Nat.le_of_ble_eq_true rfl)) dX7_hasOneWay_34 ⟨Nat.zero_le _, Nat.zero_le _⟩) hS (fun _ _ h => h) (fun _ h => h) (fun r34 _ t H locs ht hvm hw9 hB hz1 hk1 hS => ?_)
        have hP := ho_at ht hB
        have eq34 := hw9
        have hF := bnd_s eq34 hF
        refine lv_icmp_gt (tgt := 64) hx hb dX7_hasOneWay_37 (by decide) (fun c37 => ?_) (fun c37 => ?_)
        · have hF := ift c37 hF
          refine lv_iconst (v := 0) hx hb dX7_hasOneWay_64 (by decide) ?_
          exact W.zret (v := 0) hx hb hr (bl_nar bl0) (fun t ht hW => ⟨⟨0, (), rfl, ⟨hF.trans hFF, bl0⟩, ho_of ht hP⟩, hS.F ht⟩) hS.2.2 dX7_hasOneWay_65
        · have hF := iff_ c37 hF
          refine lv_aload_n hx hb dX7_hasOneWay_40 rfl (lv_at hl 1 rfl) ?_
          refine lv_iload hx hb dX7_hasOneWay_41 (lv_at hl 0 rfl) ?_
          refine lv_iload_n hx hb dX7_hasOneWay_43 rfl (lv_at hl 4 rfl) ?_
          refine lv_iconst (v := 1) hx hb dX7_hasOneWay_44 (by decide) ?_
          refine lv_isub hx hb dX7_hasOneWay_45 ?_
          refine va_calli (va_runS (As := [.int (c1 - 1)]) (rest := [.int w4_19, .ref (ad (279))]) ⟨hx, hb, hml, hown, hts⟩ (c7_rowOf l hA (va_up σ 16 u) (c1 - 1) ) (va_cwS 1 hts gX7_hasOneWay_X7_rowOf rfl rfl rfl hd_X7_rowOfS ⟨Nat.le_of_ble_eq_true rfl, Nat.le_of_ble_eq_true rfl⟩) ⟨hp_blind, hp_pre hK hN hP⟩ rfl rfl hl.1 rfl (lv_room (Nat.le_of_ble_eq_true rfl)) dX7_hasOneWay_46 ⟨Nat.zero_le _, Nat.zero_le _⟩) hS (fun _ _ h => h) (fun _ h => h) (fun r46 _ t H locs ht hvm hw9 hB hz1 hk1 hS => ?_)
          have hP := ho_at ht hB
          obtain ⟨eq46, hq_r46⟩ := hw9
          have hF := bnd_s eq46 hF
          refine va_calli (va_runV (As := [.int w4_19, .int r46]) (rest := []) ⟨hx, hb, hml, hown, hts⟩ (c7_kindIn l hA σ u w4_19 r46 ) (cwV 2 hts gX7_hasOneWay_X7_kindIn rfl rfl rfl hd_X7_kindInV ⟨Nat.le_of_ble_eq_true rfl, Nat.le_of_ble_eq_true rfl⟩) ⟨hp_blind, va_recv hK hP (ci := 9) (q0 := 279) rfl c_279, hp_pre hK hN hP⟩ rfl rfl hl.1 rfl (lv_room (Nat.le_of_ble_eq_true rfl)) dX7_hasOneWay_49 ⟨Nat.zero_le _, Nat.zero_le _⟩) hS (fun _ _ h => h) (fun _ h => h) (fun r49 _ t H locs ht hvm hw9 hB hz1 hk1 hS => ?_)
          have hP := ho_at ht hB
          have eq49 := hw9
          have hF := bnd_s eq49 hF
          refine lv_iconst (v := 2) hx hb dX7_hasOneWay_52 (by decide) ?_
          refine lv_icmp_ne (tgt := 58) hx hb dX7_hasOneWay_53 (by decide) (fun c53 => ?_) (fun c53 => ?_)
          · have hF := iff_ c53 hF
            obtain ⟨v4_58, e_v4_58⟩ : ∃ z : Int32, z = w4_19 + 1 := ⟨_, rfl⟩
            have hF := bnd_s e_v4_58 hF
            refine lv_iinc (v := v4_58) (lv' := [(4, .int v4_58), (0, .ref (ad (279))), (1, .int a), (2, .int b), (3, .int c1)]) hx hb dX7_hasOneWay_58 hl (k := 0) rfl (by rw [e_v4_58]; rfl) (by decide) rfl (fun ls hl => ?_)
            refine lv_goto (tgt := 19) hx hb dX7_hasOneWay_61 (by decide) ?_
            exact ih19 v4_58 _ _ ls (ms_s (dec_k c37 (by rw [eq34]; exact fd16_le _) e_v4_58) hm19) hP hS (lv_sub hl [0, 1, 2, 3, 4] rfl) hF
          · have hF := ift c53 hF
            refine lv_iconst (v := 1) hx hb dX7_hasOneWay_56 (by decide) ?_
            exact W.zret (v := 1) hx hb hr (bl_nar bl1) (fun t ht hW => ⟨⟨1, (), rfl, ⟨hF.trans hFF, bl1⟩, ho_of ht hP⟩, hS.F ht⟩) hS.2.2 dX7_hasOneWay_57
    exact L19 BIG r14 _ _ ls (big_k _) hP hS (lv_sub hl [0, 1, 2, 3, 4] rfl) hF
  · have hF := iff_ c6 hF
    refine lv_iconst (v := 0) hx hb dX7_hasOneWay_9 (by decide) ?_
    exact W.zret (v := 0) hx hb hr (bl_nar bl0) (fun t ht hW => ⟨⟨0, (), rfl, ⟨hF.trans hFF, bl0⟩, ho_of ht hP⟩, hS.F ht⟩) hS.2.2 dX7_hasOneWay_10
theorem hd_X7_hasOneWayV : yX7_hasOneWay.cls = RX7 ∧ yX7_hasOneWay.cls ≠ "java/lang/invoke/MethodHandle" ∧ yX7_hasOneWay.cls ≠ "java/lang/invoke/VarHandle" ∧ (parseMethodDescriptor yX7_hasOneWay.desc).map (fun d => d.parameters.length) = some 3 := by decide +kernel
set_option maxHeartbeats 4000000 in
set_option maxRecDepth 100000 in
theorem c7_isOnSlope (l : Launch) {D : va_G} {G : CY} {ad : Nat → Nat} {B0 : Nat} (hA : adOK B0 ad) (σ : Nat → Nat → Int32) (u : Nat → Int32) (a : Int32) (b : Int32) (c1 : Int32) (hba : vp_in a 4) : Met l yX7_isOnSlope wsX7_isOnSlope { frames := 4, cells := 0, slots := 0, locals := 86 } (va_Pc [.ref (ad (279)), .int a, .int b, .int c1] (Hp D G ad (va_up σ 16 u))) (va_Qi (fun (r : Int32) (_ : Unit) => r = f7_isOnSlope u a b c1 ∧ bl r) (fun (_ : Unit) => Ho D G ad (va_up σ 16 u)) (AA B0)) 0 0 (AA B0) := by
  refine Met.ofW (cc := cX7_isOnSlope) (maxL := 4) (ret := (some .boolean)) (by decide) rfl ?_
  intro p e s m args below meth c s₁ B hml hv
  obtain ⟨rfl, hP, hK, hN⟩ := hv
  have hx := B.exec
  have hb := B.bytes
  have hr := B.returns
  have hts := atoms_spec (ws := wsX7_isOnSlope) B.pre
  have hown : s.vm.findClass RX7 = some m.cls := findClass_of_methodNamed B.named
  have hlocks := B.notSynchronized
  have hP : va_P D vwCl (pool G ad (va_up σ 16 u)) s.heap := hP
  have hS : va_S (AA B0) s.heap s.heap [] := va_S.rf
  have hl := lv_entry ([.ref (ad (279)), .int a, .int b, .int c1]) (n := 4) (Nat.le_of_ble_eq_true rfl)
  rw [lg_entry_eq]
  generalize (lg_sl ([.ref (ad (279)), .int a, .int b, .int c1]) ++ List.replicate (4 - (lg_sl ([.ref (ad (279)), .int a, .int b, .int c1])).length) Slot.unset).toArray = ls at hl ⊢
  have hl : lv_has ls 4 [(0, .ref (ad (279))), (1, .int a), (2, .int b), (3, .int c1)] := hl
  obtain ⟨FF, hFF⟩ : ∃ z, z = f7_isOnSlope u a b c1 := ⟨_, rfl⟩
  have hF := hFF.symm
  rw [f7_isOnSlope] at hF
  refine lv_aload_n hx hb dX7_isOnSlope_0 rfl (lv_at hl 0 rfl) ?_
  refine lv_aload_n hx hb dX7_isOnSlope_1 rfl (lv_at hl 0 rfl) ?_
  refine lv_iload_n hx hb dX7_isOnSlope_2 rfl (lv_at hl 1 rfl) ?_
  refine lv_iload_n hx hb dX7_isOnSlope_3 rfl (lv_at hl 2 rfl) ?_
  refine va_calli (va_runV (As := [.int a, .int b]) (rest := [.ref (ad (279))]) ⟨hx, hb, hml, hown, hts⟩ (c7_foot l hA σ u a b hba) (cwV 2 hts gX7_isOnSlope_X7_foot rfl rfl rfl hd_X7_footV ⟨Nat.le_of_ble_eq_true rfl, Nat.le_of_ble_eq_true rfl⟩) ⟨hp_blind, va_recv hK hP (ci := 9) (q0 := 279) rfl c_279, hp_pre hK hN hP⟩ rfl rfl hl.1 rfl (lv_room (Nat.le_of_ble_eq_true rfl)) dX7_isOnSlope_4 ⟨Nat.zero_le _, Nat.zero_le _⟩) hS (fun _ _ h => h) (fun _ h => h) (fun r4 _ t H locs ht hvm hw9 hB hz1 hk1 hS => ?_)
  have hP := ho_at ht hB
  have eq4 := hw9
  have hF := bnd_s eq4 hF
  refine lv_iload_n hx hb dX7_isOnSlope_7 rfl (lv_at hl 3 rfl) ?_
  refine lv_iconst (v := 1) hx hb dX7_isOnSlope_8 (by decide) ?_
  refine lv_isub hx hb dX7_isOnSlope_9 ?_
  refine va_calli (va_runV (As := [.int r4, .int (c1 - 1)]) (rest := []) ⟨hx, hb, hml, hown, hts⟩ (c7_kindAt l hA σ u r4 (c1 - 1) ) (cwV 2 hts gX7_isOnSlope_X7_kindAt rfl rfl rfl hd_X7_kindAtV ⟨Nat.le_of_ble_eq_true rfl, Nat.le_of_ble_eq_true rfl⟩) ⟨hp_blind, va_recv hK hP (ci := 9) (q0 := 279) rfl c_279, hp_pre hK hN hP⟩ rfl rfl hl.1 rfl (lv_room (Nat.le_of_ble_eq_true rfl)) dX7_isOnSlope_10 ⟨Nat.zero_le _, Nat.zero_le _⟩) hS (fun _ _ h => h) (fun _ h => h) (fun r10 _ t H locs ht hvm hw9 hB hz1 hk1 hS => ?_)
  have hP := ho_at ht hB
  have eq10 := hw9
  have hF := bnd_s eq10 hF
  refine va_calli (va_runS (As := [.int r10]) (rest := []) ⟨hx, hb, hml, hown, hts⟩ (c7_isSlope l hA (va_up σ 16 u) r10 ) (va_cwS 1 hts gX7_isOnSlope_X7_isSlope rfl rfl rfl hd_X7_isSlopeS ⟨Nat.le_of_ble_eq_true rfl, Nat.le_of_ble_eq_true rfl⟩) ⟨hp_blind, hp_pre hK hN hP⟩ rfl rfl hl.1 rfl (lv_room (Nat.le_of_ble_eq_true rfl)) dX7_isOnSlope_13 ⟨Nat.zero_le _, Nat.zero_le _⟩) hS (fun _ _ h => h) (fun _ h => h) (fun r13 _ t H locs ht hvm hw9 hB hz1 hk1 hS => ?_)
  have hP := ho_at ht hB
  obtain ⟨eq13, hb_r13⟩ := hw9
  have hF := bnd_s eq13 hF
  refine lv_if_eq (tgt := 40) hx hb dX7_isOnSlope_16 (by decide) (fun c16 => ?_) (fun c16 => ?_)
  · have hF := ift c16 hF
    refine lv_iconst (v := 0) hx hb dX7_isOnSlope_40 (by decide) ?_
    exact W.zret (v := 0) hx hb hr (bl_nar bl0) (fun t ht hW => ⟨⟨0, (), rfl, ⟨hF.trans hFF, bl0⟩, ho_of ht hP⟩, hS.F ht⟩) hS.2.2 dX7_isOnSlope_41
  · have hF := iff_ c16 hF
    refine lv_aload_n hx hb dX7_isOnSlope_19 rfl (lv_at hl 0 rfl) ?_
    refine lv_aload_n hx hb dX7_isOnSlope_20 rfl (lv_at hl 0 rfl) ?_
    refine lv_iload_n hx hb dX7_isOnSlope_21 rfl (lv_at hl 1 rfl) ?_
    refine lv_iload_n hx hb dX7_isOnSlope_22 rfl (lv_at hl 2 rfl) ?_
    refine va_calli (va_runV (As := [.int a, .int b]) (rest := [.ref (ad (279))]) ⟨hx, hb, hml, hown, hts⟩ (c7_foot l hA σ u a b hba) (cwV 2 hts gX7_isOnSlope_X7_foot rfl rfl rfl hd_X7_footV ⟨Nat.le_of_ble_eq_true rfl, Nat.le_of_ble_eq_true rfl⟩) ⟨hp_blind, va_recv hK hP (ci := 9) (q0 := 279) rfl c_279, hp_pre hK hN hP⟩ rfl rfl hl.1 rfl (lv_room (Nat.le_of_ble_eq_true rfl)) dX7_isOnSlope_23 ⟨Nat.zero_le _, Nat.zero_le _⟩) hS (fun _ _ h => h) (fun _ h => h) (fun r23 _ t H locs ht hvm hw9 hB hz1 hk1 hS => ?_)
    have hP := ho_at ht hB
    have eq23 := hw9
    have hF := bnd_s eq23 hF
    refine lv_iload_n hx hb dX7_isOnSlope_26 rfl (lv_at hl 3 rfl) ?_
    refine lv_iconst (v := 1) hx hb dX7_isOnSlope_27 (by decide) ?_
    refine lv_isub hx hb dX7_isOnSlope_28 ?_
    refine va_calli (va_runV (As := [.int r23, .int (c1 - 1)]) (rest := []) ⟨hx, hb, hml, hown, hts⟩ (c7_surfaceAt l hA σ u r23 (c1 - 1) ) (cwV 2 hts gX7_isOnSlope_X7_surfaceAt rfl rfl rfl hd_X7_surfaceAtV ⟨Nat.le_of_ble_eq_true rfl, Nat.le_of_ble_eq_true rfl⟩) ⟨hp_blind, va_recv hK hP (ci := 9) (q0 := 279) rfl c_279, hp_pre hK hN hP⟩ rfl rfl hl.1 rfl (lv_room (Nat.le_of_ble_eq_true rfl)) dX7_isOnSlope_29 ⟨Nat.zero_le _, Nat.zero_le _⟩) hS (fun _ _ h => h) (fun _ h => h) (fun r29 _ t H locs ht hvm hw9 hB hz1 hk1 hS => ?_)
    have hP := ho_at ht hB
    have eq29 := hw9
    have hF := bnd_s eq29 hF
    refine lv_iload_n hx hb dX7_isOnSlope_32 rfl (lv_at hl 3 rfl) ?_
    refine lv_icmp_ne (tgt := 40) hx hb dX7_isOnSlope_33 (by decide) (fun c33 => ?_) (fun c33 => ?_)
    · have hF := iff_ c33 hF
      refine lv_iconst (v := 0) hx hb dX7_isOnSlope_40 (by decide) ?_
      exact W.zret (v := 0) hx hb hr (bl_nar bl0) (fun t ht hW => ⟨⟨0, (), rfl, ⟨hF.trans hFF, bl0⟩, ho_of ht hP⟩, hS.F ht⟩) hS.2.2 dX7_isOnSlope_41
    · have hF := ift c33 hF
      refine lv_iconst (v := 1) hx hb dX7_isOnSlope_36 (by decide) ?_
      refine lv_goto (tgt := 41) hx hb dX7_isOnSlope_37 (by decide) ?_
      exact W.zret (v := 1) hx hb hr (bl_nar bl1) (fun t ht hW => ⟨⟨1, (), rfl, ⟨hF.trans hFF, bl1⟩, ho_of ht hP⟩, hS.F ht⟩) hS.2.2 dX7_isOnSlope_41
theorem hd_X7_isOnSlopeV : yX7_isOnSlope.cls = RX7 ∧ yX7_isOnSlope.cls ≠ "java/lang/invoke/MethodHandle" ∧ yX7_isOnSlope.cls ≠ "java/lang/invoke/VarHandle" ∧ (parseMethodDescriptor yX7_isOnSlope.desc).map (fun d => d.parameters.length) = some 3 := by decide +kernel
set_option maxHeartbeats 4000000 in
set_option maxRecDepth 100000 in
theorem c7_isOn (l : Launch) {D : va_G} {G : CY} {ad : Nat → Nat} {B0 : Nat} (hA : adOK B0 ad) (σ : Nat → Nat → Int32) (u : Nat → Int32) (a : Int32) (b : Int32) (c1 : Int32) (d : Int32) (hba : vp_in a 4) (hbb : vp_in b 4) : Met l yX7_isOn wsX7_isOn { frames := 1, cells := 0, slots := 0, locals := 22 } (va_Pc [.ref (ad (279)), .int a, .int b, .int c1, .int d] (Hp D G ad (va_up σ 16 u))) (va_Qi (fun (r : Int32) (_ : Unit) => r = f7_isOn u a b c1 d ∧ bl r) (fun (_ : Unit) => Ho D G ad (va_up σ 16 u)) (AA B0)) 0 0 (AA B0) := by
  refine Met.ofW (cc := cX7_isOn) (maxL := 5) (ret := (some .boolean)) (by decide) rfl ?_
  intro p e s m args below meth c s₁ B hml hv
  obtain ⟨rfl, hP, hK, hN⟩ := hv
  have hx := B.exec
  have hb := B.bytes
  have hr := B.returns
  have hts := atoms_spec (ws := wsX7_isOn) B.pre
  have hown : s.vm.findClass RX7 = some m.cls := findClass_of_methodNamed B.named
  have hlocks := B.notSynchronized
  have hP : va_P D vwCl (pool G ad (va_up σ 16 u)) s.heap := hP
  have hS : va_S (AA B0) s.heap s.heap [] := va_S.rf
  have hl := lv_entry ([.ref (ad (279)), .int a, .int b, .int c1, .int d]) (n := 5) (Nat.le_of_ble_eq_true rfl)
  rw [lg_entry_eq]
  generalize (lg_sl ([.ref (ad (279)), .int a, .int b, .int c1, .int d]) ++ List.replicate (5 - (lg_sl ([.ref (ad (279)), .int a, .int b, .int c1, .int d])).length) Slot.unset).toArray = ls at hl ⊢
  have hl : lv_has ls 5 [(0, .ref (ad (279))), (1, .int a), (2, .int b), (3, .int c1), (4, .int d)] := hl
  obtain ⟨FF, hFF⟩ : ∃ z, z = f7_isOn u a b c1 d := ⟨_, rfl⟩
  have hF := hFF.symm
  rw [f7_isOn] at hF
  refine lv_aload_n hx hb dX7_isOn_0 rfl (lv_at hl 0 rfl) ?_
  refine lv_iload_n hx hb dX7_isOn_1 rfl (lv_at hl 2 rfl) ?_
  refine lv_iconst (v := 1) hx hb dX7_isOn_2 (by decide) ?_
  refine va_calli (va_runV (As := [.int b, .int 1]) (rest := []) ⟨hx, hb, hml, hown, hts⟩ (c7_plate l hA σ u b 1 (vp_in_iff.mpr (by decide)) hbb) (cwV 2 hts gX7_isOn_X7_plate rfl rfl rfl hd_X7_plateV ⟨Nat.le_of_ble_eq_true rfl, Nat.le_of_ble_eq_true rfl⟩) ⟨hp_blind, va_recv hK hP (ci := 9) (q0 := 279) rfl c_279, hp_pre hK hN hP⟩ rfl rfl hl.1 rfl (lv_room (Nat.le_of_ble_eq_true rfl)) dX7_isOn_3 ⟨Nat.zero_le _, Nat.zero_le _⟩) hS (fun _ _ h => h) (fun _ h => h) (fun r3 _ t H locs ht hvm hw9 hB hz1 hk1 hS => ?_)
  have hP := ho_at ht hB
  have eq3 := hw9
  have hF := bnd_s eq3 hF
  refine lv_iload hx hb dX7_isOn_6 (lv_at hl 4 rfl) ?_
  refine lv_icmp_ne (tgt := 50) hx hb dX7_isOn_8 (by decide) (fun c8 => ?_) (fun c8 => ?_)
  · have hF := iff_ c8 hF
    refine lv_iconst (v := 0) hx hb dX7_isOn_50 (by decide) ?_
    exact W.zret (v := 0) hx hb hr (bl_nar bl0) (fun t ht hW => ⟨⟨0, (), rfl, ⟨hF.trans hFF, bl0⟩, ho_of ht hP⟩, hS.F ht⟩) hS.2.2 dX7_isOn_51
  · have hF := ift c8 hF
    refine lv_iload_n hx hb dX7_isOn_11 rfl (lv_at hl 3 rfl) ?_
    refine lv_aload_n hx hb dX7_isOn_12 rfl (lv_at hl 0 rfl) ?_
    refine lv_iload_n hx hb dX7_isOn_13 rfl (lv_at hl 2 rfl) ?_
    refine lv_iconst (v := 0) hx hb dX7_isOn_14 (by decide) ?_
    refine va_calli (va_runV (As := [.int b, .int 0]) (rest := [.int c1]) ⟨hx, hb, hml, hown, hts⟩ (c7_plate l hA σ u b 0 (vp_in_iff.mpr (by decide)) hbb) (cwV 2 hts gX7_isOn_X7_plate rfl rfl rfl hd_X7_plateV ⟨Nat.le_of_ble_eq_true rfl, Nat.le_of_ble_eq_true rfl⟩) ⟨hp_blind, va_recv hK hP (ci := 9) (q0 := 279) rfl c_279, hp_pre hK hN hP⟩ rfl rfl hl.1 rfl (lv_room (Nat.le_of_ble_eq_true rfl)) dX7_isOn_15 ⟨Nat.zero_le _, Nat.zero_le _⟩) hS (fun _ _ h => h) (fun _ h => h) (fun r15 _ t H locs ht hvm hw9 hB hz1 hk1 hS => ?_)
    have hP := ho_at ht hB
    have eq15 := hw9
    have hF := bnd_s eq15 hF
    refine lv_aload_n hx hb dX7_isOn_18 rfl (lv_at hl 0 rfl) ?_
    refine lv_iload_n hx hb dX7_isOn_19 rfl (lv_at hl 2 rfl) ?_
    refine lv_iconst (v := 2) hx hb dX7_isOn_20 (by decide) ?_
    refine va_calli (va_runV (As := [.int b, .int 2]) (rest := [.int r15, .int c1]) ⟨hx, hb, hml, hown, hts⟩ (c7_plate l hA σ u b 2 (vp_in_iff.mpr (by decide)) hbb) (cwV 2 hts gX7_isOn_X7_plate rfl rfl rfl hd_X7_plateV ⟨Nat.le_of_ble_eq_true rfl, Nat.le_of_ble_eq_true rfl⟩) ⟨hp_blind, va_recv hK hP (ci := 9) (q0 := 279) rfl c_279, hp_pre hK hN hP⟩ rfl rfl hl.1 rfl (lv_room (Nat.le_of_ble_eq_true rfl)) dX7_isOn_21 ⟨Nat.zero_le _, Nat.zero_le _⟩) hS (fun _ _ h => h) (fun _ h => h) (fun r21 _ t H locs ht hvm hw9 hB hz1 hk1 hS => ?_)
    have hP := ho_at ht hB
    have eq21 := hw9
    have hF := bnd_s eq21 hF
    refine lv_iadd hx hb dX7_isOn_24 ?_
    refine lv_icmp_ge (tgt := 50) hx hb dX7_isOn_25 (by decide) (fun c25 => ?_) (fun c25 => ?_)
    · have hF := ift c25 hF
      refine lv_iconst (v := 0) hx hb dX7_isOn_50 (by decide) ?_
      exact W.zret (v := 0) hx hb hr (bl_nar bl0) (fun t ht hW => ⟨⟨0, (), rfl, ⟨hF.trans hFF, bl0⟩, ho_of ht hP⟩, hS.F ht⟩) hS.2.2 dX7_isOn_51
    · have hF := iff_ c25 hF
      refine lv_aload_n hx hb dX7_isOn_28 rfl (lv_at hl 0 rfl) ?_
      refine lv_iload_n hx hb dX7_isOn_29 rfl (lv_at hl 2 rfl) ?_
      refine lv_iconst (v := 0) hx hb dX7_isOn_30 (by decide) ?_
      refine va_calli (va_runV (As := [.int b, .int 0]) (rest := []) ⟨hx, hb, hml, hown, hts⟩ (c7_plate l hA σ u b 0 (vp_in_iff.mpr (by decide)) hbb) (cwV 2 hts gX7_isOn_X7_plate rfl rfl rfl hd_X7_plateV ⟨Nat.le_of_ble_eq_true rfl, Nat.le_of_ble_eq_true rfl⟩) ⟨hp_blind, va_recv hK hP (ci := 9) (q0 := 279) rfl c_279, hp_pre hK hN hP⟩ rfl rfl hl.1 rfl (lv_room (Nat.le_of_ble_eq_true rfl)) dX7_isOn_31 ⟨Nat.zero_le _, Nat.zero_le _⟩) hS (fun _ _ h => h) (fun _ h => h) (fun r31 _ t H locs ht hvm hw9 hB hz1 hk1 hS => ?_)
      have hP := ho_at ht hB
      have eq31 := hw9
      have hF := bnd_s eq31 hF
      refine lv_iload_n hx hb dX7_isOn_34 rfl (lv_at hl 3 rfl) ?_
      refine lv_aload_n hx hb dX7_isOn_35 rfl (lv_at hl 0 rfl) ?_
      refine lv_iload_n hx hb dX7_isOn_36 rfl (lv_at hl 1 rfl) ?_
      refine lv_bipush (v := 7) hx hb dX7_isOn_37 (by decide) ?_
      refine va_calli (va_runV (As := [.int a, .int 7]) (rest := [.int c1, .int r31]) ⟨hx, hb, hml, hown, hts⟩ (c7_of l hA σ u a 7 (vp_in_iff.mpr (by decide)) hba) (cwV 2 hts gX7_isOn_X7_of rfl rfl rfl hd_X7_ofV ⟨Nat.le_of_ble_eq_true rfl, Nat.le_of_ble_eq_true rfl⟩) ⟨hp_blind, va_recv hK hP (ci := 9) (q0 := 279) rfl c_279, hp_pre hK hN hP⟩ rfl rfl hl.1 rfl (lv_room (Nat.le_of_ble_eq_true rfl)) dX7_isOn_39 ⟨Nat.zero_le _, Nat.zero_le _⟩) hS (fun _ _ h => h) (fun _ h => h) (fun r39 _ t H locs ht hvm hw9 hB hz1 hk1 hS => ?_)
      have hP := ho_at ht hB
      have eq39 := hw9
      have hF := bnd_s eq39 hF
      refine lv_iadd hx hb dX7_isOn_42 ?_
      refine lv_icmp_ge (tgt := 50) hx hb dX7_isOn_43 (by decide) (fun c43 => ?_) (fun c43 => ?_)
      · have hF := ift c43 hF
        refine lv_iconst (v := 0) hx hb dX7_isOn_50 (by decide) ?_
        exact W.zret (v := 0) hx hb hr (bl_nar bl0) (fun t ht hW => ⟨⟨0, (), rfl, ⟨hF.trans hFF, bl0⟩, ho_of ht hP⟩, hS.F ht⟩) hS.2.2 dX7_isOn_51
      · have hF := iff_ c43 hF
        refine lv_iconst (v := 1) hx hb dX7_isOn_46 (by decide) ?_
        refine lv_goto (tgt := 51) hx hb dX7_isOn_47 (by decide) ?_
        exact W.zret (v := 1) hx hb hr (bl_nar bl1) (fun t ht hW => ⟨⟨1, (), rfl, ⟨hF.trans hFF, bl1⟩, ho_of ht hP⟩, hS.F ht⟩) hS.2.2 dX7_isOn_51
theorem hd_X7_isOnV : yX7_isOn.cls = RX7 ∧ yX7_isOn.cls ≠ "java/lang/invoke/MethodHandle" ∧ yX7_isOn.cls ≠ "java/lang/invoke/VarHandle" ∧ (parseMethodDescriptor yX7_isOn.desc).map (fun d => d.parameters.length) = some 4 := by decide +kernel
