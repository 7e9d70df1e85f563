set_option maxHeartbeats 4000000 in
set_option maxRecDepth 100000 in
theorem c6_isWithin (l : Launch) {D : va_G} {G : CY} {ad : Nat → Nat} {B0 : Nat} (hA : adOK B0 ad) (σ : Nat → Nat → Int32) (a : Int32) (b : Int32) (c1 : Int32) : Met l yX6_isWithin wsX6_isWithin { frames := 0, cells := 0, slots := 0, locals := 0 } (va_Pc [.int a, .int b, .int c1] (Hp D G ad σ)) (va_Qi (fun (r : Int32) (_ : Unit) => r = f6_isWithin a b c1 ∧ bl r) (fun (_ : Unit) => Ho D G ad σ) (AA B0)) 0 0 (AA B0) := by
  refine Met.ofW (cc := cX6_isWithin) (maxL := 3) (ret := (some .boolean)) (by decide) rfl ?_
  intro p e s m args below meth c s₁ B hml hv
  obtain ⟨rfl, hP, hK, hN⟩ := hv
  have hx := B.exec
  have hb := B.bytes
  have hr := B.returns
  have hts := atoms_spec (ws := wsX6_isWithin) B.pre
  have hown : s.vm.findClass RX6 = some m.cls := findClass_of_methodNamed B.named
  have hlocks := B.notSynchronized
  have hP : va_P D vwCl (pool G ad σ) s.heap := hP
  have hS : va_S (AA B0) s.heap s.heap [] := va_S.rf
  have hl := lv_entry ([.int a, .int b, .int c1]) (n := 3) (Nat.le_of_ble_eq_true rfl)
  rw [lg_entry_eq]
  generalize (lg_sl ([.int a, .int b, .int c1]) ++ List.replicate (3 - (lg_sl ([.int a, .int b, .int c1])).length) Slot.unset).toArray = ls at hl ⊢
  have hl : lv_has ls 3 [(0, .int a), (1, .int b), (2, .int c1)] := hl
  obtain ⟨FF, hFF⟩ : ∃ z, z = f6_isWithin a b c1 := ⟨_, rfl⟩
  have hF := hFF.symm
  rw [f6_isWithin] at hF
  refine lv_iload_n hx hb dX6_isWithin_0 rfl (lv_at hl 0 rfl) ?_
  refine lv_iload_n hx hb dX6_isWithin_1 rfl (lv_at hl 1 rfl) ?_
  refine lv_icmp_lt (tgt := 14) hx hb dX6_isWithin_2 (by decide) (fun c2 => ?_) (fun c2 => ?_)
  · have hF := ift c2 hF
    refine lv_iconst (v := 0) hx hb dX6_isWithin_14 (by decide) ?_
    exact W.zret (v := 0) hx hb hr (bl_nar bl0) (fun t ht hW => ⟨⟨0, (), rfl, ⟨hF.trans hFF, bl0⟩, ho_of ht hP⟩, hS.F ht⟩) hS.2.2 dX6_isWithin_15
  · have hF := iff_ c2 hF
    refine lv_iload_n hx hb dX6_isWithin_5 rfl (lv_at hl 0 rfl) ?_
    refine lv_iload_n hx hb dX6_isWithin_6 rfl (lv_at hl 2 rfl) ?_
    refine lv_icmp_gt (tgt := 14) hx hb dX6_isWithin_7 (by decide) (fun c7 => ?_) (fun c7 => ?_)
    · have hF := ift c7 hF
      refine lv_iconst (v := 0) hx hb dX6_isWithin_14 (by decide) ?_
      exact W.zret (v := 0) hx hb hr (bl_nar bl0) (fun t ht hW => ⟨⟨0, (), rfl, ⟨hF.trans hFF, bl0⟩, ho_of ht hP⟩, hS.F ht⟩) hS.2.2 dX6_isWithin_15
    · have hF := iff_ c7 hF
      refine lv_iconst (v := 1) hx hb dX6_isWithin_10 (by decide) ?_
      refine lv_goto (tgt := 15) hx hb dX6_isWithin_11 (by decide) ?_
      exact W.zret (v := 1) hx hb hr (bl_nar bl1) (fun t ht hW => ⟨⟨1, (), rfl, ⟨hF.trans hFF, bl1⟩, ho_of ht hP⟩, hS.F ht⟩) hS.2.2 dX6_isWithin_15
theorem hd_X6_isWithinS : yX6_isWithin.cls ≠ "java/lang/invoke/MethodHandle" ∧ yX6_isWithin.cls ≠ "java/lang/invoke/VarHandle" ∧ (parseMethodDescriptor yX6_isWithin.desc).map (fun d => d.parameters.length) = some 3 := by decide +kernel
set_option maxHeartbeats 4000000 in
set_option maxRecDepth 100000 in
theorem c6_isTile (l : Launch) {D : va_G} {G : CY} {ad : Nat → Nat} {B0 : Nat} (hA : adOK B0 ad) (σ : Nat → Nat → Int32) (a : Int32) (b : Int32) : Met l yX6_isTile wsX6_isTile { frames := 1, cells := 0, slots := 0, locals := 22 } (va_Pc [.int a, .int b] (Hp D G ad σ)) (va_Qi (fun (r : Int32) (_ : Unit) => r = f6_isTile a b ∧ bl r) (fun (_ : Unit) => Ho D G ad σ) (AA B0)) 0 0 (AA B0) := by
  refine Met.ofW (cc := cX6_isTile) (maxL := 2) (ret := (some .boolean)) (by decide) rfl ?_
  intro p e s m args below meth c s₁ B hml hv
  obtain ⟨rfl, hP, hK, hN⟩ := hv
  have hx := B.exec
  have hb := B.bytes
  have hr := B.returns
  have hts := atoms_spec (ws := wsX6_isTile) B.pre
  have hown : s.vm.findClass RX6 = some m.cls := findClass_of_methodNamed B.named
  have hlocks := B.notSynchronized
  have hP : va_P D vwCl (pool G ad σ) s.heap := hP
  have hS : va_S (AA B0) s.heap s.heap [] := va_S.rf
  have hl := lv_entry ([.int a, .int b]) (n := 2) (Nat.le_of_ble_eq_true rfl)
  rw [lg_entry_eq]
  generalize (lg_sl ([.int a, .int b]) ++ List.replicate (2 - (lg_sl ([.int a, .int b])).length) Slot.unset).toArray = ls at hl ⊢
  have hl : lv_has ls 2 [(0, .int a), (1, .int b)] := hl
  obtain ⟨FF, hFF⟩ : ∃ z, z = f6_isTile a b := ⟨_, rfl⟩
  have hF := hFF.symm
  rw [f6_isTile] at hF
  refine lv_iload_n hx hb dX6_isTile_0 rfl (lv_at hl 0 rfl) ?_
  refine lv_iconst (v := 0) hx hb dX6_isTile_1 (by decide) ?_
  refine lv_bipush (v := 23) hx hb dX6_isTile_2 (by decide) ?_
  refine va_calli (va_runS (As := [.int a, .int 0, .int 23]) (rest := []) ⟨hx, hb, hml, hown, hts⟩ (c6_isWithin l hA σ a 0 23 ) (va_cwS 3 hts gX6_isTile_X6_isWithin rfl rfl rfl hd_X6_isWithinS ⟨Nat.le_of_ble_eq_true rfl, Nat.le_of_ble_eq_true rfl⟩) ⟨hp_blind, hp_pre hK hN hP⟩ rfl rfl hl.1 rfl (lv_room (Nat.le_of_ble_eq_true rfl)) dX6_isTile_4 ⟨Nat.zero_le _, Nat.zero_le _⟩) hS (fun _ _ h => h) (fun _ h => h) (fun r4 _ t H locs ht hvm hw9 hB hz1 hk1 hS => ?_)
  have hP := ho_at ht hB
  obtain ⟨eq4, hb_r4⟩ := hw9
  have hF := bnd_s eq4 hF
  refine lv_if_eq (tgt := 24) hx hb dX6_isTile_7 (by decide) (fun c7 => ?_) (fun c7 => ?_)
  · have hF := ift c7 hF
    refine lv_iconst (v := 0) hx hb dX6_isTile_24 (by decide) ?_
    exact W.zret (v := 0) hx hb hr (bl_nar bl0) (fun t ht hW => ⟨⟨0, (), rfl, ⟨hF.trans hFF, bl0⟩, ho_of ht hP⟩, hS.F ht⟩) hS.2.2 dX6_isTile_25
  · have hF := iff_ c7 hF
    refine lv_iload_n hx hb dX6_isTile_10 rfl (lv_at hl 1 rfl) ?_
    refine lv_iconst (v := 0) hx hb dX6_isTile_11 (by decide) ?_
    refine lv_bipush (v := 13) hx hb dX6_isTile_12 (by decide) ?_
    refine va_calli (va_runS (As := [.int b, .int 0, .int 13]) (rest := []) ⟨hx, hb, hml, hown, hts⟩ (c6_isWithin l hA σ b 0 13 ) (va_cwS 3 hts gX6_isTile_X6_isWithin rfl rfl rfl hd_X6_isWithinS ⟨Nat.le_of_ble_eq_true rfl, Nat.le_of_ble_eq_true rfl⟩) ⟨hp_blind, hp_pre hK hN hP⟩ rfl rfl hl.1 rfl (lv_room (Nat.le_of_ble_eq_true rfl)) dX6_isTile_14 ⟨Nat.zero_le _, Nat.zero_le _⟩) hS (fun _ _ h => h) (fun _ h => h) (fun r14 _ t H locs ht hvm hw9 hB hz1 hk1 hS => ?_)
    have hP := ho_at ht hB
    obtain ⟨eq14, hb_r14⟩ := hw9
    have hF := bnd_s eq14 hF
    refine lv_if_eq (tgt := 24) hx hb dX6_isTile_17 (by decide) (fun c17 => ?_) (fun c17 => ?_)
    · have hF := ift c17 hF
      refine lv_iconst (v := 0) hx hb dX6_isTile_24 (by decide) ?_
      exact W.zret (v := 0) hx hb hr (bl_nar bl0) (fun t ht hW => ⟨⟨0, (), rfl, ⟨hF.trans hFF, bl0⟩, ho_of ht hP⟩, hS.F ht⟩) hS.2.2 dX6_isTile_25
    · have hF := iff_ c17 hF
      refine lv_iconst (v := 1) hx hb dX6_isTile_20 (by decide) ?_
      refine lv_goto (tgt := 25) hx hb dX6_isTile_21 (by decide) ?_
      exact W.zret (v := 1) hx hb hr (bl_nar bl1) (fun t ht hW => ⟨⟨1, (), rfl, ⟨hF.trans hFF, bl1⟩, ho_of ht hP⟩, hS.F ht⟩) hS.2.2 dX6_isTile_25
theorem hd_X6_isTileS : yX6_isTile.cls ≠ "java/lang/invoke/MethodHandle" ∧ yX6_isTile.cls ≠ "java/lang/invoke/VarHandle" ∧ (parseMethodDescriptor yX6_isTile.desc).map (fun d => d.parameters.length) = some 2 := by decide +kernel
set_option maxHeartbeats 4000000 in
set_option maxRecDepth 100000 in
theorem c6_isFirm (l : Launch) {D : va_G} {G : CY} {ad : Nat → Nat} {B0 : Nat} (hA : adOK B0 ad) (σ : Nat → Nat → Int32) (a : Int32) : Met l yX6_isFirm wsX6_isFirm { frames := 0, cells := 0, slots := 0, locals := 0 } (va_Pc [.int a] (Hp D G ad σ)) (va_Qi (fun (r : Int32) (_ : Unit) => r = f6_isFirm a ∧ bl r) (fun (_ : Unit) => Ho D G ad σ) (AA B0)) 0 0 (AA B0) := by
  refine Met.ofW (cc := cX6_isFirm) (maxL := 1) (ret := (some .boolean)) (by decide) rfl ?_
  intro p e s m args below meth c s₁ B hml hv
  obtain ⟨rfl, hP, hK, hN⟩ := hv
  have hx := B.exec
  have hb := B.bytes
  have hr := B.returns
  have hts := atoms_spec (ws := wsX6_isFirm) B.pre
  have hown : s.vm.findClass RX6 = some m.cls := findClass_of_methodNamed B.named
  have hlocks := B.notSynchronized
  have hP : va_P D vwCl (pool G ad σ) s.heap := hP
  have hS : va_S (AA B0) s.heap s.heap [] := va_S.rf
  have hl := lv_entry ([.int a]) (n := 1) (Nat.le_of_ble_eq_true rfl)
  rw [lg_entry_eq]
  generalize (lg_sl ([.int a]) ++ List.replicate (1 - (lg_sl ([.int a])).length) Slot.unset).toArray = ls at hl ⊢
  have hl : lv_has ls 1 [(0, .int a)] := hl
  obtain ⟨FF, hFF⟩ : ∃ z, z = f6_isFirm a := ⟨_, rfl⟩
  have hF := hFF.symm
  rw [f6_isFirm] at hF
  refine lv_iload_n hx hb dX6_isFirm_0 rfl (lv_at hl 0 rfl) ?_
  refine lv_iconst (v := 1) hx hb dX6_isFirm_1 (by decide) ?_
  refine lv_icmp_eq (tgt := 16) hx hb dX6_isFirm_2 (by decide) (fun c2 => ?_) (fun c2 => ?_)
  · have hF := ift c2 hF
    refine lv_iconst (v := 1) hx hb dX6_isFirm_16 (by decide) ?_
    refine lv_goto (tgt := 21) hx hb dX6_isFirm_17 (by decide) ?_
    exact W.zret (v := 1) hx hb hr (bl_nar bl1) (fun t ht hW => ⟨⟨1, (), rfl, ⟨hF.trans hFF, bl1⟩, ho_of ht hP⟩, hS.F ht⟩) hS.2.2 dX6_isFirm_21
  · have hF := iff_ c2 hF
    refine lv_iload_n hx hb dX6_isFirm_5 rfl (lv_at hl 0 rfl) ?_
    refine lv_iconst (v := 5) hx hb dX6_isFirm_6 (by decide) ?_
    refine lv_icmp_lt (tgt := 20) hx hb dX6_isFirm_7 (by decide) (fun c7 => ?_) (fun c7 => ?_)
    · have hF := ift c7 hF
      refine lv_iconst (v := 0) hx hb dX6_isFirm_20 (by decide) ?_
      exact W.zret (v := 0) hx hb hr (bl_nar bl0) (fun t ht hW => ⟨⟨0, (), rfl, ⟨hF.trans hFF, bl0⟩, ho_of ht hP⟩, hS.F ht⟩) hS.2.2 dX6_isFirm_21
    · have hF := iff_ c7 hF
      refine lv_iload_n hx hb dX6_isFirm_10 rfl (lv_at hl 0 rfl) ?_
      refine lv_bipush (v := 8) hx hb dX6_isFirm_11 (by decide) ?_
      refine lv_icmp_gt (tgt := 20) hx hb dX6_isFirm_13 (by decide) (fun c13 => ?_) (fun c13 => ?_)
      · have hF := ift c13 hF
        refine lv_iconst (v := 0) hx hb dX6_isFirm_20 (by decide) ?_
        exact W.zret (v := 0) hx hb hr (bl_nar bl0) (fun t ht hW => ⟨⟨0, (), rfl, ⟨hF.trans hFF, bl0⟩, ho_of ht hP⟩, hS.F ht⟩) hS.2.2 dX6_isFirm_21
      · have hF := iff_ c13 hF
        refine lv_iconst (v := 1) hx hb dX6_isFirm_16 (by decide) ?_
        refine lv_goto (tgt := 21) hx hb dX6_isFirm_17 (by decide) ?_
        exact W.zret (v := 1) hx hb hr (bl_nar bl1) (fun t ht hW => ⟨⟨1, (), rfl, ⟨hF.trans hFF, bl1⟩, ho_of ht hP⟩, hS.F ht⟩) hS.2.2 dX6_isFirm_21
theorem hd_X6_isFirmS : yX6_isFirm.cls ≠ "java/lang/invoke/MethodHandle" ∧ yX6_isFirm.cls ≠ "java/lang/invoke/VarHandle" ∧ (parseMethodDescriptor yX6_isFirm.desc).map (fun d => d.parameters.length) = some 1 := by decide +kernel
set_option maxHeartbeats 4000000 in
set_option maxRecDepth 100000 in
theorem c6_isSlope (l : Launch) {D : va_G} {G : CY} {ad : Nat → Nat} {B0 : Nat} (hA : adOK B0 ad) (σ : Nat → Nat → Int32) (a : Int32) : Met l yX6_isSlope wsX6_isSlope { frames := 0, cells := 0, slots := 0, locals := 0 } (va_Pc [.int a] (Hp D G ad σ)) (va_Qi (fun (r : Int32) (_ : Unit) => r = f6_isSlope a ∧ bl r) (fun (_ : Unit) => Ho D G ad σ) (AA B0)) 0 0 (AA B0) := by
  refine Met.ofW (cc := cX6_isSlope) (maxL := 1) (ret := (some .boolean)) (by decide) rfl ?_
  intro p e s m args below meth c s₁ B hml hv
  obtain ⟨rfl, hP, hK, hN⟩ := hv
  have hx := B.exec
  have hb := B.bytes
  have hr := B.returns
  have hts := atoms_spec (ws := wsX6_isSlope) B.pre
  have hown : s.vm.findClass RX6 = some m.cls := findClass_of_methodNamed B.named
  have hlocks := B.notSynchronized
  have hP : va_P D vwCl (pool G ad σ) s.heap := hP
  have hS : va_S (AA B0) s.heap s.heap [] := va_S.rf
  have hl := lv_entry ([.int a]) (n := 1) (Nat.le_of_ble_eq_true rfl)
  rw [lg_entry_eq]
  generalize (lg_sl ([.int a]) ++ List.replicate (1 - (lg_sl ([.int a])).length) Slot.unset).toArray = ls at hl ⊢
  have hl : lv_has ls 1 [(0, .int a)] := hl
  obtain ⟨FF, hFF⟩ : ∃ z, z = f6_isSlope a := ⟨_, rfl⟩
  have hF := hFF.symm
  rw [f6_isSlope] at hF
  refine lv_iload_n hx hb dX6_isSlope_0 rfl (lv_at hl 0 rfl) ?_
  refine lv_iconst (v := 3) hx hb dX6_isSlope_1 (by decide) ?_
  refine lv_icmp_eq (tgt := 10) hx hb dX6_isSlope_2 (by decide) (fun c2 => ?_) (fun c2 => ?_)
  · have hF := ift c2 hF
    refine lv_iconst (v := 1) hx hb dX6_isSlope_10 (by decide) ?_
    refine lv_goto (tgt := 15) hx hb dX6_isSlope_11 (by decide) ?_
    exact W.zret (v := 1) hx hb hr (bl_nar bl1) (fun t ht hW => ⟨⟨1, (), rfl, ⟨hF.trans hFF, bl1⟩, ho_of ht hP⟩, hS.F ht⟩) hS.2.2 dX6_isSlope_15
  · have hF := iff_ c2 hF
    refine lv_iload_n hx hb dX6_isSlope_5 rfl (lv_at hl 0 rfl) ?_
    refine lv_iconst (v := 4) hx hb dX6_isSlope_6 (by decide) ?_
    refine lv_icmp_ne (tgt := 14) hx hb dX6_isSlope_7 (by decide) (fun c7 => ?_) (fun c7 => ?_)
    · have hF := iff_ c7 hF
      refine lv_iconst (v := 0) hx hb dX6_isSlope_14 (by decide) ?_
      exact W.zret (v := 0) hx hb hr (bl_nar bl0) (fun t ht hW => ⟨⟨0, (), rfl, ⟨hF.trans hFF, bl0⟩, ho_of ht hP⟩, hS.F ht⟩) hS.2.2 dX6_isSlope_15
    · have hF := ift c7 hF
      refine lv_iconst (v := 1) hx hb dX6_isSlope_10 (by decide) ?_
      refine lv_goto (tgt := 15) hx hb dX6_isSlope_11 (by decide) ?_
      exact W.zret (v := 1) hx hb hr (bl_nar bl1) (fun t ht hW => ⟨⟨1, (), rfl, ⟨hF.trans hFF, bl1⟩, ho_of ht hP⟩, hS.F ht⟩) hS.2.2 dX6_isSlope_15
theorem hd_X6_isSlopeS : yX6_isSlope.cls ≠ "java/lang/invoke/MethodHandle" ∧ yX6_isSlope.cls ≠ "java/lang/invoke/VarHandle" ∧ (parseMethodDescriptor yX6_isSlope.desc).map (fun d => d.parameters.length) = some 1 := by decide +kernel
set_option maxHeartbeats 4000000 in
set_option maxRecDepth 100000 in
theorem c4_isIgnored (l : Launch) {D : va_G} {G : CY} {ad : Nat → Nat} {B0 : Nat} (hA : adOK B0 ad) (σ : Nat → Nat → Int32) (a : Int32) (b : Int32) (c1 : Int32) : Met l yX4_isIgnored wsX4_isIgnored { frames := 0, cells := 0, slots := 0, locals := 0 } (va_Pc [.int a, .int b, .int c1] (Hp D G ad σ)) (va_Qi (fun (r : Int32) (_ : Unit) => r = f4_isIgnored a b c1 ∧ bl r) (fun (_ : Unit) => Ho D G ad σ) (AA B0)) 0 0 (AA B0) := by
  refine Met.ofW (cc := cX4_isIgnored) (maxL := 3) (ret := (some .boolean)) (by decide) rfl ?_
  intro p e s m args below meth c s₁ B hml hv
  obtain ⟨rfl, hP, hK, hN⟩ := hv
  have hx := B.exec
  have hb := B.bytes
  have hr := B.returns
  have hts := atoms_spec (ws := wsX4_isIgnored) B.pre
  have hown : s.vm.findClass RX4 = some m.cls := findClass_of_methodNamed B.named
  have hlocks := B.notSynchronized
  have hP : va_P D vwCl (pool G ad σ) s.heap := hP
  have hS : va_S (AA B0) s.heap s.heap [] := va_S.rf
  have hl := lv_entry ([.int a, .int b, .int c1]) (n := 3) (Nat.le_of_ble_eq_true rfl)
  rw [lg_entry_eq]
  generalize (lg_sl ([.int a, .int b, .int c1]) ++ List.replicate (3 - (lg_sl ([.int a, .int b, .int c1])).length) Slot.unset).toArray = ls at hl ⊢
  have hl : lv_has ls 3 [(0, .int a), (1, .int b), (2, .int c1)] := hl
  obtain ⟨FF, hFF⟩ : ∃ z, z = f4_isIgnored a b c1 := ⟨_, rfl⟩
  have hF := hFF.symm
  rw [f4_isIgnored] at hF
  refine lv_iload_n hx hb dX4_isIgnored_0 rfl (lv_at hl 1 rfl) ?_
  refine lv_iload_n hx hb dX4_isIgnored_1 rfl (lv_at hl 2 rfl) ?_
  refine lv_icmp_ne (tgt := 19) hx hb dX4_isIgnored_2 (by decide) (fun c2 => ?_) (fun c2 => ?_)
  · have hF := iff_ c2 hF
    refine lv_iconst (v := 0) hx hb dX4_isIgnored_19 (by decide) ?_
    exact W.zret (v := 0) hx hb hr (bl_nar bl0) (fun t ht hW => ⟨⟨0, (), rfl, ⟨hF.trans hFF, bl0⟩, ho_of ht hP⟩, hS.F ht⟩) hS.2.2 dX4_isIgnored_20
  · have hF := ift c2 hF
    refine lv_iload_n hx hb dX4_isIgnored_5 rfl (lv_at hl 0 rfl) ?_
    refine lv_if_lt (tgt := 19) hx hb dX4_isIgnored_6 (by decide) (fun c6 => ?_) (fun c6 => ?_)
    · have hF := ift c6 hF
      refine lv_iconst (v := 0) hx hb dX4_isIgnored_19 (by decide) ?_
      exact W.zret (v := 0) hx hb hr (bl_nar bl0) (fun t ht hW => ⟨⟨0, (), rfl, ⟨hF.trans hFF, bl0⟩, ho_of ht hP⟩, hS.F ht⟩) hS.2.2 dX4_isIgnored_20
    · have hF := iff_ c6 hF
      refine lv_iload_n hx hb dX4_isIgnored_9 rfl (lv_at hl 0 rfl) ?_
      refine lv_bipush (v := 24) hx hb dX4_isIgnored_10 (by decide) ?_
      refine lv_icmp_ge (tgt := 19) hx hb dX4_isIgnored_12 (by decide) (fun c12 => ?_) (fun c12 => ?_)
      · have hF := ift c12 hF
        refine lv_iconst (v := 0) hx hb dX4_isIgnored_19 (by decide) ?_
        exact W.zret (v := 0) hx hb hr (bl_nar bl0) (fun t ht hW => ⟨⟨0, (), rfl, ⟨hF.trans hFF, bl0⟩, ho_of ht hP⟩, hS.F ht⟩) hS.2.2 dX4_isIgnored_20
      · have hF := iff_ c12 hF
        refine lv_iconst (v := 1) hx hb dX4_isIgnored_15 (by decide) ?_
        refine lv_goto (tgt := 20) hx hb dX4_isIgnored_16 (by decide) ?_
        exact W.zret (v := 1) hx hb hr (bl_nar bl1) (fun t ht hW => ⟨⟨1, (), rfl, ⟨hF.trans hFF, bl1⟩, ho_of ht hP⟩, hS.F ht⟩) hS.2.2 dX4_isIgnored_20
theorem hd_X4_isIgnoredS : yX4_isIgnored.cls ≠ "java/lang/invoke/MethodHandle" ∧ yX4_isIgnored.cls ≠ "java/lang/invoke/VarHandle" ∧ (parseMethodDescriptor yX4_isIgnored.desc).map (fun d => d.parameters.length) = some 3 := by decide +kernel
set_option maxHeartbeats 4000000 in
set_option maxRecDepth 100000 in
theorem c0_footAt (l : Launch) {D : va_G} {G : CY} {ad : Nat → Nat} {B0 : Nat} (hA : adOK B0 ad) (σ : Nat → Nat → Int32) (u : Nat → Int32) (w : Nat) (hw : w < 15) (i : Nat) (hi : i < 4) (a : Int32) : Met l yX0_footAt wsX0_footAt { frames := 0, cells := 0, slots := 0, locals := 0 } (va_Pc [.ref (ad (18*w+(6+2*i))), .int a] (Hp D G ad (va_up σ w u))) (va_Qi (fun (r : Int32) (_ : Unit) => r = f0_footAt u i a) (fun (_ : Unit) => Ho D G ad (va_up σ w u)) (AA B0)) 0 0 (AA B0) := by
  refine Met.ofW (cc := cX0_footAt) (maxL := 2) (ret := (some .int)) (by decide) rfl ?_
  intro p e s m args below meth c s₁ B hml hv
  obtain ⟨rfl, hP, hK, hN⟩ := hv
  have hx := B.exec
  have hb := B.bytes
  have hr := B.returns
  have hts := atoms_spec (ws := wsX0_footAt) B.pre
  have hown : s.vm.findClass RX0 = some m.cls := findClass_of_methodNamed B.named
  have hlocks := B.notSynchronized
  have inX0 : ∀ w ∈ wsX00, w ∈ wsX0_footAt := (fun w h => List.mem_cons_of_mem _ (List.mem_append_right _ h))
  have hP : va_P D vwCl (pool G ad (va_up σ w u)) s.heap := hP
  have hS : va_S (AA B0) s.heap s.heap [] := va_S.rf
  have hl := lv_entry ([.ref (ad (18*w+(6+2*i))), .int a]) (n := 2) (Nat.le_of_ble_eq_true rfl)
  rw [lg_entry_eq]
  generalize (lg_sl ([.ref (ad (18*w+(6+2*i))), .int a]) ++ List.replicate (2 - (lg_sl ([.ref (ad (18*w+(6+2*i))), .int a])).length) Slot.unset).toArray = ls at hl ⊢
  have hl : lv_has ls 2 [(0, .ref (ad (18*w+(6+2*i)))), (1, .int a)] := hl
  obtain ⟨FF, hFF⟩ : ∃ z, z = f0_footAt u i a := ⟨_, rfl⟩
  have hF := hFF.symm
  rw [f0_footAt] at hF
  refine lv_iload_n hx hb dX0_footAt_0 rfl (lv_at hl 1 rfl) ?_
  refine lv_aload_n hx hb dX0_footAt_1 rfl (lv_at hl 0 rfl) ?_
  refine va_get (D := D) (ci := 2) (C := RX0) (T := TX0) (N := 16) hx hb hts inX0 hown hK hP (18*w+(6+2*i)) (c_b hw hi) rfl 2 (by decide) (hts (.fieldLink RX0 28 "TileRunners$Body" "width" "I") (List.mem_of_getElem? (i := 1) rfl)) (fun _ h9 => h9) rfl dX0_footAt_2 ?_
  refine lv_iconst (v := 2) hx hb dX0_footAt_5 (by decide) ?_
  refine lv_idiv hx hb dX0_footAt_6 (by decide) ?_
  refine lv_iadd hx hb dX0_footAt_7 ?_
  exact W.iret (v := (a + ((u (336+24*i+7)) / 2))) hx hb hr (fun t ht hW => ⟨⟨(a + ((u (336+24*i+7)) / 2)), (), rfl, hF.trans hFF, ho_of ht hP⟩, hS.F ht⟩) hS.2.2 dX0_footAt_8
theorem hd_X0_footAtV : yX0_footAt.cls = RX0 ∧ yX0_footAt.cls ≠ "java/lang/invoke/MethodHandle" ∧ yX0_footAt.cls ≠ "java/lang/invoke/VarHandle" ∧ (parseMethodDescriptor yX0_footAt.desc).map (fun d => d.parameters.length) = some 1 := by decide +kernel
set_option maxHeartbeats 4000000 in
set_option maxRecDepth 100000 in
theorem c0_number (l : Launch) {D : va_G} {G : CY} {ad : Nat → Nat} {B0 : Nat} (hA : adOK B0 ad) (σ : Nat → Nat → Int32) (u : Nat → Int32) (w : Nat) (hw : w < 15) (i : Nat) (hi : i < 4) (a : Int32) : Met l yX0_number wsX0_number { frames := 0, cells := 0, slots := 0, locals := 0 } (va_Pc [.ref (ad (18*w+(6+2*i))), .int a] (Hp D G ad (va_up σ w u))) (va_Qi (fun (r : Int32) (_ : Unit) => r = f0_number u i a) (fun (_ : Unit) => Ho D G ad (va_up σ w u)) (AA B0)) 0 0 (AA B0) := by
  refine Met.ofW (cc := cX0_number) (maxL := 2) (ret := (some .int)) (by decide) rfl ?_
  intro p e s m args below meth c s₁ B hml hv
  obtain ⟨rfl, hP, hK, hN⟩ := hv
  have hx := B.exec
  have hb := B.bytes
  have hr := B.returns
  have hts := atoms_spec (ws := wsX0_number) B.pre
  have hown : s.vm.findClass RX0 = some m.cls := findClass_of_methodNamed B.named
  have hlocks := B.notSynchronized
  have inX0 : ∀ w ∈ wsX00, w ∈ wsX0_number := (fun w h => List.mem_cons_of_mem _ (List.mem_append_right _ h))
  have hP : va_P D vwCl (pool G ad (va_up σ w u)) s.heap := hP
  have hS : va_S (AA B0) s.heap s.heap [] := va_S.rf
  have hl := lv_entry ([.ref (ad (18*w+(6+2*i))), .int a]) (n := 2) (Nat.le_of_ble_eq_true rfl)
  rw [lg_entry_eq]
  generalize (lg_sl ([.ref (ad (18*w+(6+2*i))), .int a]) ++ List.replicate (2 - (lg_sl ([.ref (ad (18*w+(6+2*i))), .int a])).length) Slot.unset).toArray = ls at hl ⊢
  have hl : lv_has ls 2 [(0, .ref (ad (18*w+(6+2*i)))), (1, .int a)] := hl
  obtain ⟨FF, hFF⟩ : ∃ z, z = f0_number u i a := ⟨_, rfl⟩
  have hF := hFF.symm
  rw [f0_number] at hF
  refine lv_iload_n hx hb dX0_number_0 rfl (lv_at hl 1 rfl) ?_
  by_cases k1_0 : a = 0
  · have hF := ift k1_0 hF
    refine lv_tableIn (tgt := 52) hx hb dX0_number_1 (by rw [k1_0]; decide) (by rw [k1_0]; decide) (by rw [k1_0]; rfl) (by decide) ?_
    refine lv_aload_n hx hb dX0_number_52 rfl (lv_at hl 0 rfl) ?_
    refine va_get (D := D) (ci := 2) (C := RX0) (T := TX0) (N := 16) hx hb hts inX0 hown hK hP (18*w+(6+2*i)) (c_b hw hi) rfl 0 (by decide) (hts (.fieldLink RX0 15 "TileRunners$Body" "x" "I") (List.mem_of_getElem? (i := 1) rfl)) (fun _ h9 => h9) rfl dX0_number_53 ?_
    exact W.iret (v := (u (336+24*i+0))) hx hb hr (fun t ht hW => ⟨⟨(u (336+24*i+0)), (), rfl, hF.trans hFF, ho_of ht hP⟩, hS.F ht⟩) hS.2.2 dX0_number_56
  have hF := iff_ k1_0 hF
  by_cases k1_1 : a = 1
  · have hF := ift k1_1 hF
    refine lv_tableIn (tgt := 57) hx hb dX0_number_1 (by rw [k1_1]; decide) (by rw [k1_1]; decide) (by rw [k1_1]; rfl) (by decide) ?_
    refine lv_aload_n hx hb dX0_number_57 rfl (lv_at hl 0 rfl) ?_
    refine va_get (D := D) (ci := 2) (C := RX0) (T := TX0) (N := 16) hx hb hts inX0 hown hK hP (18*w+(6+2*i)) (c_b hw hi) rfl 1 (by decide) (hts (.fieldLink RX0 19 "TileRunners$Body" "y" "I") (List.mem_of_getElem? (i := 2) rfl)) (fun _ h9 => h9) rfl dX0_number_58 ?_
    exact W.iret (v := (u (336+24*i+1))) hx hb hr (fun t ht hW => ⟨⟨(u (336+24*i+1)), (), rfl, hF.trans hFF, ho_of ht hP⟩, hS.F ht⟩) hS.2.2 dX0_number_61
  have hF := iff_ k1_1 hF
  by_cases k1_2 : a = 2
  · have hF := ift k1_2 hF
    refine lv_tableIn (tgt := 62) hx hb dX0_number_1 (by rw [k1_2]; decide) (by rw [k1_2]; decide) (by rw [k1_2]; rfl) (by decide) ?_
    refine lv_aload_n hx hb dX0_number_62 rfl (lv_at hl 0 rfl) ?_
    refine va_get (D := D) (ci := 2) (C := RX0) (T := TX0) (N := 16) hx hb hts inX0 hown hK hP (18*w+(6+2*i)) (c_b hw hi) rfl 6 (by decide) (hts (.fieldLink RX0 46 "TileRunners$Body" "horizontal" "I") (List.mem_of_getElem? (i := 3) rfl)) (fun _ h9 => h9) rfl dX0_number_63 ?_
    exact W.iret (v := (u (336+24*i+2))) hx hb hr (fun t ht hW => ⟨⟨(u (336+24*i+2)), (), rfl, hF.trans hFF, ho_of ht hP⟩, hS.F ht⟩) hS.2.2 dX0_number_66
  have hF := iff_ k1_2 hF
  by_cases k1_3 : a = 3
  · have hF := ift k1_3 hF
    refine lv_tableIn (tgt := 67) hx hb dX0_number_1 (by rw [k1_3]; decide) (by rw [k1_3]; decide) (by rw [k1_3]; rfl) (by decide) ?_
    refine lv_aload_n hx hb dX0_number_67 rfl (lv_at hl 0 rfl) ?_
    refine va_get (D := D) (ci := 2) (C := RX0) (T := TX0) (N := 16) hx hb hts inX0 hown hK hP (18*w+(6+2*i)) (c_b hw hi) rfl 7 (by decide) (hts (.fieldLink RX0 49 "TileRunners$Body" "vertical" "I") (List.mem_of_getElem? (i := 4) rfl)) (fun _ h9 => h9) rfl dX0_number_68 ?_
    exact W.iret (v := (u (336+24*i+3))) hx hb hr (fun t ht hW => ⟨⟨(u (336+24*i+3)), (), rfl, hF.trans hFF, ho_of ht hP⟩, hS.F ht⟩) hS.2.2 dX0_number_71
  have hF := iff_ k1_3 hF
  by_cases k1_4 : a = 4
  · have hF := ift k1_4 hF
    refine lv_tableIn (tgt := 72) hx hb dX0_number_1 (by rw [k1_4]; decide) (by rw [k1_4]; decide) (by rw [k1_4]; rfl) (by decide) ?_
    refine lv_aload_n hx hb dX0_number_72 rfl (lv_at hl 0 rfl) ?_
    refine va_get (D := D) (ci := 2) (C := RX0) (T := TX0) (N := 16) hx hb hts inX0 hown hK hP (18*w+(6+2*i)) (c_b hw hi) rfl 8 (by decide) (hts (.fieldLink RX0 52 "TileRunners$Body" "late" "I") (List.mem_of_getElem? (i := 5) rfl)) (fun _ h9 => h9) rfl dX0_number_73 ?_
    exact W.iret (v := (u (336+24*i+4))) hx hb hr (fun t ht hW => ⟨⟨(u (336+24*i+4)), (), rfl, hF.trans hFF, ho_of ht hP⟩, hS.F ht⟩) hS.2.2 dX0_number_76
  have hF := iff_ k1_4 hF
  by_cases k1_5 : a = 5
  · have hF := ift k1_5 hF
    refine lv_tableIn (tgt := 77) hx hb dX0_number_1 (by rw [k1_5]; decide) (by rw [k1_5]; decide) (by rw [k1_5]; rfl) (by decide) ?_
    refine lv_aload_n hx hb dX0_number_77 rfl (lv_at hl 0 rfl) ?_
    refine va_get (D := D) (ci := 2) (C := RX0) (T := TX0) (N := 16) hx hb hts inX0 hown hK hP (18*w+(6+2*i)) (c_b hw hi) rfl 9 (by decide) (hts (.fieldLink RX0 55 "TileRunners$Body" "buffer" "I") (List.mem_of_getElem? (i := 6) rfl)) (fun _ h9 => h9) rfl dX0_number_78 ?_
    exact W.iret (v := (u (336+24*i+5))) hx hb hr (fun t ht hW => ⟨⟨(u (336+24*i+5)), (), rfl, hF.trans hFF, ho_of ht hP⟩, hS.F ht⟩) hS.2.2 dX0_number_81
  have hF := iff_ k1_5 hF
  by_cases k1_6 : a = 6
  · have hF := ift k1_6 hF
    refine lv_tableIn (tgt := 82) hx hb dX0_number_1 (by rw [k1_6]; decide) (by rw [k1_6]; decide) (by rw [k1_6]; rfl) (by decide) ?_
    refine lv_aload_n hx hb dX0_number_82 rfl (lv_at hl 0 rfl) ?_
    refine va_get (D := D) (ci := 2) (C := RX0) (T := TX0) (N := 16) hx hb hts inX0 hown hK hP (18*w+(6+2*i)) (c_b hw hi) rfl 10 (by decide) (hts (.fieldLink RX0 58 "TileRunners$Body" "dropping" "I") (List.mem_of_getElem? (i := 7) rfl)) (fun _ h9 => h9) rfl dX0_number_83 ?_
    exact W.iret (v := (u (336+24*i+6))) hx hb hr (fun t ht hW => ⟨⟨(u (336+24*i+6)), (), rfl, hF.trans hFF, ho_of ht hP⟩, hS.F ht⟩) hS.2.2 dX0_number_86
  have hF := iff_ k1_6 hF
  by_cases k1_7 : a = 7
  · have hF := ift k1_7 hF
    refine lv_tableIn (tgt := 87) hx hb dX0_number_1 (by rw [k1_7]; decide) (by rw [k1_7]; decide) (by rw [k1_7]; rfl) (by decide) ?_
    refine lv_aload_n hx hb dX0_number_87 rfl (lv_at hl 0 rfl) ?_
    refine va_get (D := D) (ci := 2) (C := RX0) (T := TX0) (N := 16) hx hb hts inX0 hown hK hP (18*w+(6+2*i)) (c_b hw hi) rfl 2 (by decide) (hts (.fieldLink RX0 28 "TileRunners$Body" "width" "I") (List.mem_of_getElem? (i := 8) rfl)) (fun _ h9 => h9) rfl dX0_number_88 ?_
    exact W.iret (v := (u (336+24*i+7))) hx hb hr (fun t ht hW => ⟨⟨(u (336+24*i+7)), (), rfl, hF.trans hFF, ho_of ht hP⟩, hS.F ht⟩) hS.2.2 dX0_number_91
  have hF := iff_ k1_7 hF
  by_cases k1_8 : a = 8
  · have hF := ift k1_8 hF
    refine lv_tableIn (tgt := 92) hx hb dX0_number_1 (by rw [k1_8]; decide) (by rw [k1_8]; decide) (by rw [k1_8]; rfl) (by decide) ?_
    refine lv_aload_n hx hb dX0_number_92 rfl (lv_at hl 0 rfl) ?_
    refine va_get (D := D) (ci := 2) (C := RX0) (T := TX0) (N := 16) hx hb hts inX0 hown hK hP (18*w+(6+2*i)) (c_b hw hi) rfl 3 (by decide) (hts (.fieldLink RX0 31 "TileRunners$Body" "height" "I") (List.mem_of_getElem? (i := 9) rfl)) (fun _ h9 => h9) rfl dX0_number_93 ?_
    exact W.iret (v := (u (336+24*i+8))) hx hb hr (fun t ht hW => ⟨⟨(u (336+24*i+8)), (), rfl, hF.trans hFF, ho_of ht hP⟩, hS.F ht⟩) hS.2.2 dX0_number_96
  have hF := iff_ k1_8 hF
  have hto1 : ∀ k : Int, 0 ≤ k → k ≤ 8 → ¬ a.toInt = k := by
    intro k h1 h2 h3
    have h4 : k = 0 ∨ k = 1 ∨ k = 2 ∨ k = 3 ∨ k = 4 ∨ k = 5 ∨ k = 6 ∨ k = 7 ∨ k = 8 := by omega
    rcases h4 with rfl | rfl | rfl | rfl | rfl | rfl | rfl | rfl | rfl
    · exact k1_0 ((Int32.toInt_inj (y := 0)).mp h3)
    · exact k1_1 ((Int32.toInt_inj (y := 1)).mp h3)
    · exact k1_2 ((Int32.toInt_inj (y := 2)).mp h3)
    · exact k1_3 ((Int32.toInt_inj (y := 3)).mp h3)
    · exact k1_4 ((Int32.toInt_inj (y := 4)).mp h3)
    · exact k1_5 ((Int32.toInt_inj (y := 5)).mp h3)
    · exact k1_6 ((Int32.toInt_inj (y := 6)).mp h3)
    · exact k1_7 ((Int32.toInt_inj (y := 7)).mp h3)
    · exact k1_8 ((Int32.toInt_inj (y := 8)).mp h3)
  refine lv_tableOut (tgt := 97) hx hb dX0_number_1 (tab_out 0 8 hto1) (by decide) ?_
  refine lv_aload_n hx hb dX0_number_97 rfl (lv_at hl 0 rfl) ?_
  refine va_get (D := D) (ci := 2) (C := RX0) (T := TX0) (N := 16) hx hb hts inX0 hown hK hP (18*w+(6+2*i)) (c_b hw hi) rfl 11 (by decide) (hts (.fieldLink RX0 34 "TileRunners$Body" "input" "I") (List.mem_of_getElem? (i := 10) rfl)) (fun _ h9 => h9) rfl dX0_number_98 ?_
  exact W.iret (v := (u (336+24*i+9))) hx hb hr (fun t ht hW => ⟨⟨(u (336+24*i+9)), (), rfl, hF.trans hFF, ho_of ht hP⟩, hS.F ht⟩) hS.2.2 dX0_number_101
theorem hd_X0_numberV : yX0_number.cls = RX0 ∧ yX0_number.cls ≠ "java/lang/invoke/MethodHandle" ∧ yX0_number.cls ≠ "java/lang/invoke/VarHandle" ∧ (parseMethodDescriptor yX0_number.desc).map (fun d => d.parameters.length) = some 1 := by decide +kernel
set_option maxHeartbeats 4000000 in
set_option maxRecDepth 100000 in
theorem c0_covers (l : Launch) {D : va_G} {G : CY} {ad : Nat → Nat} {B0 : Nat} (hA : adOK B0 ad) (σ : Nat → Nat → Int32) (u : Nat → Int32) (w : Nat) (hw : w < 15) (i : Nat) (hi : i < 4) (a : Int32) (b : Int32) : Met l yX0_covers wsX0_covers { frames := 1, cells := 0, slots := 0, locals := 22 } (va_Pc [.ref (ad (18*w+(6+2*i))), .int a, .int b] (Hp D G ad (va_up σ w u))) (va_Qi (fun (r : Int32) (_ : Unit) => r = f0_covers u i a b ∧ bl r) (fun (_ : Unit) => Ho D G ad (va_up σ w u)) (AA B0)) 0 0 (AA B0) := by
  refine Met.ofW (cc := cX0_covers) (maxL := 3) (ret := (some .boolean)) (by decide) rfl ?_
  intro p e s m args below meth c s₁ B hml hv
  obtain ⟨rfl, hP, hK, hN⟩ := hv
  have hx := B.exec
  have hb := B.bytes
  have hr := B.returns
  have hts := atoms_spec (ws := wsX0_covers) B.pre
  have hown : s.vm.findClass RX0 = some m.cls := findClass_of_methodNamed B.named
  have hlocks := B.notSynchronized
  have inX0 : ∀ w ∈ wsX00, w ∈ wsX0_covers := (fun w h => List.mem_cons_of_mem _ (List.mem_append_right _ h))
  have hP : va_P D vwCl (pool G ad (va_up σ w u)) s.heap := hP
  have hS : va_S (AA B0) s.heap s.heap [] := va_S.rf
  have hl := lv_entry ([.ref (ad (18*w+(6+2*i))), .int a, .int b]) (n := 3) (Nat.le_of_ble_eq_true rfl)
  rw [lg_entry_eq]
  generalize (lg_sl ([.ref (ad (18*w+(6+2*i))), .int a, .int b]) ++ List.replicate (3 - (lg_sl ([.ref (ad (18*w+(6+2*i))), .int a, .int b])).length) Slot.unset).toArray = ls at hl ⊢
  have hl : lv_has ls 3 [(0, .ref (ad (18*w+(6+2*i)))), (1, .int a), (2, .int b)] := hl
  obtain ⟨FF, hFF⟩ : ∃ z, z = f0_covers u i a b := ⟨_, rfl⟩
  have hF := hFF.symm
  rw [f0_covers] at hF
  refine lv_iload_n hx hb dX0_covers_0 rfl (lv_at hl 1 rfl) ?_
  refine lv_aload_n hx hb dX0_covers_1 rfl (lv_at hl 0 rfl) ?_
  refine va_get (D := D) (ci := 2) (C := RX0) (T := TX0) (N := 16) hx hb hts inX0 hown hK hP (18*w+(6+2*i)) (c_b hw hi) rfl 0 (by decide) (hts (.fieldLink RX0 15 "TileRunners$Body" "x" "I") (List.mem_of_getElem? (i := 1) rfl)) (fun _ h9 => h9) rfl dX0_covers_2 ?_
  refine lv_aload_n hx hb dX0_covers_5 rfl (lv_at hl 0 rfl) ?_
  refine va_get (D := D) (ci := 2) (C := RX0) (T := TX0) (N := 16) hx hb hts inX0 hown hK hP (18*w+(6+2*i)) (c_b hw hi) rfl 0 (by decide) (hts (.fieldLink RX0 15 "TileRunners$Body" "x" "I") (List.mem_of_getElem? (i := 1) rfl)) (fun _ h9 => h9) rfl dX0_covers_6 ?_
  refine lv_aload_n hx hb dX0_covers_9 rfl (lv_at hl 0 rfl) ?_
  refine va_get (D := D) (ci := 2) (C := RX0) (T := TX0) (N := 16) hx hb hts inX0 hown hK hP (18*w+(6+2*i)) (c_b hw hi) rfl 2 (by decide) (hts (.fieldLink RX0 28 "TileRunners$Body" "width" "I") (List.mem_of_getElem? (i := 2) rfl)) (fun _ h9 => h9) rfl dX0_covers_10 ?_
  refine lv_iadd hx hb dX0_covers_13 ?_
  refine lv_iconst (v := 1) hx hb dX0_covers_14 (by decide) ?_
  refine lv_isub hx hb dX0_covers_15 ?_
  refine va_calli (va_runSN (As := [.int a, .int (u (336+24*i+0)), .int (((u (336+24*i+0)) + (u (336+24*i+7))) - 1)]) (rest := []) ⟨hx, hb, hml, hown, hts⟩ (c6_isWithin l hA (va_up σ w u) a (u (336+24*i+0)) (((u (336+24*i+0)) + (u (336+24*i+7))) - 1) ) ⟨va_cnB 3 hts gX0_covers_X6_isWithin_n71 rfl rfl rfl hN.2.2.2.1 (hts _ (List.mem_of_getElem? (i := 6) rfl)) hd_X6_isWithinS ⟨Nat.le_of_ble_eq_true rfl, Nat.le_of_ble_eq_true rfl⟩, hts _ (List.mem_of_getElem? (i := 5) rfl), trivial⟩ ⟨hp_blind, hp_pre hK hN hP⟩ rfl rfl hl.1 rfl (lv_room (Nat.le_of_ble_eq_true rfl)) dX0_covers_16 ⟨Nat.zero_le _, Nat.zero_le _⟩) hS (fun _ _ h => h) (fun _ h => h) (fun r16 _ t H locs ht hvm hw9 hB hz1 hk1 hS => ?_)
  have hP := ho_at ht hB
  obtain ⟨eq16, hb_r16⟩ := hw9
  have hF := bnd_s eq16 hF
  refine lv_if_eq (tgt := 48) hx hb dX0_covers_19 (by decide) (fun c19 => ?_) (fun c19 => ?_)
  · have hF := ift c19 hF
    refine lv_iconst (v := 0) hx hb dX0_covers_48 (by decide) ?_
    exact W.zret (v := 0) hx hb hr (bl_nar bl0) (fun t ht hW => ⟨⟨0, (), rfl, ⟨hF.trans hFF, bl0⟩, ho_of ht hP⟩, hS.F ht⟩) hS.2.2 dX0_covers_49
  · have hF := iff_ c19 hF
    refine lv_iload_n hx hb dX0_covers_22 rfl (lv_at hl 2 rfl) ?_
    refine lv_aload_n hx hb dX0_covers_23 rfl (lv_at hl 0 rfl) ?_
    refine va_get (D := D) (ci := 2) (C := RX0) (T := TX0) (N := 16) hx hb hts inX0 hown hK hP (18*w+(6+2*i)) (c_b hw hi) rfl 1 (by decide) (hts (.fieldLink RX0 19 "TileRunners$Body" "y" "I") (List.mem_of_getElem? (i := 3) rfl)) (fun _ h9 => h9) rfl dX0_covers_24 ?_
    refine lv_aload_n hx hb dX0_covers_27 rfl (lv_at hl 0 rfl) ?_
    refine va_get (D := D) (ci := 2) (C := RX0) (T := TX0) (N := 16) hx hb hts inX0 hown hK hP (18*w+(6+2*i)) (c_b hw hi) rfl 1 (by decide) (hts (.fieldLink RX0 19 "TileRunners$Body" "y" "I") (List.mem_of_getElem? (i := 3) rfl)) (fun _ h9 => h9) rfl dX0_covers_28 ?_
    refine lv_aload_n hx hb dX0_covers_31 rfl (lv_at hl 0 rfl) ?_
    refine va_get (D := D) (ci := 2) (C := RX0) (T := TX0) (N := 16) hx hb hts inX0 hown hK hP (18*w+(6+2*i)) (c_b hw hi) rfl 3 (by decide) (hts (.fieldLink RX0 31 "TileRunners$Body" "height" "I") (List.mem_of_getElem? (i := 4) rfl)) (fun _ h9 => h9) rfl dX0_covers_32 ?_
    refine lv_iadd hx hb dX0_covers_35 ?_
    refine lv_iconst (v := 1) hx hb dX0_covers_36 (by decide) ?_
    refine lv_isub hx hb dX0_covers_37 ?_
    refine va_calli (va_runSN (As := [.int b, .int (u (336+24*i+1)), .int (((u (336+24*i+1)) + (u (336+24*i+8))) - 1)]) (rest := []) ⟨hx, hb, hml, hown, hts⟩ (c6_isWithin l hA (va_up σ w u) b (u (336+24*i+1)) (((u (336+24*i+1)) + (u (336+24*i+8))) - 1) ) ⟨va_cnB 3 hts gX0_covers_X6_isWithin_n71 rfl rfl rfl hN.2.2.2.1 (hts _ (List.mem_of_getElem? (i := 6) rfl)) hd_X6_isWithinS ⟨Nat.le_of_ble_eq_true rfl, Nat.le_of_ble_eq_true rfl⟩, hts _ (List.mem_of_getElem? (i := 5) rfl), trivial⟩ ⟨hp_blind, hp_pre hK hN hP⟩ rfl rfl hl.1 rfl (lv_room (Nat.le_of_ble_eq_true rfl)) dX0_covers_38 ⟨Nat.zero_le _, Nat.zero_le _⟩) hS (fun _ _ h => h) (fun _ h => h) (fun r38 _ t H locs ht hvm hw9 hB hz1 hk1 hS => ?_)
    have hP := ho_at ht hB
    obtain ⟨eq38, hb_r38⟩ := hw9
    have hF := bnd_s eq38 hF
    refine lv_if_eq (tgt := 48) hx hb dX0_covers_41 (by decide) (fun c41 => ?_) (fun c41 => ?_)
    · have hF := ift c41 hF
      refine lv_iconst (v := 0) hx hb dX0_covers_48 (by decide) ?_
      exact W.zret (v := 0) hx hb hr (bl_nar bl0) (fun t ht hW => ⟨⟨0, (), rfl, ⟨hF.trans hFF, bl0⟩, ho_of ht hP⟩, hS.F ht⟩) hS.2.2 dX0_covers_49
    · have hF := iff_ c41 hF
      refine lv_iconst (v := 1) hx hb dX0_covers_44 (by decide) ?_
      refine lv_goto (tgt := 49) hx hb dX0_covers_45 (by decide) ?_
      exact W.zret (v := 1) hx hb hr (bl_nar bl1) (fun t ht hW => ⟨⟨1, (), rfl, ⟨hF.trans hFF, bl1⟩, ho_of ht hP⟩, hS.F ht⟩) hS.2.2 dX0_covers_49
theorem hd_X0_coversV : yX0_covers.cls = RX0 ∧ yX0_covers.cls ≠ "java/lang/invoke/MethodHandle" ∧ yX0_covers.cls ≠ "java/lang/invoke/VarHandle" ∧ (parseMethodDescriptor yX0_covers.desc).map (fun d => d.parameters.length) = some 2 := by decide +kernel
set_option maxHeartbeats 4000000 in
set_option maxRecDepth 100000 in
theorem c0_holds (l : Launch) {D : va_G} {G : CY} {ad : Nat → Nat} {B0 : Nat} (hA : adOK B0 ad) (σ : Nat → Nat → Int32) (u : Nat → Int32) (w : Nat) (hw : w < 15) (i : Nat) (hi : i < 4) (a : Int32) : Met l yX0_holds wsX0_holds { frames := 0, cells := 0, slots := 0, locals := 0 } (va_Pc [.ref (ad (18*w+(6+2*i))), .int a] (Hp D G ad (va_up σ w u))) (va_Qi (fun (r : Int32) (_ : Unit) => r = f0_holds u i a ∧ bl r) (fun (_ : Unit) => Ho D G ad (va_up σ w u)) (AA B0)) 0 0 (AA B0) := by
  refine Met.ofW (cc := cX0_holds) (maxL := 2) (ret := (some .boolean)) (by decide) rfl ?_
  intro p e s m args below meth c s₁ B hml hv
  obtain ⟨rfl, hP, hK, hN⟩ := hv
  have hx := B.exec
  have hb := B.bytes
  have hr := B.returns
  have hts := atoms_spec (ws := wsX0_holds) B.pre
  have hown : s.vm.findClass RX0 = some m.cls := findClass_of_methodNamed B.named
  have hlocks := B.notSynchronized
  have inX0 : ∀ w ∈ wsX00, w ∈ wsX0_holds := (fun w h => List.mem_cons_of_mem _ (List.mem_append_right _ h))
  have hP : va_P D vwCl (pool G ad (va_up σ w u)) s.heap := hP
  have hS : va_S (AA B0) s.heap s.heap [] := va_S.rf
  have hl := lv_entry ([.ref (ad (18*w+(6+2*i))), .int a]) (n := 2) (Nat.le_of_ble_eq_true rfl)
  rw [lg_entry_eq]
  generalize (lg_sl ([.ref (ad (18*w+(6+2*i))), .int a]) ++ List.replicate (2 - (lg_sl ([.ref (ad (18*w+(6+2*i))), .int a])).length) Slot.unset).toArray = ls at hl ⊢
  have hl : lv_has ls 2 [(0, .ref (ad (18*w+(6+2*i)))), (1, .int a)] := hl
  obtain ⟨FF, hFF⟩ : ∃ z, z = f0_holds u i a := ⟨_, rfl⟩
  have hF := hFF.symm
  rw [f0_holds] at hF
  refine lv_aload_n hx hb dX0_holds_0 rfl (lv_at hl 0 rfl) ?_
  refine va_get (D := D) (ci := 2) (C := RX0) (T := TX0) (N := 16) hx hb hts inX0 hown hK hP (18*w+(6+2*i)) (c_b hw hi) rfl 11 (by decide) (hts (.fieldLink RX0 34 "TileRunners$Body" "input" "I") (List.mem_of_getElem? (i := 1) rfl)) (fun _ h9 => h9) rfl dX0_holds_1 ?_
  refine lv_iload_n hx hb dX0_holds_4 rfl (lv_at hl 1 rfl) ?_
  refine lv_iand hx hb dX0_holds_5 ?_
  refine lv_if_eq (tgt := 13) hx hb dX0_holds_6 (by decide) (fun c6 => ?_) (fun c6 => ?_)
  · have hF := ift c6 hF
    refine lv_iconst (v := 0) hx hb dX0_holds_13 (by decide) ?_
    exact W.zret (v := 0) hx hb hr (bl_nar bl0) (fun t ht hW => ⟨⟨0, (), rfl, ⟨hF.trans hFF, bl0⟩, ho_of ht hP⟩, hS.F ht⟩) hS.2.2 dX0_holds_14
  · have hF := iff_ c6 hF
    refine lv_iconst (v := 1) hx hb dX0_holds_9 (by decide) ?_
    refine lv_goto (tgt := 14) hx hb dX0_holds_10 (by decide) ?_
    exact W.zret (v := 1) hx hb hr (bl_nar bl1) (fun t ht hW => ⟨⟨1, (), rfl, ⟨hF.trans hFF, bl1⟩, ho_of ht hP⟩, hS.F ht⟩) hS.2.2 dX0_holds_14
theorem hd_X0_holdsV : yX0_holds.cls = RX0 ∧ yX0_holds.cls ≠ "java/lang/invoke/MethodHandle" ∧ yX0_holds.cls ≠ "java/lang/invoke/VarHandle" ∧ (parseMethodDescriptor yX0_holds.desc).map (fun d => d.parameters.length) = some 1 := by decide +kernel
set_option maxHeartbeats 4000000 in
set_option maxRecDepth 100000 in
theorem c0_direction (l : Launch) {D : va_G} {G : CY} {ad : Nat → Nat} {B0 : Nat} (hA : adOK B0 ad) (σ : Nat → Nat → Int32) (u : Nat → Int32) (w : Nat) (hw : w < 15) (i : Nat) (hi : i < 4) : Met l yX0_direction wsX0_direction { frames := 1, cells := 0, slots := 0, locals := 21 } (va_Pc [.ref (ad (18*w+(6+2*i)))] (Hp D G ad (va_up σ w u))) (va_Qi (fun (r : Int32) (_ : Unit) => r = f0_direction u i) (fun (_ : Unit) => Ho D G ad (va_up σ w u)) (AA B0)) 0 0 (AA B0) := by
  refine Met.ofW (cc := cX0_direction) (maxL := 1) (ret := (some .int)) (by decide) rfl ?_
  intro p e s m args below meth c s₁ B hml hv
  obtain ⟨rfl, hP, hK, hN⟩ := hv
  have hx := B.exec
  have hb := B.bytes
  have hr := B.returns
  have hts := atoms_spec (ws := wsX0_direction) B.pre
  have hown : s.vm.findClass RX0 = some m.cls := findClass_of_methodNamed B.named
  have hlocks := B.notSynchronized
  have hP : va_P D vwCl (pool G ad (va_up σ w u)) s.heap := hP
  have hS : va_S (AA B0) s.heap s.heap [] := va_S.rf
  have hl := lv_entry ([.ref (ad (18*w+(6+2*i)))]) (n := 1) (Nat.le_of_ble_eq_true rfl)
  rw [lg_entry_eq]
  generalize (lg_sl ([.ref (ad (18*w+(6+2*i)))]) ++ List.replicate (1 - (lg_sl ([.ref (ad (18*w+(6+2*i)))])).length) Slot.unset).toArray = ls at hl ⊢
  have hl : lv_has ls 1 [(0, .ref (ad (18*w+(6+2*i))))] := hl
  obtain ⟨FF, hFF⟩ : ∃ z, z = f0_direction u i := ⟨_, rfl⟩
  have hF := hFF.symm
  rw [f0_direction] at hF
  refine lv_aload_n hx hb dX0_direction_0 rfl (lv_at hl 0 rfl) ?_
  refine lv_iconst (v := 2) hx hb dX0_direction_1 (by decide) ?_
  refine va_calli (va_runV (As := [.int 2]) (rest := []) ⟨hx, hb, hml, hown, hts⟩ (c0_holds l hA σ u w hw i hi 2 ) (cwV 1 hts gX0_direction_X0_holds rfl rfl rfl hd_X0_holdsV ⟨Nat.le_of_ble_eq_true rfl, Nat.le_of_ble_eq_true rfl⟩) ⟨hp_blind, va_recv hK hP (ci := 2) (q0 := 18*w+(6+2*i)) rfl (c_b hw hi), hp_pre hK hN hP⟩ rfl rfl hl.1 rfl (lv_room (Nat.le_of_ble_eq_true rfl)) dX0_direction_2 ⟨Nat.zero_le _, Nat.zero_le _⟩) hS (fun _ _ h => h) (fun _ h => h) (fun r2 _ t H locs ht hvm hw9 hB hz1 hk1 hS => ?_)
  have hP := ho_at ht hB
  obtain ⟨eq2, hb_r2⟩ := hw9
  have hF := bnd_s eq2 hF
  have J13 : ∀ (t0_13 : Int32) (H : Heap) (locs : List Loc) (ls : Array Slot), bl t0_13 → va_P D vwCl (pool G ad (va_up σ w u)) H → va_S (AA B0) s.heap H locs → lv_has ls 1 [(0, .ref (ad (18*w+(6+2*i))))] → f0_direction_b13 u i t0_13 = FF → W p l e (headSpec wsX0_direction { frames := 1, cells := 0, slots := 0, locals := 21 }).room s m ([.ref (ad (18*w+(6+2*i)))] : List Value).toArray below meth c H locs 0 0 (MQ below (va_Qi (fun (r : Int32) (_ : Unit) => r = f0_direction u i) (fun (_ : Unit) => Ho D G ad (va_up σ w u)) (AA B0)) ([.ref (ad (18*w+(6+2*i)))] : List Value).toArray s 0 0 (AA B0)) (F0 m 13 ls [.int t0_13]) := by
    intro t0_13 H locs ls hb_t0_13 hP hS hl hF
    rw [f0_direction_b13] at hF
    refine lv_aload_n hx hb dX0_direction_13 rfl (lv_at hl 0 rfl) ?_
    refine lv_iconst (v := 1) hx hb dX0_direction_14 (by decide) ?_
    refine va_calli (va_runV (As := [.int 1]) (rest := [.int t0_13]) ⟨hx, hb, hml, hown, hts⟩ (c0_holds l hA σ u w hw i hi 1 ) (cwV 1 hts gX0_direction_X0_holds rfl rfl rfl hd_X0_holdsV ⟨Nat.le_of_ble_eq_true rfl, Nat.le_of_ble_eq_true rfl⟩) ⟨hp_blind, va_recv hK hP (ci := 2) (q0 := 18*w+(6+2*i)) rfl (c_b hw hi), hp_pre hK hN hP⟩ rfl rfl hl.1 rfl (lv_room (Nat.le_of_ble_eq_true rfl)) dX0_direction_15 ⟨Nat.zero_le _, Nat.zero_le _⟩) hS (fun _ _ h => h) (fun _ h => h) (fun r15 _ t H locs ht hvm hw9 hB hz1 hk1 hS => ?_)
    have hP := ho_at ht hB
    obtain ⟨eq15, hb_r15⟩ := hw9
    have hF := bnd_s eq15 hF
    refine lv_if_eq (tgt := 25) hx hb dX0_direction_18 (by decide) (fun c18 => ?_) (fun c18 => ?_)
    · have hF := ift c18 hF
      refine lv_iconst (v := 0) hx hb dX0_direction_25 (by decide) ?_
      refine lv_isub hx hb dX0_direction_26 ?_
      exact W.iret (v := (t0_13 - 0)) hx hb hr (fun t ht hW => ⟨⟨(t0_13 - 0), (), rfl, hF.trans hFF, ho_of ht hP⟩, hS.F ht⟩) hS.2.2 dX0_direction_27
    · have hF := iff_ c18 hF
      refine lv_iconst (v := 1) hx hb dX0_direction_21 (by decide) ?_
      refine lv_goto (tgt := 26) hx hb dX0_direction_22 (by decide) ?_
      refine lv_isub hx hb dX0_direction_26 ?_
      exact W.iret (v := (t0_13 - 1)) hx hb hr (fun t ht hW => ⟨⟨(t0_13 - 1), (), rfl, hF.trans hFF, ho_of ht hP⟩, hS.F ht⟩) hS.2.2 dX0_direction_27
  refine lv_if_eq (tgt := 12) hx hb dX0_direction_5 (by decide) (fun c5 => ?_) (fun c5 => ?_)
  · have hF := ift c5 hF
    refine lv_iconst (v := 0) hx hb dX0_direction_12 (by decide) ?_
    exact J13 0 _ _ ls bl0 hP hS (lv_sub hl [0] rfl) hF
  · have hF := iff_ c5 hF
    refine lv_iconst (v := 1) hx hb dX0_direction_8 (by decide) ?_
    refine lv_goto (tgt := 13) hx hb dX0_direction_9 (by decide) ?_
    exact J13 1 _ _ ls bl1 hP hS (lv_sub hl [0] rfl) hF
theorem hd_X0_directionV : yX0_direction.cls = RX0 ∧ yX0_direction.cls ≠ "java/lang/invoke/MethodHandle" ∧ yX0_direction.cls ≠ "java/lang/invoke/VarHandle" ∧ (parseMethodDescriptor yX0_direction.desc).map (fun d => d.parameters.length) = some 0 := by decide +kernel
set_option maxHeartbeats 4000000 in
set_option maxRecDepth 100000 in
theorem c0_lastColumnAt (l : Launch) {D : va_G} {G : CY} {ad : Nat → Nat} {B0 : Nat} (hA : adOK B0 ad) (σ : Nat → Nat → Int32) (u : Nat → Int32) (w : Nat) (hw : w < 15) (i : Nat) (hi : i < 4) (a : Int32) : Met l yX0_lastColumnAt wsX0_lastColumnAt { frames := 0, cells := 0, slots := 0, locals := 0 } (va_Pc [.ref (ad (18*w+(6+2*i))), .int a] (Hp D G ad (va_up σ w u))) (va_Qi (fun (r : Int32) (_ : Unit) => r = f0_lastColumnAt u i a ∧ r.toInt < 2147483647) (fun (_ : Unit) => Ho D G ad (va_up σ w u)) (AA B0)) 0 0 (AA B0) := by
  refine Met.ofW (cc := cX0_lastColumnAt) (maxL := 2) (ret := (some .int)) (by decide) rfl ?_
  intro p e s m args below meth c s₁ B hml hv
  obtain ⟨rfl, hP, hK, hN⟩ := hv
  have hx := B.exec
  have hb := B.bytes
  have hr := B.returns
  have hts := atoms_spec (ws := wsX0_lastColumnAt) B.pre
  have hown : s.vm.findClass RX0 = some m.cls := findClass_of_methodNamed B.named
  have hlocks := B.notSynchronized
  have inX0 : ∀ w ∈ wsX00, w ∈ wsX0_lastColumnAt := (fun w h => List.mem_cons_of_mem _ (List.mem_append_right _ h))
  have hP : va_P D vwCl (pool G ad (va_up σ w u)) s.heap := hP
  have hS : va_S (AA B0) s.heap s.heap [] := va_S.rf
  have hl := lv_entry ([.ref (ad (18*w+(6+2*i))), .int a]) (n := 2) (Nat.le_of_ble_eq_true rfl)
  rw [lg_entry_eq]
  generalize (lg_sl ([.ref (ad (18*w+(6+2*i))), .int a]) ++ List.replicate (2 - (lg_sl ([.ref (ad (18*w+(6+2*i))), .int a])).length) Slot.unset).toArray = ls at hl ⊢
  have hl : lv_has ls 2 [(0, .ref (ad (18*w+(6+2*i)))), (1, .int a)] := hl
  obtain ⟨FF, hFF⟩ : ∃ z, z = f0_lastColumnAt u i a := ⟨_, rfl⟩
  have hF := hFF.symm
  rw [f0_lastColumnAt] at hF
  refine lv_iload_n hx hb dX0_lastColumnAt_0 rfl (lv_at hl 1 rfl) ?_
  refine lv_aload_n hx hb dX0_lastColumnAt_1 rfl (lv_at hl 0 rfl) ?_
  refine va_get (D := D) (ci := 2) (C := RX0) (T := TX0) (N := 16) hx hb hts inX0 hown hK hP (18*w+(6+2*i)) (c_b hw hi) rfl 2 (by decide) (hts (.fieldLink RX0 28 "TileRunners$Body" "width" "I") (List.mem_of_getElem? (i := 1) rfl)) (fun _ h9 => h9) rfl dX0_lastColumnAt_2 ?_
  refine lv_iadd hx hb dX0_lastColumnAt_5 ?_
  refine lv_iconst (v := 1) hx hb dX0_lastColumnAt_6 (by decide) ?_
  refine lv_isub hx hb dX0_lastColumnAt_7 ?_
  refine lv_iconst (v := 4) hx hb dX0_lastColumnAt_8 (by decide) ?_
  refine lv_ishr hx hb dX0_lastColumnAt_9 ?_
  exact W.iret (v := (((a + (u (336+24*i+7))) - 1) >>> (4 &&& 31))) hx hb hr (fun t ht hW => ⟨⟨(((a + (u (336+24*i+7))) - 1) >>> (4 &&& 31)), (), rfl, ⟨hF.trans hFF, (shr4_le _)⟩, ho_of ht hP⟩, hS.F ht⟩) hS.2.2 dX0_lastColumnAt_10
theorem hd_X0_lastColumnAtV : yX0_lastColumnAt.cls = RX0 ∧ yX0_lastColumnAt.cls ≠ "java/lang/invoke/MethodHandle" ∧ yX0_lastColumnAt.cls ≠ "java/lang/invoke/VarHandle" ∧ (parseMethodDescriptor yX0_lastColumnAt.desc).map (fun d => d.parameters.length) = some 1 := by decide +kernel
set_option maxHeartbeats 4000000 in
set_option maxRecDepth 100000 in
theorem c0_lastRowAt (l : Launch) {D : va_G} {G : CY} {ad : Nat → Nat} {B0 : Nat} (hA : adOK B0 ad) (σ : Nat → Nat → Int32) (u : Nat → Int32) (w : Nat) (hw : w < 15) (i : Nat) (hi : i < 4) (a : Int32) : Met l yX0_lastRowAt wsX0_lastRowAt { frames := 0, cells := 0, slots := 0, locals := 0 } (va_Pc [.ref (ad (18*w+(6+2*i))), .int a] (Hp D G ad (va_up σ w u))) (va_Qi (fun (r : Int32) (_ : Unit) => r = f0_lastRowAt u i a ∧ r.toInt < 2147483647) (fun (_ : Unit) => Ho D G ad (va_up σ w u)) (AA B0)) 0 0 (AA B0) := by
  refine Met.ofW (cc := cX0_lastRowAt) (maxL := 2) (ret := (some .int)) (by decide) rfl ?_
  intro p e s m args below meth c s₁ B hml hv
  obtain ⟨rfl, hP, hK, hN⟩ := hv
  have hx := B.exec
  have hb := B.bytes
  have hr := B.returns
  have hts := atoms_spec (ws := wsX0_lastRowAt) B.pre
  have hown : s.vm.findClass RX0 = some m.cls := findClass_of_methodNamed B.named
  have hlocks := B.notSynchronized
  have inX0 : ∀ w ∈ wsX00, w ∈ wsX0_lastRowAt := (fun w h => List.mem_cons_of_mem _ (List.mem_append_right _ h))
  have hP : va_P D vwCl (pool G ad (va_up σ w u)) s.heap := hP
  have hS : va_S (AA B0) s.heap s.heap [] := va_S.rf
  have hl := lv_entry ([.ref (ad (18*w+(6+2*i))), .int a]) (n := 2) (Nat.le_of_ble_eq_true rfl)
  rw [lg_entry_eq]
  generalize (lg_sl ([.ref (ad (18*w+(6+2*i))), .int a]) ++ List.replicate (2 - (lg_sl ([.ref (ad (18*w+(6+2*i))), .int a])).length) Slot.unset).toArray = ls at hl ⊢
  have hl : lv_has ls 2 [(0, .ref (ad (18*w+(6+2*i)))), (1, .int a)] := hl
  obtain ⟨FF, hFF⟩ : ∃ z, z = f0_lastRowAt u i a := ⟨_, rfl⟩
  have hF := hFF.symm
  rw [f0_lastRowAt] at hF
  refine lv_iload_n hx hb dX0_lastRowAt_0 rfl (lv_at hl 1 rfl) ?_
  refine lv_aload_n hx hb dX0_lastRowAt_1 rfl (lv_at hl 0 rfl) ?_
  refine va_get (D := D) (ci := 2) (C := RX0) (T := TX0) (N := 16) hx hb hts inX0 hown hK hP (18*w+(6+2*i)) (c_b hw hi) rfl 3 (by decide) (hts (.fieldLink RX0 31 "TileRunners$Body" "height" "I") (List.mem_of_getElem? (i := 1) rfl)) (fun _ h9 => h9) rfl dX0_lastRowAt_2 ?_
  refine lv_iadd hx hb dX0_lastRowAt_5 ?_
  refine lv_iconst (v := 1) hx hb dX0_lastRowAt_6 (by decide) ?_
  refine lv_isub hx hb dX0_lastRowAt_7 ?_
  refine lv_iconst (v := 4) hx hb dX0_lastRowAt_8 (by decide) ?_
  refine lv_ishr hx hb dX0_lastRowAt_9 ?_
  exact W.iret (v := (((a + (u (336+24*i+8))) - 1) >>> (4 &&& 31))) hx hb hr (fun t ht hW => ⟨⟨(((a + (u (336+24*i+8))) - 1) >>> (4 &&& 31)), (), rfl, ⟨hF.trans hFF, (shr4_le _)⟩, ho_of ht hP⟩, hS.F ht⟩) hS.2.2 dX0_lastRowAt_10
theorem hd_X0_lastRowAtV : yX0_lastRowAt.cls = RX0 ∧ yX0_lastRowAt.cls ≠ "java/lang/invoke/MethodHandle" ∧ yX0_lastRowAt.cls ≠ "java/lang/invoke/VarHandle" ∧ (parseMethodDescriptor yX0_lastRowAt.desc).map (fun d => d.parameters.length) = some 1 := by decide +kernel
set_option maxHeartbeats 4000000 in
set_option maxRecDepth 100000 in
theorem c0_calmDown (l : Launch) {D : va_G} {G : CY} {ad : Nat → Nat} {B0 : Nat} (hA : adOK B0 ad) (σ : Nat → Nat → Int32) (u : Nat → Int32) (w : Nat) (hw : w < 15) (i : Nat) (hi : i < 4) (hO : okW u) : Met l yX0_calmDown wsX0_calmDown { frames := 0, cells := 0, slots := 0, locals := 0 } (va_Pc [.ref (ad (18*w+(6+2*i)))] (Hp D G ad (va_up σ w u))) (va_Qv (fun (z : Nat → Int32) => z = f0_calmDown u i ∧ okW z) (fun (z : Nat → Int32) => Ho D G ad (va_up σ w z)) (AA B0)) 0 0 (AA B0) := by
  refine Met.ofW (cc := cX0_calmDown) (maxL := 1) (ret := none) (by decide) rfl ?_
  intro p e s m args below meth c s₁ B hml hv
  obtain ⟨rfl, hP, hK, hN⟩ := hv
  have hx := B.exec
  have hb := B.bytes
  have hr := B.returns
  have hts := atoms_spec (ws := wsX0_calmDown) B.pre
  have hown : s.vm.findClass RX0 = some m.cls := findClass_of_methodNamed B.named
  have hlocks := B.notSynchronized
  have inX0 : ∀ w ∈ wsX00, w ∈ wsX0_calmDown := (fun w h => List.mem_cons_of_mem _ (List.mem_append_right _ h))
  have hP : va_P D vwCl (pool G ad (va_up σ w u)) s.heap := hP
  have hS : va_S (AA B0) s.heap s.heap [] := va_S.rf
  have hl := lv_entry ([.ref (ad (18*w+(6+2*i)))]) (n := 1) (Nat.le_of_ble_eq_true rfl)
  rw [lg_entry_eq]
  generalize (lg_sl ([.ref (ad (18*w+(6+2*i)))]) ++ List.replicate (1 - (lg_sl ([.ref (ad (18*w+(6+2*i)))])).length) Slot.unset).toArray = ls at hl ⊢
  have hl : lv_has ls 1 [(0, .ref (ad (18*w+(6+2*i))))] := hl
  obtain ⟨FF, hFF⟩ : ∃ z, z = f0_calmDown u i := ⟨_, rfl⟩
  have hF := hFF.symm
  rw [f0_calmDown] at hF
  refine lv_aload_n hx hb dX0_calmDown_0 rfl (lv_at hl 0 rfl) ?_
  refine lv_iconst (v := 0) hx hb dX0_calmDown_1 (by decide) ?_
  refine pput hx hb hts inX0 tyX0 tyX0_ok nmX0 hown hK hP hA hS hw (j := 6+2*i) (by omega) (wcel_b hi) rfl 6 (by decide) (hts (.fieldLink RX0 46 "TileRunners$Body" "horizontal" "I") (List.mem_of_getElem? (i := 1) rfl)) (fun _ h9 => h9) rfl (tyX0_ok 6 (by decide)) rfl rfl (Nat.le_of_ble_eq_true rfl) (336+24*i+2) (own_b hi (by decide) (by decide)) (setB_6 hi) dX0_calmDown_2 (fun u9 H locs eu9 hP hS => ?_)
  obtain ⟨u2, e_u2⟩ : ∃ z, z = u9 := ⟨_, rfl⟩
  rw [← e_u2] at hP eu9
  have hF := bnd_s eu9 hF
  have hO := okW_up eu9 hO (by omega) (by omega)
  refine lv_aload_n hx hb dX0_calmDown_5 rfl (lv_at hl 0 rfl) ?_
  refine lv_iconst (v := 0) hx hb dX0_calmDown_6 (by decide) ?_
  refine pput hx hb hts inX0 tyX0 tyX0_ok nmX0 hown hK hP hA hS hw (j := 6+2*i) (by omega) (wcel_b hi) rfl 7 (by decide) (hts (.fieldLink RX0 49 "TileRunners$Body" "vertical" "I") (List.mem_of_getElem? (i := 2) rfl)) (fun _ h9 => h9) rfl (tyX0_ok 7 (by decide)) rfl rfl (Nat.le_of_ble_eq_true rfl) (336+24*i+3) (own_b hi (by decide) (by decide)) (setB_7 hi) dX0_calmDown_7 (fun u9 H locs eu9 hP hS => ?_)
  obtain ⟨u7, e_u7⟩ : ∃ z, z = u9 := ⟨_, rfl⟩
  rw [← e_u7] at hP eu9
  have hF := bnd_s eu9 hF
  have hO := okW_up eu9 hO (by omega) (by omega)
  refine lv_aload_n hx hb dX0_calmDown_10 rfl (lv_at hl 0 rfl) ?_
  refine lv_iconst (v := 0) hx hb dX0_calmDown_11 (by decide) ?_
  refine pput hx hb hts inX0 tyX0 tyX0_ok nmX0 hown hK hP hA hS hw (j := 6+2*i) (by omega) (wcel_b hi) rfl 8 (by decide) (hts (.fieldLink RX0 52 "TileRunners$Body" "late" "I") (List.mem_of_getElem? (i := 3) rfl)) (fun _ h9 => h9) rfl (tyX0_ok 8 (by decide)) rfl rfl (Nat.le_of_ble_eq_true rfl) (336+24*i+4) (own_b hi (by decide) (by decide)) (setB_8 hi) dX0_calmDown_12 (fun u9 H locs eu9 hP hS => ?_)
  obtain ⟨u12, e_u12⟩ : ∃ z, z = u9 := ⟨_, rfl⟩
  rw [← e_u12] at hP eu9
  have hF := bnd_s eu9 hF
  have hO := okW_up eu9 hO (by omega) (by omega)
  refine lv_aload_n hx hb dX0_calmDown_15 rfl (lv_at hl 0 rfl) ?_
  refine lv_iconst (v := 0) hx hb dX0_calmDown_16 (by decide) ?_
  refine pput hx hb hts inX0 tyX0 tyX0_ok nmX0 hown hK hP hA hS hw (j := 6+2*i) (by omega) (wcel_b hi) rfl 9 (by decide) (hts (.fieldLink RX0 55 "TileRunners$Body" "buffer" "I") (List.mem_of_getElem? (i := 4) rfl)) (fun _ h9 => h9) rfl (tyX0_ok 9 (by decide)) rfl rfl (Nat.le_of_ble_eq_true rfl) (336+24*i+5) (own_b hi (by decide) (by decide)) (setB_9 hi) dX0_calmDown_17 (fun u9 H locs eu9 hP hS => ?_)
  obtain ⟨u17, e_u17⟩ : ∃ z, z = u9 := ⟨_, rfl⟩
  rw [← e_u17] at hP eu9
  have hF := bnd_s eu9 hF
  have hO := okW_up eu9 hO (by omega) (by omega)
  refine lv_aload_n hx hb dX0_calmDown_20 rfl (lv_at hl 0 rfl) ?_
  refine lv_iconst (v := 0) hx hb dX0_calmDown_21 (by decide) ?_
  refine pput hx hb hts inX0 tyX0 tyX0_ok nmX0 hown hK hP hA hS hw (j := 6+2*i) (by omega) (wcel_b hi) rfl 10 (by decide) (hts (.fieldLink RX0 58 "TileRunners$Body" "dropping" "I") (List.mem_of_getElem? (i := 5) rfl)) (fun _ h9 => h9) rfl (tyX0_ok 10 (by decide)) rfl rfl (Nat.le_of_ble_eq_true rfl) (336+24*i+6) (own_b hi (by decide) (by decide)) (setB_10 hi) dX0_calmDown_22 (fun u9 H locs eu9 hP hS => ?_)
  obtain ⟨u22, e_u22⟩ : ∃ z, z = u9 := ⟨_, rfl⟩
  rw [← e_u22] at hP eu9
  have hF := bnd_s eu9 hF
  have hO := okW_up eu9 hO (by omega) (by omega)
  refine lv_aload_n hx hb dX0_calmDown_25 rfl (lv_at hl 0 rfl) ?_
  refine lv_iconst (v := 0) hx hb dX0_calmDown_26 (by decide) ?_
  refine pput hx hb hts inX0 tyX0 tyX0_ok nmX0 hown hK hP hA hS hw (j := 6+2*i) (by omega) (wcel_b hi) rfl 13 (by decide) (hts (.fieldLink RX0 61 "TileRunners$Body" "rises" "Z") (List.mem_of_getElem? (i := 6) rfl)) (fun _ h9 => h9) rfl (tyX0_ok 13 (by decide)) (bl_nar bl0) (bl_fit bl0) (Nat.le_of_ble_eq_true rfl) (336+24*i+11) (own_b hi (by decide) (by decide)) (setB_13 hi (bl_nb bl0)) dX0_calmDown_27 (fun u9 H locs eu9 hP hS => ?_)
  obtain ⟨u27, e_u27⟩ : ∃ z, z = u9 := ⟨_, rfl⟩
  rw [← e_u27] at hP eu9
  have hF := bnd_s eu9 hF
  have hO := okW_up eu9 hO (by omega) (by omega)
  exact W.vret hx hb hr (fun t ht hW => ⟨⟨u27, rfl, ⟨hF.trans hFF, hO⟩, ho_of ht hP⟩, hS.F ht⟩) hS.2.2 dX0_calmDown_30
theorem hd_X0_calmDownV : yX0_calmDown.cls = RX0 ∧ yX0_calmDown.cls ≠ "java/lang/invoke/MethodHandle" ∧ yX0_calmDown.cls ≠ "java/lang/invoke/VarHandle" ∧ (parseMethodDescriptor yX0_calmDown.desc).map (fun d => d.parameters.length) = some 0 := by decide +kernel
set_option maxHeartbeats 4000000 in
set_option maxRecDepth 100000 in
theorem c0_leap (l : Launch) {D : va_G} {G : CY} {ad : Nat → Nat} {B0 : Nat} (hA : adOK B0 ad) (σ : Nat → Nat → Int32) (u : Nat → Int32) (w : Nat) (hw : w < 15) (i : Nat) (hi : i < 4) (a : Int32) (hO : okW u) : Met l yX0_leap wsX0_leap { frames := 0, cells := 0, slots := 0, locals := 0 } (va_Pc [.ref (ad (18*w+(6+2*i))), .int a] (Hp D G ad (va_up σ w u))) (va_Qv (fun (z : Nat → Int32) => z = f0_leap u i a ∧ okW z) (fun (z : Nat → Int32) => Ho D G ad (va_up σ w z)) (AA B0)) 0 0 (AA B0) := by
  refine Met.ofW (cc := cX0_leap) (maxL := 2) (ret := none) (by decide) rfl ?_
  intro p e s m args below meth c s₁ B hml hv
  obtain ⟨rfl, hP, hK, hN⟩ := hv
  have hx := B.exec
  have hb := B.bytes
  have hr := B.returns
  have hts := atoms_spec (ws := wsX0_leap) B.pre
  have hown : s.vm.findClass RX0 = some m.cls := findClass_of_methodNamed B.named
  have hlocks := B.notSynchronized
  have inX0 : ∀ w ∈ wsX00, w ∈ wsX0_leap := (fun w h => List.mem_cons_of_mem _ (List.mem_append_left _ (List.mem_append_right _ h)))
  have hP : va_P D vwCl (pool G ad (va_up σ w u)) s.heap := hP
  have hS : va_S (AA B0) s.heap s.heap [] := va_S.rf
  have hl := lv_entry ([.ref (ad (18*w+(6+2*i))), .int a]) (n := 2) (Nat.le_of_ble_eq_true rfl)
  rw [lg_entry_eq]
  generalize (lg_sl ([.ref (ad (18*w+(6+2*i))), .int a]) ++ List.replicate (2 - (lg_sl ([.ref (ad (18*w+(6+2*i))), .int a])).length) Slot.unset).toArray = ls at hl ⊢
  have hl : lv_has ls 2 [(0, .ref (ad (18*w+(6+2*i)))), (1, .int a)] := hl
  obtain ⟨FF, hFF⟩ : ∃ z, z = f0_leap u i a := ⟨_, rfl⟩
  have hF := hFF.symm
  rw [f0_leap] at hF
  refine lv_aload_n hx hb dX0_leap_0 rfl (lv_at hl 0 rfl) ?_
  refine lv_iload_n hx hb dX0_leap_1 rfl (lv_at hl 1 rfl) ?_
  refine pput hx hb hts inX0 tyX0 tyX0_ok nmX0 hown hK hP hA hS hw (j := 6+2*i) (by omega) (wcel_b hi) rfl 7 (by decide) (hts (.fieldLink RX0 49 "TileRunners$Body" "vertical" "I") (List.mem_of_getElem? (i := 1) rfl)) (fun _ h9 => h9) rfl (tyX0_ok 7 (by decide)) rfl rfl (Nat.le_of_ble_eq_true rfl) (336+24*i+3) (own_b hi (by decide) (by decide)) (setB_7 hi) dX0_leap_2 (fun u9 H locs eu9 hP hS => ?_)
  obtain ⟨u2, e_u2⟩ : ∃ z, z = u9 := ⟨_, rfl⟩
  rw [← e_u2] at hP eu9
  have hF := bnd_s eu9 hF
  have hO := okW_up eu9 hO (by omega) (by omega)
  refine lv_aload_n hx hb dX0_leap_5 rfl (lv_at hl 0 rfl) ?_
  refine lv_iconst (v := 0) hx hb dX0_leap_6 (by decide) ?_
  refine pput hx hb hts inX0 tyX0 tyX0_ok nmX0 hown hK hP hA hS hw (j := 6+2*i) (by omega) (wcel_b hi) rfl 9 (by decide) (hts (.fieldLink RX0 55 "TileRunners$Body" "buffer" "I") (List.mem_of_getElem? (i := 2) rfl)) (fun _ h9 => h9) rfl (tyX0_ok 9 (by decide)) rfl rfl (Nat.le_of_ble_eq_true rfl) (336+24*i+5) (own_b hi (by decide) (by decide)) (setB_9 hi) dX0_leap_7 (fun u9 H locs eu9 hP hS => ?_)
  obtain ⟨u7, e_u7⟩ : ∃ z, z = u9 := ⟨_, rfl⟩
  rw [← e_u7] at hP eu9
  have hF := bnd_s eu9 hF
  have hO := okW_up eu9 hO (by omega) (by omega)
  refine lv_aload_n hx hb dX0_leap_10 rfl (lv_at hl 0 rfl) ?_
  refine lv_iconst (v := 1) hx hb dX0_leap_11 (by decide) ?_
  refine pput hx hb hts inX0 tyX0 tyX0_ok nmX0 hown hK hP hA hS hw (j := 6+2*i) (by omega) (wcel_b hi) rfl 13 (by decide) (hts (.fieldLink RX0 61 "TileRunners$Body" "rises" "Z") (List.mem_of_getElem? (i := 3) rfl)) (fun _ h9 => h9) rfl (tyX0_ok 13 (by decide)) (bl_nar bl1) (bl_fit bl1) (Nat.le_of_ble_eq_true rfl) (336+24*i+11) (own_b hi (by decide) (by decide)) (setB_13 hi (bl_nb bl1)) dX0_leap_12 (fun u9 H locs eu9 hP hS => ?_)
  obtain ⟨u12, e_u12⟩ : ∃ z, z = u9 := ⟨_, rfl⟩
  rw [← e_u12] at hP eu9
  have hF := bnd_s eu9 hF
  have hO := okW_up eu9 hO (by omega) (by omega)
  refine lv_aload_n hx hb dX0_leap_15 rfl (lv_at hl 0 rfl) ?_
  refine va_get (D := D) (ci := 2) (C := RX0) (T := TX0) (N := 16) hx hb hts inX0 hown hK hP (18*w+(6+2*i)) (c_b hw hi) rfl 15 (by decide) (hts (.fieldLink RX0 9 "TileRunners$Body" "statistics" "[I") (List.mem_of_getElem? (i := 4) rfl)) (fun _ h9 => h9) rfl dX0_leap_16 ?_
  refine lv_iconst (v := 2) hx hb dX0_leap_19 (by decide) ?_
  refine lv_dup2_11 hx hb dX0_leap_20 rfl rfl ?_
  refine pald (n := 7) (o := 336+24*i+14) (t := 336+24*i+16) (i := 2) hx hb hK hP (c_s hw hi) (vp_in_iff.mpr (by decide)) rfl dX0_leap_21 ?_
  refine lv_iconst (v := 1) hx hb dX0_leap_22 (by decide) ?_
  refine lv_iadd hx hb dX0_leap_23 ?_
  have hin9 : vp_in 2 7 := (vp_in_iff.mpr (by decide))
  refine past (n := 7) (o := 336+24*i+14) (t := 336+24*i+16) hx hb hK hP hA hS hw (j := 7+2*i) (by omega) (fun _ => wcel_s hi) (fun k9 hk9 => own_s hi hk9) hin9 rfl dX0_leap_24 (fun u9 H locs eu9 hP hS => ?_)
  have hlt9 := in_lt hin9
  obtain ⟨u24, e_u24⟩ : ∃ z, z = u9 := ⟨_, rfl⟩
  rw [← e_u24] at hP eu9
  have hF := bnd_s eu9 hF
  have hO := okW_up eu9 hO (by omega) (by omega)
  exact W.vret hx hb hr (fun t ht hW => ⟨⟨u24, rfl, ⟨hF.trans hFF, hO⟩, ho_of ht hP⟩, hS.F ht⟩) hS.2.2 dX0_leap_25
theorem hd_X0_leapV : yX0_leap.cls = RX0 ∧ yX0_leap.cls ≠ "java/lang/invoke/MethodHandle" ∧ yX0_leap.cls ≠ "java/lang/invoke/VarHandle" ∧ (parseMethodDescriptor yX0_leap.desc).map (fun d => d.parameters.length) = some 1 := by decide +kernel
set_option maxHeartbeats 4000000 in
set_option maxRecDepth 100000 in
theorem c0_die (l : Launch) {D : va_G} {G : CY} {ad : Nat → Nat} {B0 : Nat} (hA : adOK B0 ad) (σ : Nat → Nat → Int32) (u : Nat → Int32) (w : Nat) (hw : w < 15) (i : Nat) (hi : i < 4) (hO : okW u) : Met l yX0_die wsX0_die { frames := 1, cells := 0, slots := 0, locals := 20 } (va_Pc [.ref (ad (18*w+(6+2*i)))] (Hp D G ad (va_up σ w u))) (va_Qv (fun (z : Nat → Int32) => z = f0_die u i ∧ okW z) (fun (z : Nat → Int32) => Ho D G ad (va_up σ w z)) (AA B0)) 0 0 (AA B0) := by
  refine Met.ofW (cc := cX0_die) (maxL := 1) (ret := none) (by decide) rfl ?_
  intro p e s m args below meth c s₁ B hml hv
  obtain ⟨rfl, hP, hK, hN⟩ := hv
  have hx := B.exec
  have hb := B.bytes
  have hr := B.returns
  have hts := atoms_spec (ws := wsX0_die) B.pre
  have hown : s.vm.findClass RX0 = some m.cls := findClass_of_methodNamed B.named
  have hlocks := B.notSynchronized
  have inX0 : ∀ w ∈ wsX00, w ∈ wsX0_die := (fun w h => List.mem_cons_of_mem _ (List.mem_append_left _ (List.mem_append_right _ h)))
  have hP : va_P D vwCl (pool G ad (va_up σ w u)) s.heap := hP
  have hS : va_S (AA B0) s.heap s.heap [] := va_S.rf
  have hl := lv_entry ([.ref (ad (18*w+(6+2*i)))]) (n := 1) (Nat.le_of_ble_eq_true rfl)
  rw [lg_entry_eq]
  generalize (lg_sl ([.ref (ad (18*w+(6+2*i)))]) ++ List.replicate (1 - (lg_sl ([.ref (ad (18*w+(6+2*i)))])).length) Slot.unset).toArray = ls at hl ⊢
  have hl : lv_has ls 1 [(0, .ref (ad (18*w+(6+2*i))))] := hl
  obtain ⟨FF, hFF⟩ : ∃ z, z = f0_die u i := ⟨_, rfl⟩
  have hF := hFF.symm
  rw [f0_die] at hF
  refine lv_aload_n hx hb dX0_die_0 rfl (lv_at hl 0 rfl) ?_
  refine lv_aload_n hx hb dX0_die_1 rfl (lv_at hl 0 rfl) ?_
  refine va_get (D := D) (ci := 2) (C := RX0) (T := TX0) (N := 16) hx hb hts inX0 hown hK hP (18*w+(6+2*i)) (c_b hw hi) rfl 4 (by decide) (hts (.fieldLink RX0 22 "TileRunners$Body" "firstX" "I") (List.mem_of_getElem? (i := 1) rfl)) (fun _ h9 => h9) rfl dX0_die_2 ?_
  refine pput hx hb hts inX0 tyX0 tyX0_ok nmX0 hown hK hP hA hS hw (j := 6+2*i) (by omega) (wcel_b hi) rfl 0 (by decide) (hts (.fieldLink RX0 15 "TileRunners$Body" "x" "I") (List.mem_of_getElem? (i := 2) rfl)) (fun _ h9 => h9) rfl (tyX0_ok 0 (by decide)) rfl rfl (Nat.le_of_ble_eq_true rfl) (336+24*i+0) (own_b hi (by decide) (by decide)) (setB_0 hi) dX0_die_5 (fun u9 H locs eu9 hP hS => ?_)
  obtain ⟨u5, e_u5⟩ : ∃ z, z = u9 := ⟨_, rfl⟩
  rw [← e_u5] at hP eu9
  have hF := bnd_s eu9 hF
  have hO := okW_up eu9 hO (by omega) (by omega)
  refine lv_aload_n hx hb dX0_die_8 rfl (lv_at hl 0 rfl) ?_
  refine lv_aload_n hx hb dX0_die_9 rfl (lv_at hl 0 rfl) ?_
  refine va_get (D := D) (ci := 2) (C := RX0) (T := TX0) (N := 16) hx hb hts inX0 hown hK hP (18*w+(6+2*i)) (c_b hw hi) rfl 5 (by decide) (hts (.fieldLink RX0 25 "TileRunners$Body" "firstY" "I") (List.mem_of_getElem? (i := 3) rfl)) (fun _ h9 => h9) rfl dX0_die_10 ?_
  refine pput hx hb hts inX0 tyX0 tyX0_ok nmX0 hown hK hP hA hS hw (j := 6+2*i) (by omega) (wcel_b hi) rfl 1 (by decide) (hts (.fieldLink RX0 19 "TileRunners$Body" "y" "I") (List.mem_of_getElem? (i := 4) rfl)) (fun _ h9 => h9) rfl (tyX0_ok 1 (by decide)) rfl rfl (Nat.le_of_ble_eq_true rfl) (336+24*i+1) (own_b hi (by decide) (by decide)) (setB_1 hi) dX0_die_13 (fun u9 H locs eu9 hP hS => ?_)
  obtain ⟨u13, e_u13⟩ : ∃ z, z = u9 := ⟨_, rfl⟩
  rw [← e_u13] at hP eu9
  have hF := bnd_s eu9 hF
  have hO := okW_up eu9 hO (by omega) (by omega)
  refine lv_aload_n hx hb dX0_die_16 rfl (lv_at hl 0 rfl) ?_
  refine va_callv (va_runV (As := []) (rest := []) ⟨hx, hb, hml, hown, hts⟩ (c0_calmDown l hA σ u13 w hw i hi hO) (cwV 0 hts gX0_die_X0_calmDown rfl rfl rfl hd_X0_calmDownV ⟨Nat.le_of_ble_eq_true rfl, Nat.le_of_ble_eq_true rfl⟩) ⟨hp_blind, va_recv hK hP (ci := 2) (q0 := 18*w+(6+2*i)) rfl (c_b hw hi), hp_pre hK hN hP⟩ rfl rfl hl.1 rfl (lv_room (Nat.le_of_ble_eq_true rfl)) dX0_die_17 ⟨Nat.zero_le _, Nat.zero_le _⟩) hS (fun _ _ h => h) (fun _ h => h) (fun u9 t H locs ht hvm hw9 hB hz1 hk1 hS => ?_)
  have hP := ho_at ht hB
  obtain ⟨eq17, ok9⟩ := hw9
  obtain ⟨u17, e_u17⟩ : ∃ z, z = u9 := ⟨_, rfl⟩
  rw [← e_u17] at hP eq17 ok9
  have hO := ok9
  have hF := bnd_s eq17 hF
  refine lv_aload_n hx hb dX0_die_20 rfl (lv_at hl 0 rfl) ?_
  refine va_get (D := D) (ci := 2) (C := RX0) (T := TX0) (N := 16) hx hb hts inX0 hown hK hP (18*w+(6+2*i)) (c_b hw hi) rfl 15 (by decide) (hts (.fieldLink RX0 9 "TileRunners$Body" "statistics" "[I") (List.mem_of_getElem? (i := 5) rfl)) (fun _ h9 => h9) rfl dX0_die_21 ?_
  refine lv_iconst (v := 1) hx hb dX0_die_24 (by decide) ?_
  refine lv_dup2_11 hx hb dX0_die_25 rfl rfl ?_
  refine pald (n := 7) (o := 336+24*i+14) (t := 336+24*i+15) (i := 1) hx hb hK hP (c_s hw hi) (vp_in_iff.mpr (by decide)) rfl dX0_die_26 ?_
  refine lv_iconst (v := 1) hx hb dX0_die_27 (by decide) ?_
  refine lv_iadd hx hb dX0_die_28 ?_
  have hin9 : vp_in 1 7 := (vp_in_iff.mpr (by decide))
  refine past (n := 7) (o := 336+24*i+14) (t := 336+24*i+15) hx hb hK hP hA hS hw (j := 7+2*i) (by omega) (fun _ => wcel_s hi) (fun k9 hk9 => own_s hi hk9) hin9 rfl dX0_die_29 (fun u9 H locs eu9 hP hS => ?_)
  have hlt9 := in_lt hin9
  obtain ⟨u29, e_u29⟩ : ∃ z, z = u9 := ⟨_, rfl⟩
  rw [← e_u29] at hP eu9
  have hF := bnd_s eu9 hF
  have hO := okW_up eu9 hO (by omega) (by omega)
  exact W.vret hx hb hr (fun t ht hW => ⟨⟨u29, rfl, ⟨hF.trans hFF, hO⟩, ho_of ht hP⟩, hS.F ht⟩) hS.2.2 dX0_die_30
theorem hd_X0_dieV : yX0_die.cls = RX0 ∧ yX0_die.cls ≠ "java/lang/invoke/MethodHandle" ∧ yX0_die.cls ≠ "java/lang/invoke/VarHandle" ∧ (parseMethodDescriptor yX0_die.desc).map (fun d => d.parameters.length) = some 0 := by decide +kernel
set_option maxHeartbeats 4000000 in
set_option maxRecDepth 100000 in
theorem c0_endTick (l : Launch) {D : va_G} {G : CY} {ad : Nat → Nat} {B0 : Nat} (hA : adOK B0 ad) (σ : Nat → Nat → Int32) (u : Nat → Int32) (w : Nat) (hw : w < 15) (i : Nat) (hi : i < 4) (hO : okW u) : Met l yX0_endTick wsX0_endTick { frames := 0, cells := 0, slots := 0, locals := 0 } (va_Pc [.ref (ad (18*w+(6+2*i)))] (Hp D G ad (va_up σ w u))) (va_Qv (fun (z : Nat → Int32) => z = f0_endTick u i ∧ okW z) (fun (z : Nat → Int32) => Ho D G ad (va_up σ w z)) (AA B0)) 0 0 (AA B0) := by
  refine Met.ofW (cc := cX0_endTick) (maxL := 1) (ret := none) (by decide) rfl ?_
  intro p e s m args below meth c s₁ B hml hv
  obtain ⟨rfl, hP, hK, hN⟩ := hv
  have hx := B.exec
  have hb := B.bytes
  have hr := B.returns
  have hts := atoms_spec (ws := wsX0_endTick) B.pre
  have hown : s.vm.findClass RX0 = some m.cls := findClass_of_methodNamed B.named
  have hlocks := B.notSynchronized
  have inX0 : ∀ w ∈ wsX00, w ∈ wsX0_endTick := (fun w h => List.mem_cons_of_mem _ (List.mem_append_left _ (List.mem_append_right _ h)))
  have hP : va_P D vwCl (pool G ad (va_up σ w u)) s.heap := hP
  have hS : va_S (AA B0) s.heap s.heap [] := va_S.rf
  have hl := lv_entry ([.ref (ad (18*w+(6+2*i)))]) (n := 1) (Nat.le_of_ble_eq_true rfl)
  rw [lg_entry_eq]
  generalize (lg_sl ([.ref (ad (18*w+(6+2*i)))]) ++ List.replicate (1 - (lg_sl ([.ref (ad (18*w+(6+2*i)))])).length) Slot.unset).toArray = ls at hl ⊢
  have hl : lv_has ls 1 [(0, .ref (ad (18*w+(6+2*i))))] := hl
  obtain ⟨FF, hFF⟩ : ∃ z, z = f0_endTick u i := ⟨_, rfl⟩
  have hF := hFF.symm
  rw [f0_endTick] at hF
  refine lv_aload_n hx hb dX0_endTick_0 rfl (lv_at hl 0 rfl) ?_
  refine va_get (D := D) (ci := 2) (C := RX0) (T := TX0) (N := 16) hx hb hts inX0 hown hK hP (18*w+(6+2*i)) (c_b hw hi) rfl 7 (by decide) (hts (.fieldLink RX0 49 "TileRunners$Body" "vertical" "I") (List.mem_of_getElem? (i := 1) rfl)) (fun _ h9 => h9) rfl dX0_endTick_1 ?_
  have J12 : ∀ (u_12 : (Nat → Int32)) (H : Heap) (locs : List Loc) (ls : Array Slot), okW u_12 → va_P D vwCl (pool G ad (va_up σ w u_12)) H → va_S (AA B0) s.heap H locs → lv_has ls 1 [(0, .ref (ad (18*w+(6+2*i))))] → f0_endTick_b12 i u_12 = FF → W p l e (headSpec wsX0_endTick { frames := 0, cells := 0, slots := 0, locals := 0 }).room s m ([.ref (ad (18*w+(6+2*i)))] : List Value).toArray below meth c H locs 0 0 (MQ below (va_Qv (fun (z : Nat → Int32) => z = f0_endTick u i ∧ okW z) (fun (z : Nat → Int32) => Ho D G ad (va_up σ w z)) (AA B0)) ([.ref (ad (18*w+(6+2*i)))] : List Value).toArray s 0 0 (AA B0)) (F0 m 12 ls []) := by
    intro u_12 H locs ls hO hP hS hl hF
    rw [f0_endTick_b12] at hF
    refine lv_aload_n hx hb dX0_endTick_12 rfl (lv_at hl 0 rfl) ?_
    refine va_get (D := D) (ci := 2) (C := RX0) (T := TX0) (N := 16) hx hb hts inX0 hown hK hP (18*w+(6+2*i)) (c_b hw hi) rfl 14 (by decide) (hts (.fieldLink RX0 40 "TileRunners$Body" "ticks" "I") (List.mem_of_getElem? (i := 3) rfl)) (fun _ h9 => h9) rfl dX0_endTick_13 ?_
    have J44 : ∀ (u_44 : (Nat → Int32)) (H : Heap) (locs : List Loc) (ls : Array Slot), okW u_44 → va_P D vwCl (pool G ad (va_up σ w u_44)) H → va_S (AA B0) s.heap H locs → lv_has ls 1 [(0, .ref (ad (18*w+(6+2*i))))] → f0_endTick_b44 i u_44 = FF → W p l e (headSpec wsX0_endTick { frames := 0, cells := 0, slots := 0, locals := 0 }).room s m ([.ref (ad (18*w+(6+2*i)))] : List Value).toArray below meth c H locs 0 0 (MQ below (va_Qv (fun (z : Nat → Int32) => z = f0_endTick u i ∧ okW z) (fun (z : Nat → Int32) => Ho D G ad (va_up σ w z)) (AA B0)) ([.ref (ad (18*w+(6+2*i)))] : List Value).toArray s 0 0 (AA B0)) (F0 m 44 ls []) := by
      intro u_44 H locs ls hO hP hS hl hF
      rw [f0_endTick_b44] at hF
      refine lv_aload_n hx hb dX0_endTick_44 rfl (lv_at hl 0 rfl) ?_
      refine lv_dup hx hb dX0_endTick_45 rfl ?_
      refine va_get (D := D) (ci := 2) (C := RX0) (T := TX0) (N := 16) hx hb hts inX0 hown hK hP (18*w+(6+2*i)) (c_b hw hi) rfl 14 (by decide) (hts (.fieldLink RX0 40 "TileRunners$Body" "ticks" "I") (List.mem_of_getElem? (i := 3) rfl)) (fun _ h9 => h9) rfl dX0_endTick_46 ?_
      refine lv_iconst (v := 1) hx hb dX0_endTick_49 (by decide) ?_
      refine lv_iadd hx hb dX0_endTick_50 ?_
      refine pput hx hb hts inX0 tyX0 tyX0_ok nmX0 hown hK hP hA hS hw (j := 6+2*i) (by omega) (wcel_b hi) rfl 14 (by decide) (hts (.fieldLink RX0 40 "TileRunners$Body" "ticks" "I") (List.mem_of_getElem? (i := 3) rfl)) (fun _ h9 => h9) rfl (tyX0_ok 14 (by decide)) rfl rfl (Nat.le_of_ble_eq_true rfl) (336+24*i+21) (own_b hi (by decide) (by decide)) (setB_14 hi) dX0_endTick_51 (fun u9 H locs eu9 hP hS => ?_)
      obtain ⟨u51, e_u51⟩ : ∃ z, z = u9 := ⟨_, rfl⟩
      rw [← e_u51] at hP eu9
      have hF := bnd_s eu9 hF
      have hO := okW_up eu9 hO (by omega) (by omega)
      refine lv_aload_n hx hb dX0_endTick_54 rfl (lv_at hl 0 rfl) ?_
      refine lv_aload_n hx hb dX0_endTick_55 rfl (lv_at hl 0 rfl) ?_
      refine va_get (D := D) (ci := 2) (C := RX0) (T := TX0) (N := 16) hx hb hts inX0 hown hK hP (18*w+(6+2*i)) (c_b hw hi) rfl 11 (by decide) (hts (.fieldLink RX0 34 "TileRunners$Body" "input" "I") (List.mem_of_getElem? (i := 6) rfl)) (fun _ h9 => h9) rfl dX0_endTick_56 ?_
      refine pput hx hb hts inX0 tyX0 tyX0_ok nmX0 hown hK hP hA hS hw (j := 6+2*i) (by omega) (wcel_b hi) rfl 12 (by decide) (hts (.fieldLink RX0 37 "TileRunners$Body" "earlierInput" "I") (List.mem_of_getElem? (i := 7) rfl)) (fun _ h9 => h9) rfl (tyX0_ok 12 (by decide)) rfl rfl (Nat.le_of_ble_eq_true rfl) (336+24*i+10) (own_b hi (by decide) (by decide)) (setB_12 hi) dX0_endTick_59 (fun u9 H locs eu9 hP hS => ?_)
      obtain ⟨u59, e_u59⟩ : ∃ z, z = u9 := ⟨_, rfl⟩
      rw [← e_u59] at hP eu9
      have hF := bnd_s eu9 hF
      have hO := okW_up eu9 hO (by omega) (by omega)
      exact W.vret hx hb hr (fun t ht hW => ⟨⟨u59, rfl, ⟨hF.trans hFF, hO⟩, ho_of ht hP⟩, hS.F ht⟩) hS.2.2 dX0_endTick_62
    have J33 : ∀  (H : Heap) (locs : List Loc) (ls : Array Slot), va_P D vwCl (pool G ad (va_up σ w u_12)) H → va_S (AA B0) s.heap H locs → lv_has ls 1 [(0, .ref (ad (18*w+(6+2*i))))] → f0_endTick_b33 i u_12  = FF → W p l e (headSpec wsX0_endTick { frames := 0, cells := 0, slots := 0, locals := 0 }).room s m ([.ref (ad (18*w+(6+2*i)))] : List Value).toArray below meth c H locs 0 0 (MQ below (va_Qv (fun (z : Nat → Int32) => z = f0_endTick u i ∧ okW z) (fun (z : Nat → Int32) => Ho D G ad (va_up σ w z)) (AA B0)) ([.ref (ad (18*w+(6+2*i)))] : List Value).toArray s 0 0 (AA B0)) (F0 m 33 ls []) := by
      intro  H locs ls hP hS hl hF
      rw [f0_endTick_b33] at hF
      refine lv_aload_n hx hb dX0_endTick_33 rfl (lv_at hl 0 rfl) ?_
      refine va_get (D := D) (ci := 2) (C := RX0) (T := TX0) (N := 16) hx hb hts inX0 hown hK hP (18*w+(6+2*i)) (c_b hw hi) rfl 15 (by decide) (hts (.fieldLink RX0 9 "TileRunners$Body" "statistics" "[I") (List.mem_of_getElem? (i := 5) rfl)) (fun _ h9 => h9) rfl dX0_endTick_34 ?_
      refine lv_bipush (v := 6) hx hb dX0_endTick_37 (by decide) ?_
      refine lv_aload_n hx hb dX0_endTick_39 rfl (lv_at hl 0 rfl) ?_
      refine va_get (D := D) (ci := 2) (C := RX0) (T := TX0) (N := 16) hx hb hts inX0 hown hK hP (18*w+(6+2*i)) (c_b hw hi) rfl 1 (by decide) (hts (.fieldLink RX0 19 "TileRunners$Body" "y" "I") (List.mem_of_getElem? (i := 4) rfl)) (fun _ h9 => h9) rfl dX0_endTick_40 ?_
      have hin9 : vp_in 6 7 := (vp_in_iff.mpr (by decide))
      refine past (n := 7) (o := 336+24*i+14) (t := 336+24*i+20) hx hb hK hP hA hS hw (j := 7+2*i) (by omega) (fun _ => wcel_s hi) (fun k9 hk9 => own_s hi hk9) hin9 rfl dX0_endTick_43 (fun u9 H locs eu9 hP hS => ?_)
      have hlt9 := in_lt hin9
      obtain ⟨u43, e_u43⟩ : ∃ z, z = u9 := ⟨_, rfl⟩
      rw [← e_u43] at hP eu9
      have hF := bnd_s eu9 hF
      have hO := okW_up eu9 hO (by omega) (by omega)
      exact J44 u43 _ _ ls hO hP hS (lv_sub hl [0] rfl) hF
    refine lv_if_eq (tgt := 33) hx hb dX0_endTick_16 (by decide) (fun c16 => ?_) (fun c16 => ?_)
    · have hF := ift c16 hF
      exact J33  _ _ ls hP hS (lv_sub hl [0] rfl) hF
    · have hF := iff_ c16 hF
      refine lv_aload_n hx hb dX0_endTick_19 rfl (lv_at hl 0 rfl) ?_
      refine va_get (D := D) (ci := 2) (C := RX0) (T := TX0) (N := 16) hx hb hts inX0 hown hK hP (18*w+(6+2*i)) (c_b hw hi) rfl 1 (by decide) (hts (.fieldLink RX0 19 "TileRunners$Body" "y" "I") (List.mem_of_getElem? (i := 4) rfl)) (fun _ h9 => h9) rfl dX0_endTick_20 ?_
      refine lv_aload_n hx hb dX0_endTick_23 rfl (lv_at hl 0 rfl) ?_
      refine va_get (D := D) (ci := 2) (C := RX0) (T := TX0) (N := 16) hx hb hts inX0 hown hK hP (18*w+(6+2*i)) (c_b hw hi) rfl 15 (by decide) (hts (.fieldLink RX0 9 "TileRunners$Body" "statistics" "[I") (List.mem_of_getElem? (i := 5) rfl)) (fun _ h9 => h9) rfl dX0_endTick_24 ?_
      refine lv_bipush (v := 6) hx hb dX0_endTick_27 (by decide) ?_
      refine pald (n := 7) (o := 336+24*i+14) (t := 336+24*i+20) (i := 6) hx hb hK hP (c_s hw hi) (vp_in_iff.mpr (by decide)) rfl dX0_endTick_29 ?_
      refine lv_icmp_le (tgt := 44) hx hb dX0_endTick_30 (by decide) (fun c30 => ?_) (fun c30 => ?_)
      · have hF := ift c30 hF
        exact J44 u_12 _ _ ls hO hP hS (lv_sub hl [0] rfl) hF
      · have hF := iff_ c30 hF
        exact J33  _ _ ls hP hS (lv_sub hl [0] rfl) hF
  refine lv_if_gt (tgt := 12) hx hb dX0_endTick_4 (by decide) (fun c4 => ?_) (fun c4 => ?_)
  · have hF := ift c4 hF
    exact J12 u _ _ ls hO hP hS (lv_sub hl [0] rfl) hF
  · have hF := iff_ c4 hF
    refine lv_aload_n hx hb dX0_endTick_7 rfl (lv_at hl 0 rfl) ?_
    refine lv_iconst (v := 0) hx hb dX0_endTick_8 (by decide) ?_
    refine pput hx hb hts inX0 tyX0 tyX0_ok nmX0 hown hK hP hA hS hw (j := 6+2*i) (by omega) (wcel_b hi) rfl 13 (by decide) (hts (.fieldLink RX0 61 "TileRunners$Body" "rises" "Z") (List.mem_of_getElem? (i := 2) rfl)) (fun _ h9 => h9) rfl (tyX0_ok 13 (by decide)) (bl_nar bl0) (bl_fit bl0) (Nat.le_of_ble_eq_true rfl) (336+24*i+11) (own_b hi (by decide) (by decide)) (setB_13 hi (bl_nb bl0)) dX0_endTick_9 (fun u9 H locs eu9 hP hS => ?_)
    obtain ⟨u9, e_u9⟩ : ∃ z, z = u9 := ⟨_, rfl⟩
    rw [← e_u9] at hP eu9
    have hF := bnd_s eu9 hF
    have hO := okW_up eu9 hO (by omega) (by omega)
    exact J12 u9 _ _ ls hO hP hS (lv_sub hl [0] rfl) hF
theorem hd_X0_endTickV : yX0_endTick.cls = RX0 ∧ yX0_endTick.cls ≠ "java/lang/invoke/MethodHandle" ∧ yX0_endTick.cls ≠ "java/lang/invoke/VarHandle" ∧ (parseMethodDescriptor yX0_endTick.desc).map (fun d => d.parameters.length) = some 0 := by decide +kernel
set_option maxHeartbeats 4000000 in
set_option maxRecDepth 100000 in
theorem c0_begin (l : Launch) {D : va_G} {G : CY} {ad : Nat → Nat} {B0 : Nat} (hA : adOK B0 ad) (σ : Nat → Nat → Int32) (u : Nat → Int32) (w : Nat) (hw : w < 15) (i : Nat) (hi : i < 4) (a : Int32) (b : Int32) (c1 : Int32) (d : Int32) (hO : okW u) : Met l yX0_begin wsX0_begin { frames := 1, cells := 0, slots := 0, locals := 20 } (va_Pc [.ref (ad (18*w+(6+2*i))), .int a, .int b, .int c1, .int d] (Hp D G ad (va_up σ w u))) (va_Qv (fun (z : Nat → Int32) => z = f0_begin u i a b c1 d ∧ okW z) (fun (z : Nat → Int32) => Ho D G ad (va_up σ w z)) (AA B0)) 0 0 (AA B0) := by
  refine Met.ofW (cc := cX0_begin) (maxL := 6) (ret := none) (by decide) rfl ?_
  intro p e s m args below meth c s₁ B hml hv
  obtain ⟨rfl, hP, hK, hN⟩ := hv
  have hx := B.exec
  have hb := B.bytes
  have hr := B.returns
  have hts := atoms_spec (ws := wsX0_begin) B.pre
  have hown : s.vm.findClass RX0 = some m.cls := findClass_of_methodNamed B.named
  have hlocks := B.notSynchronized
  have inX0 : ∀ w ∈ wsX00, w ∈ wsX0_begin := (fun w h => List.mem_cons_of_mem _ (List.mem_append_left _ (List.mem_append_right _ h)))
  have hP : va_P D vwCl (pool G ad (va_up σ w u)) s.heap := hP
  have hS : va_S (AA B0) s.heap s.heap [] := va_S.rf
  have hl := lv_entry ([.ref (ad (18*w+(6+2*i))), .int a, .int b, .int c1, .int d]) (n := 6) (Nat.le_of_ble_eq_true rfl)
  rw [lg_entry_eq]
  generalize (lg_sl ([.ref (ad (18*w+(6+2*i))), .int a, .int b, .int c1, .int d]) ++ List.replicate (6 - (lg_sl ([.ref (ad (18*w+(6+2*i))), .int a, .int b, .int c1, .int d])).length) Slot.unset).toArray = ls at hl ⊢
  have hl : lv_has ls 6 [(0, .ref (ad (18*w+(6+2*i)))), (1, .int a), (2, .int b), (3, .int c1), (4, .int d)] := hl
  obtain ⟨FF, hFF⟩ : ∃ z, z = f0_begin u i a b c1 d := ⟨_, rfl⟩
  have hF := hFF.symm
  rw [f0_begin] at hF
  refine lv_aload_n hx hb dX0_begin_0 rfl (lv_at hl 0 rfl) ?_
  refine lv_iload_n hx hb dX0_begin_1 rfl (lv_at hl 1 rfl) ?_
  refine pput hx hb hts inX0 tyX0 tyX0_ok nmX0 hown hK hP hA hS hw (j := 6+2*i) (by omega) (wcel_b hi) rfl 0 (by decide) (hts (.fieldLink RX0 15 "TileRunners$Body" "x" "I") (List.mem_of_getElem? (i := 1) rfl)) (fun _ h9 => h9) rfl (tyX0_ok 0 (by decide)) rfl rfl (Nat.le_of_ble_eq_true rfl) (336+24*i+0) (own_b hi (by decide) (by decide)) (setB_0 hi) dX0_begin_2 (fun u9 H locs eu9 hP hS => ?_)
  obtain ⟨u2, e_u2⟩ : ∃ z, z = u9 := ⟨_, rfl⟩
  rw [← e_u2] at hP eu9
  have hF := bnd_s eu9 hF
  have hO := okW_up eu9 hO (by omega) (by omega)
  refine lv_aload_n hx hb dX0_begin_5 rfl (lv_at hl 0 rfl) ?_
  refine lv_iload_n hx hb dX0_begin_6 rfl (lv_at hl 2 rfl) ?_
  refine pput hx hb hts inX0 tyX0 tyX0_ok nmX0 hown hK hP hA hS hw (j := 6+2*i) (by omega) (wcel_b hi) rfl 1 (by decide) (hts (.fieldLink RX0 19 "TileRunners$Body" "y" "I") (List.mem_of_getElem? (i := 2) rfl)) (fun _ h9 => h9) rfl (tyX0_ok 1 (by decide)) rfl rfl (Nat.le_of_ble_eq_true rfl) (336+24*i+1) (own_b hi (by decide) (by decide)) (setB_1 hi) dX0_begin_7 (fun u9 H locs eu9 hP hS => ?_)
  obtain ⟨u7, e_u7⟩ : ∃ z, z = u9 := ⟨_, rfl⟩
  rw [← e_u7] at hP eu9
  have hF := bnd_s eu9 hF
  have hO := okW_up eu9 hO (by omega) (by omega)
  refine lv_aload_n hx hb dX0_begin_10 rfl (lv_at hl 0 rfl) ?_
  refine lv_iload_n hx hb dX0_begin_11 rfl (lv_at hl 1 rfl) ?_
  refine pput hx hb hts inX0 tyX0 tyX0_ok nmX0 hown hK hP hA hS hw (j := 6+2*i) (by omega) (wcel_b hi) rfl 4 (by decide) (hts (.fieldLink RX0 22 "TileRunners$Body" "firstX" "I") (List.mem_of_getElem? (i := 3) rfl)) (fun _ h9 => h9) rfl (tyX0_ok 4 (by decide)) rfl rfl (Nat.le_of_ble_eq_true rfl) (336+24*i+12) (own_b hi (by decide) (by decide)) (setB_4 hi) dX0_begin_12 (fun u9 H locs eu9 hP hS => ?_)
  obtain ⟨u12, e_u12⟩ : ∃ z, z = u9 := ⟨_, rfl⟩
  rw [← e_u12] at hP eu9
  have hF := bnd_s eu9 hF
  have hO := okW_up eu9 hO (by omega) (by omega)
  refine lv_aload_n hx hb dX0_begin_15 rfl (lv_at hl 0 rfl) ?_
  refine lv_iload_n hx hb dX0_begin_16 rfl (lv_at hl 2 rfl) ?_
  refine pput hx hb hts inX0 tyX0 tyX0_ok nmX0 hown hK hP hA hS hw (j := 6+2*i) (by omega) (wcel_b hi) rfl 5 (by decide) (hts (.fieldLink RX0 25 "TileRunners$Body" "firstY" "I") (List.mem_of_getElem? (i := 4) rfl)) (fun _ h9 => h9) rfl (tyX0_ok 5 (by decide)) rfl rfl (Nat.le_of_ble_eq_true rfl) (336+24*i+13) (own_b hi (by decide) (by decide)) (setB_5 hi) dX0_begin_17 (fun u9 H locs eu9 hP hS => ?_)
  obtain ⟨u17, e_u17⟩ : ∃ z, z = u9 := ⟨_, rfl⟩
  rw [← e_u17] at hP eu9
  have hF := bnd_s eu9 hF
  have hO := okW_up eu9 hO (by omega) (by omega)
  refine lv_aload_n hx hb dX0_begin_20 rfl (lv_at hl 0 rfl) ?_
  refine lv_iload_n hx hb dX0_begin_21 rfl (lv_at hl 3 rfl) ?_
  refine pput hx hb hts inX0 tyX0 tyX0_ok nmX0 hown hK hP hA hS hw (j := 6+2*i) (by omega) (wcel_b hi) rfl 2 (by decide) (hts (.fieldLink RX0 28 "TileRunners$Body" "width" "I") (List.mem_of_getElem? (i := 5) rfl)) (fun _ h9 => h9) rfl (tyX0_ok 2 (by decide)) rfl rfl (Nat.le_of_ble_eq_true rfl) (336+24*i+7) (own_b hi (by decide) (by decide)) (setB_2 hi) dX0_begin_22 (fun u9 H locs eu9 hP hS => ?_)
  obtain ⟨u22, e_u22⟩ : ∃ z, z = u9 := ⟨_, rfl⟩
  rw [← e_u22] at hP eu9
  have hF := bnd_s eu9 hF
  have hO := okW_up eu9 hO (by omega) (by omega)
  refine lv_aload_n hx hb dX0_begin_25 rfl (lv_at hl 0 rfl) ?_
  refine lv_iload hx hb dX0_begin_26 (lv_at hl 4 rfl) ?_
  refine pput hx hb hts inX0 tyX0 tyX0_ok nmX0 hown hK hP hA hS hw (j := 6+2*i) (by omega) (wcel_b hi) rfl 3 (by decide) (hts (.fieldLink RX0 31 "TileRunners$Body" "height" "I") (List.mem_of_getElem? (i := 6) rfl)) (fun _ h9 => h9) rfl (tyX0_ok 3 (by decide)) rfl rfl (Nat.le_of_ble_eq_true rfl) (336+24*i+8) (own_b hi (by decide) (by decide)) (setB_3 hi) dX0_begin_28 (fun u9 H locs eu9 hP hS => ?_)
  obtain ⟨u28, e_u28⟩ : ∃ z, z = u9 := ⟨_, rfl⟩
  rw [← e_u28] at hP eu9
  have hF := bnd_s eu9 hF
  have hO := okW_up eu9 hO (by omega) (by omega)
  refine lv_aload_n hx hb dX0_begin_31 rfl (lv_at hl 0 rfl) ?_
  refine lv_iconst (v := 0) hx hb dX0_begin_32 (by decide) ?_
  refine pput hx hb hts inX0 tyX0 tyX0_ok nmX0 hown hK hP hA hS hw (j := 6+2*i) (by omega) (wcel_b hi) rfl 11 (by decide) (hts (.fieldLink RX0 34 "TileRunners$Body" "input" "I") (List.mem_of_getElem? (i := 7) rfl)) (fun _ h9 => h9) rfl (tyX0_ok 11 (by decide)) rfl rfl (Nat.le_of_ble_eq_true rfl) (336+24*i+9) (own_b hi (by decide) (by decide)) (setB_11 hi) dX0_begin_33 (fun u9 H locs eu9 hP hS => ?_)
  obtain ⟨u33, e_u33⟩ : ∃ z, z = u9 := ⟨_, rfl⟩
  rw [← e_u33] at hP eu9
  have hF := bnd_s eu9 hF
  have hO := okW_up eu9 hO (by omega) (by omega)
  refine lv_aload_n hx hb dX0_begin_36 rfl (lv_at hl 0 rfl) ?_
  refine lv_iconst (v := 0) hx hb dX0_begin_37 (by decide) ?_
  refine pput hx hb hts inX0 tyX0 tyX0_ok nmX0 hown hK hP hA hS hw (j := 6+2*i) (by omega) (wcel_b hi) rfl 12 (by decide) (hts (.fieldLink RX0 37 "TileRunners$Body" "earlierInput" "I") (List.mem_of_getElem? (i := 8) rfl)) (fun _ h9 => h9) rfl (tyX0_ok 12 (by decide)) rfl rfl (Nat.le_of_ble_eq_true rfl) (336+24*i+10) (own_b hi (by decide) (by decide)) (setB_12 hi) dX0_begin_38 (fun u9 H locs eu9 hP hS => ?_)
  obtain ⟨u38, e_u38⟩ : ∃ z, z = u9 := ⟨_, rfl⟩
  rw [← e_u38] at hP eu9
  have hF := bnd_s eu9 hF
  have hO := okW_up eu9 hO (by omega) (by omega)
  refine lv_aload_n hx hb dX0_begin_41 rfl (lv_at hl 0 rfl) ?_
  refine lv_iconst (v := 0) hx hb dX0_begin_42 (by decide) ?_
  refine pput hx hb hts inX0 tyX0 tyX0_ok nmX0 hown hK hP hA hS hw (j := 6+2*i) (by omega) (wcel_b hi) rfl 14 (by decide) (hts (.fieldLink RX0 40 "TileRunners$Body" "ticks" "I") (List.mem_of_getElem? (i := 9) rfl)) (fun _ h9 => h9) rfl (tyX0_ok 14 (by decide)) rfl rfl (Nat.le_of_ble_eq_true rfl) (336+24*i+21) (own_b hi (by decide) (by decide)) (setB_14 hi) dX0_begin_43 (fun u9 H locs eu9 hP hS => ?_)
  obtain ⟨u43, e_u43⟩ : ∃ z, z = u9 := ⟨_, rfl⟩
  rw [← e_u43] at hP eu9
  have hF := bnd_s eu9 hF
  have hO := okW_up eu9 hO (by omega) (by omega)
  refine lv_aload_n hx hb dX0_begin_46 rfl (lv_at hl 0 rfl) ?_
  refine va_callv (va_runV (As := []) (rest := []) ⟨hx, hb, hml, hown, hts⟩ (c0_calmDown l hA σ u43 w hw i hi hO) (cwV 0 hts gX0_begin_X0_calmDown rfl rfl rfl hd_X0_calmDownV ⟨Nat.le_of_ble_eq_true rfl, Nat.le_of_ble_eq_true rfl⟩) ⟨hp_blind, va_recv hK hP (ci := 2) (q0 := 18*w+(6+2*i)) rfl (c_b hw hi), hp_pre hK hN hP⟩ rfl rfl hl.1 rfl (lv_room (Nat.le_of_ble_eq_true rfl)) dX0_begin_47 ⟨Nat.zero_le _, Nat.zero_le _⟩) hS (fun _ _ h => h) (fun _ h => h) (fun u9 t H locs ht hvm hw9 hB hz1 hk1 hS => ?_)
  have hP := ho_at ht hB
  obtain ⟨eq47, ok9⟩ := hw9
  obtain ⟨u47, e_u47⟩ : ∃ z, z = u9 := ⟨_, rfl⟩
  rw [← e_u47] at hP eq47 ok9
  have hO := ok9
  have hF := bnd_s eq47 hF
  refine lv_iconst (v := 0) hx hb dX0_begin_50 (by decide) ?_
  refine lv_istore (lv' := [(5, .int 0), (0, .ref (ad (18*w+(6+2*i)))), (1, .int a), (2, .int b), (3, .int c1), (4, .int d)]) hx hb dX0_begin_51 hl (by decide) rfl (fun ls hl => ?_)
  have L53 : ∀ (n53 : Nat) (w5_53 : Int32) (u_53 : (Nat → Int32)) (H : Heap) (locs : List Loc) (ls : Array Slot), ((7 : Int32).toInt - w5_53.toInt).toNat < n53 → 0 ≤ w5_53 → okW u_53 → va_P D vwCl (pool G ad (va_up σ w u_53)) H → va_S (AA B0) s.heap H locs → lv_has ls 6 [(5, .int w5_53), (0, .ref (ad (18*w+(6+2*i)))), (2, .int b)] → f0_begin_L53 i b n53 w5_53 u_53 = FF → W p l e (headSpec wsX0_begin { frames := 1, cells := 0, slots := 0, locals := 20 }).room s m ([.ref (ad (18*w+(6+2*i))), .int a, .int b, .int c1, .int d] : List Value).toArray below meth c H locs 0 0 (MQ below (va_Qv (fun (z : Nat → Int32) => z = f0_begin u i a b c1 d ∧ okW z) (fun (z : Nat → Int32) => Ho D G ad (va_up σ w z)) (AA B0)) ([.ref (ad (18*w+(6+2*i))), .int a, .int b, .int c1, .int d] : List Value).toArray s 0 0 (AA B0)) (F0 m 53 ls []) := by
    intro n53
    induction n53 with
    | zero => intro w5_53 u_53 H locs ls hm; exact absurd hm (Nat.not_lt_zero _)
    | succ n53 ih53 =>
      intro w5_53 u_53 H locs ls hm53 h5 hO hP hS hl hF
      rw [f0_begin_L53] at hF
      refine lv_iload hx hb dX0_begin_53 (lv_at hl 0 rfl) ?_
      refine lv_bipush (v := 7) hx hb dX0_begin_55 (by decide) ?_
      refine lv_icmp_ge (tgt := 74) hx hb dX0_begin_57 (by decide) (fun c57 => ?_) (fun c57 => ?_)
      · have hF := ift c57 hF
        refine lv_aload_n hx hb dX0_begin_74 rfl (lv_at hl 1 rfl) ?_
        refine va_get (D := D) (ci := 2) (C := RX0) (T := TX0) (N := 16) hx hb hts inX0 hown hK hP (18*w+(6+2*i)) (c_b hw hi) rfl 15 (by decide) (hts (.fieldLink RX0 9 "TileRunners$Body" "statistics" "[I") (List.mem_of_getElem? (i := 10) rfl)) (fun _ h9 => h9) rfl dX0_begin_75 ?_
        refine lv_bipush (v := 6) hx hb dX0_begin_78 (by decide) ?_
        refine lv_iload_n hx hb dX0_begin_80 rfl (lv_at hl 2 rfl) ?_
        have hin9 : vp_in 6 7 := (vp_in_iff.mpr (by decide))
        refine past (n := 7) (o := 336+24*i+14) (t := 336+24*i+20) hx hb hK hP hA hS hw (j := 7+2*i) (by omega) (fun _ => wcel_s hi) (fun k9 hk9 => own_s hi hk9) hin9 rfl dX0_begin_81 (fun u9 H locs eu9 hP hS => ?_)
        have hlt9 := in_lt hin9
        obtain ⟨u81, e_u81⟩ : ∃ z, z = u9 := ⟨_, rfl⟩
        rw [← e_u81] at hP eu9
        have hF := bnd_s eu9 hF
        have hO := okW_up eu9 hO (by omega) (by omega)
        exact W.vret hx hb hr (fun t ht hW => ⟨⟨u81, rfl, ⟨hF.trans hFF, hO⟩, ho_of ht hP⟩, hS.F ht⟩) hS.2.2 dX0_begin_82
      · have hF := iff_ c57 hF
        have hi5 : vp_in w5_53 7 := in_n h5 (nle_lt c57) (by decide)
        refine lv_aload_n hx hb dX0_begin_60 rfl (lv_at hl 1 rfl) ?_
        refine va_get (D := D) (ci := 2) (C := RX0) (T := TX0) (N := 16) hx hb hts inX0 hown hK hP (18*w+(6+2*i)) (c_b hw hi) rfl 15 (by decide) (hts (.fieldLink RX0 9 "TileRunners$Body" "statistics" "[I") (List.mem_of_getElem? (i := 10) rfl)) (fun _ h9 => h9) rfl dX0_begin_61 ?_
        refine lv_iload hx hb dX0_begin_64 (lv_at hl 0 rfl) ?_
        refine lv_iconst (v := 0) hx hb dX0_begin_66 (by decide) ?_
        have hin9 : vp_in w5_53 7 := hi5
        refine past (n := 7) (o := 336+24*i+14) (t := 336+24*i+14+w5_53.toNatClampNeg) hx hb hK hP hA hS hw (j := 7+2*i) (by omega) (fun _ => wcel_s hi) (fun k9 hk9 => own_s hi hk9) hin9 rfl dX0_begin_67 (fun u9 H locs eu9 hP hS => ?_)
        have hlt9 := in_lt hin9
        obtain ⟨u67, e_u67⟩ : ∃ z, z = u9 := ⟨_, rfl⟩
        rw [← e_u67] at hP eu9
        have hF := bnd_s eu9 hF
        have hO := okW_up eu9 hO (by omega) (by omega)
        obtain ⟨v5_68, e_v5_68⟩ : ∃ z : Int32, z = w5_53 + 1 := ⟨_, rfl⟩
        have hF := bnd_s e_v5_68 hF
        refine lv_iinc (v := v5_68) (lv' := [(5, .int v5_68), (0, .ref (ad (18*w+(6+2*i)))), (2, .int b)]) hx hb dX0_begin_68 hl (k := 0) rfl (by rw [e_v5_68]; rfl) (by decide) rfl (fun ls hl => ?_)
        refine lv_goto (tgt := 53) hx hb dX0_begin_71 (by decide) ?_
        exact ih53 v5_68 u67 _ _ ls (ms_s (dec_up (nle_lt c57) e_v5_68) hm53) (inc_ge0 (nle_lt c57) h5 e_v5_68) hO hP hS (lv_sub hl [0, 1, 2] rfl) hF
  exact L53 BIG 0 u47 _ _ ls (big_up _ _) le0 hO hP hS (lv_sub hl [0, 1, 3] rfl) hF
theorem hd_X0_beginV : yX0_begin.cls = RX0 ∧ yX0_begin.cls ≠ "java/lang/invoke/MethodHandle" ∧ yX0_begin.cls ≠ "java/lang/invoke/VarHandle" ∧ (parseMethodDescriptor yX0_begin.desc).map (fun d => d.parameters.length) = some 4 := by decide +kernel
set_option maxHeartbeats 4000000 in
set_option maxRecDepth 100000 in
theorem c2_number (l : Launch) {D : va_G} {G : CY} {ad : Nat → Nat} {B0 : Nat} (hA : adOK B0 ad) (σ : Nat → Nat → Int32) (u : Nat → Int32) (w : Nat) (hw : w < 15) (i : Nat) (hi : i < 4) (a : Int32) : Met l yX2_number wsX2_number { frames := 0, cells := 0, slots := 0, locals := 0 } (va_Pc [.ref (ad (18*w+(14+i))), .int a] (Hp D G ad (va_up σ w u))) (va_Qi (fun (r : Int32) (_ : Unit) => r = f2_number u i a) (fun (_ : Unit) => Ho D G ad (va_up σ w u)) (AA B0)) 0 0 (AA B0) := by
  refine Met.ofW (cc := cX2_number) (maxL := 2) (ret := (some .int)) (by decide) rfl ?_
  intro p e s m args below meth c s₁ B hml hv
  obtain ⟨rfl, hP, hK, hN⟩ := hv
  have hx := B.exec
  have hb := B.bytes
  have hr := B.returns
  have hts := atoms_spec (ws := wsX2_number) B.pre
  have hown : s.vm.findClass RX2 = some m.cls := findClass_of_methodNamed B.named
  have hlocks := B.notSynchronized
  have inX2 : ∀ w ∈ wsX20, w ∈ wsX2_number := (fun w h => List.mem_cons_of_mem _ (List.mem_append_right _ h))
  have hP : va_P D vwCl (pool G ad (va_up σ w u)) s.heap := hP
  have hS : va_S (AA B0) s.heap s.heap [] := va_S.rf
  have hl := lv_entry ([.ref (ad (18*w+(14+i))), .int a]) (n := 2) (Nat.le_of_ble_eq_true rfl)
  rw [lg_entry_eq]
  generalize (lg_sl ([.ref (ad (18*w+(14+i))), .int a]) ++ List.replicate (2 - (lg_sl ([.ref (ad (18*w+(14+i))), .int a])).length) Slot.unset).toArray = ls at hl ⊢
  have hl : lv_has ls 2 [(0, .ref (ad (18*w+(14+i)))), (1, .int a)] := hl
  obtain ⟨FF, hFF⟩ : ∃ z, z = f2_number u i a := ⟨_, rfl⟩
  have hF := hFF.symm
  rw [f2_number] at hF
  refine lv_iload_n hx hb dX2_number_0 rfl (lv_at hl 1 rfl) ?_
  by_cases k1_0 : a = 0
  · have hF := ift k1_0 hF
    refine lv_tableIn (tgt := 36) hx hb dX2_number_1 (by rw [k1_0]; decide) (by rw [k1_0]; decide) (by rw [k1_0]; rfl) (by decide) ?_
    refine lv_aload_n hx hb dX2_number_36 rfl (lv_at hl 0 rfl) ?_
    refine va_get (D := D) (ci := 4) (C := RX2) (T := TX2) (N := 7) hx hb hts inX2 hown hK hP (18*w+(14+i)) (c_p hw hi) rfl 0 (by decide) (hts (.fieldLink RX2 7 "TileRunners$Platform" "x" "I") (List.mem_of_getElem? (i := 1) rfl)) (fun _ h9 => h9) rfl dX2_number_37 ?_
    exact W.iret (v := (u (432+8*i+0))) hx hb hr (fun t ht hW => ⟨⟨(u (432+8*i+0)), (), rfl, hF.trans hFF, ho_of ht hP⟩, hS.F ht⟩) hS.2.2 dX2_number_40
  have hF := iff_ k1_0 hF
  by_cases k1_1 : a = 1
  · have hF := ift k1_1 hF
    refine lv_tableIn (tgt := 41) hx hb dX2_number_1 (by rw [k1_1]; decide) (by rw [k1_1]; decide) (by rw [k1_1]; rfl) (by decide) ?_
    refine lv_aload_n hx hb dX2_number_41 rfl (lv_at hl 0 rfl) ?_
    refine va_get (D := D) (ci := 4) (C := RX2) (T := TX2) (N := 7) hx hb hts inX2 hown hK hP (18*w+(14+i)) (c_p hw hi) rfl 1 (by decide) (hts (.fieldLink RX2 13 "TileRunners$Platform" "y" "I") (List.mem_of_getElem? (i := 2) rfl)) (fun _ h9 => h9) rfl dX2_number_42 ?_
    exact W.iret (v := (u (432+8*i+1))) hx hb hr (fun t ht hW => ⟨⟨(u (432+8*i+1)), (), rfl, hF.trans hFF, ho_of ht hP⟩, hS.F ht⟩) hS.2.2 dX2_number_45
  have hF := iff_ k1_1 hF
  by_cases k1_2 : a = 2
  · have hF := ift k1_2 hF
    refine lv_tableIn (tgt := 46) hx hb dX2_number_1 (by rw [k1_2]; decide) (by rw [k1_2]; decide) (by rw [k1_2]; rfl) (by decide) ?_
    refine lv_aload_n hx hb dX2_number_46 rfl (lv_at hl 0 rfl) ?_
    refine va_get (D := D) (ci := 4) (C := RX2) (T := TX2) (N := 7) hx hb hts inX2 hown hK hP (18*w+(14+i)) (c_p hw hi) rfl 2 (by decide) (hts (.fieldLink RX2 16 "TileRunners$Platform" "width" "I") (List.mem_of_getElem? (i := 3) rfl)) (fun _ h9 => h9) rfl dX2_number_47 ?_
    exact W.iret (v := (u (432+8*i+2))) hx hb hr (fun t ht hW => ⟨⟨(u (432+8*i+2)), (), rfl, hF.trans hFF, ho_of ht hP⟩, hS.F ht⟩) hS.2.2 dX2_number_50
  have hF := iff_ k1_2 hF
  by_cases k1_3 : a = 3
  · have hF := ift k1_3 hF
    refine lv_tableIn (tgt := 51) hx hb dX2_number_1 (by rw [k1_3]; decide) (by rw [k1_3]; decide) (by rw [k1_3]; rfl) (by decide) ?_
    refine lv_aload_n hx hb dX2_number_51 rfl (lv_at hl 0 rfl) ?_
    refine va_get (D := D) (ci := 4) (C := RX2) (T := TX2) (N := 7) hx hb hts inX2 hown hK hP (18*w+(14+i)) (c_p hw hi) rfl 3 (by decide) (hts (.fieldLink RX2 19 "TileRunners$Platform" "dx" "I") (List.mem_of_getElem? (i := 4) rfl)) (fun _ h9 => h9) rfl dX2_number_52 ?_
    exact W.iret (v := (u (432+8*i+3))) hx hb hr (fun t ht hW => ⟨⟨(u (432+8*i+3)), (), rfl, hF.trans hFF, ho_of ht hP⟩, hS.F ht⟩) hS.2.2 dX2_number_55
  have hF := iff_ k1_3 hF
  by_cases k1_4 : a = 4
  · have hF := ift k1_4 hF
    refine lv_tableIn (tgt := 56) hx hb dX2_number_1 (by rw [k1_4]; decide) (by rw [k1_4]; decide) (by rw [k1_4]; rfl) (by decide) ?_
    refine lv_aload_n hx hb dX2_number_56 rfl (lv_at hl 0 rfl) ?_
    refine va_get (D := D) (ci := 4) (C := RX2) (T := TX2) (N := 7) hx hb hts inX2 hown hK hP (18*w+(14+i)) (c_p hw hi) rfl 4 (by decide) (hts (.fieldLink RX2 22 "TileRunners$Platform" "dy" "I") (List.mem_of_getElem? (i := 5) rfl)) (fun _ h9 => h9) rfl dX2_number_57 ?_
    exact W.iret (v := (u (432+8*i+4))) hx hb hr (fun t ht hW => ⟨⟨(u (432+8*i+4)), (), rfl, hF.trans hFF, ho_of ht hP⟩, hS.F ht⟩) hS.2.2 dX2_number_60
  have hF := iff_ k1_4 hF
  have hto1 : ∀ k : Int, 0 ≤ k → k ≤ 4 → ¬ a.toInt = k := by
    intro k h1 h2 h3
    have h4 : k = 0 ∨ k = 1 ∨ k = 2 ∨ k = 3 ∨ k = 4 := by omega
    rcases h4 with rfl | rfl | rfl | rfl | rfl
    · exact k1_0 ((Int32.toInt_inj (y := 0)).mp h3)
    · exact k1_1 ((Int32.toInt_inj (y := 1)).mp h3)
    · exact k1_2 ((Int32.toInt_inj (y := 2)).mp h3)
    · exact k1_3 ((Int32.toInt_inj (y := 3)).mp h3)
    · exact k1_4 ((Int32.toInt_inj (y := 4)).mp h3)
  refine lv_tableOut (tgt := 61) hx hb dX2_number_1 (tab_out 0 4 hto1) (by decide) ?_
  refine lv_aload_n hx hb dX2_number_61 rfl (lv_at hl 0 rfl) ?_
  refine va_get (D := D) (ci := 4) (C := RX2) (T := TX2) (N := 7) hx hb hts inX2 hown hK hP (18*w+(14+i)) (c_p hw hi) rfl 6 (by decide) (hts (.fieldLink RX2 28 "TileRunners$Platform" "ticksLeft" "I") (List.mem_of_getElem? (i := 6) rfl)) (fun _ h9 => h9) rfl dX2_number_62 ?_
  exact W.iret (v := (u (432+8*i+5))) hx hb hr (fun t ht hW => ⟨⟨(u (432+8*i+5)), (), rfl, hF.trans hFF, ho_of ht hP⟩, hS.F ht⟩) hS.2.2 dX2_number_65
theorem hd_X2_numberV : yX2_number.cls = RX2 ∧ yX2_number.cls ≠ "java/lang/invoke/MethodHandle" ∧ yX2_number.cls ≠ "java/lang/invoke/VarHandle" ∧ (parseMethodDescriptor yX2_number.desc).map (fun d => d.parameters.length) = some 1 := by decide +kernel
set_option maxHeartbeats 4000000 in
set_option maxRecDepth 100000 in
theorem c2_isTopOf (l : Launch) {D : va_G} {G : CY} {ad : Nat → Nat} {B0 : Nat} (hA : adOK B0 ad) (σ : Nat → Nat → Int32) (u : Nat → Int32) (w : Nat) (hw : w < 15) (i : Nat) (hi : i < 4) (a : Int32) (b : Int32) : Met l yX2_isTopOf wsX2_isTopOf { frames := 1, cells := 0, slots := 0, locals := 22 } (va_Pc [.ref (ad (18*w+(14+i))), .int a, .int b] (Hp D G ad (va_up σ w u))) (va_Qi (fun (r : Int32) (_ : Unit) => r = f2_isTopOf u i a b ∧ bl r) (fun (_ : Unit) => Ho D G ad (va_up σ w u)) (AA B0)) 0 0 (AA B0) := by
  refine Met.ofW (cc := cX2_isTopOf) (maxL := 3) (ret := (some .boolean)) (by decide) rfl ?_
  intro p e s m args below meth c s₁ B hml hv
  obtain ⟨rfl, hP, hK, hN⟩ := hv
  have hx := B.exec
  have hb := B.bytes
  have hr := B.returns
  have hts := atoms_spec (ws := wsX2_isTopOf) B.pre
  have hown : s.vm.findClass RX2 = some m.cls := findClass_of_methodNamed B.named
  have hlocks := B.notSynchronized
  have inX2 : ∀ w ∈ wsX20, w ∈ wsX2_isTopOf := (fun w h => List.mem_cons_of_mem _ (List.mem_append_right _ h))
  have hP : va_P D vwCl (pool G ad (va_up σ w u)) s.heap := hP
  have hS : va_S (AA B0) s.heap s.heap [] := va_S.rf
  have hl := lv_entry ([.ref (ad (18*w+(14+i))), .int a, .int b]) (n := 3) (Nat.le_of_ble_eq_true rfl)
  rw [lg_entry_eq]
  generalize (lg_sl ([.ref (ad (18*w+(14+i))), .int a, .int b]) ++ List.replicate (3 - (lg_sl ([.ref (ad (18*w+(14+i))), .int a, .int b])).length) Slot.unset).toArray = ls at hl ⊢
  have hl : lv_has ls 3 [(0, .ref (ad (18*w+(14+i)))), (1, .int a), (2, .int b)] := hl
  obtain ⟨FF, hFF⟩ : ∃ z, z = f2_isTopOf u i a b := ⟨_, rfl⟩
  have hF := hFF.symm
  rw [f2_isTopOf] at hF
  refine lv_aload_n hx hb dX2_isTopOf_0 rfl (lv_at hl 0 rfl) ?_
  refine va_get (D := D) (ci := 4) (C := RX2) (T := TX2) (N := 7) hx hb hts inX2 hown hK hP (18*w+(14+i)) (c_p hw hi) rfl 1 (by decide) (hts (.fieldLink RX2 13 "TileRunners$Platform" "y" "I") (List.mem_of_getElem? (i := 1) rfl)) (fun _ h9 => h9) rfl dX2_isTopOf_1 ?_
  refine lv_iconst (v := 1) hx hb dX2_isTopOf_4 (by decide) ?_
  refine lv_isub hx hb dX2_isTopOf_5 ?_
  refine lv_iload_n hx hb dX2_isTopOf_6 rfl (lv_at hl 2 rfl) ?_
  refine lv_icmp_ne (tgt := 36) hx hb dX2_isTopOf_7 (by decide) (fun c7 => ?_) (fun c7 => ?_)
  · have hF := iff_ c7 hF
    refine lv_iconst (v := 0) hx hb dX2_isTopOf_36 (by decide) ?_
    exact W.zret (v := 0) hx hb hr (bl_nar bl0) (fun t ht hW => ⟨⟨0, (), rfl, ⟨hF.trans hFF, bl0⟩, ho_of ht hP⟩, hS.F ht⟩) hS.2.2 dX2_isTopOf_37
  · have hF := ift c7 hF
    refine lv_iload_n hx hb dX2_isTopOf_10 rfl (lv_at hl 1 rfl) ?_
    refine lv_aload_n hx hb dX2_isTopOf_11 rfl (lv_at hl 0 rfl) ?_
    refine va_get (D := D) (ci := 4) (C := RX2) (T := TX2) (N := 7) hx hb hts inX2 hown hK hP (18*w+(14+i)) (c_p hw hi) rfl 0 (by decide) (hts (.fieldLink RX2 7 "TileRunners$Platform" "x" "I") (List.mem_of_getElem? (i := 2) rfl)) (fun _ h9 => h9) rfl dX2_isTopOf_12 ?_
    refine lv_aload_n hx hb dX2_isTopOf_15 rfl (lv_at hl 0 rfl) ?_
    refine va_get (D := D) (ci := 4) (C := RX2) (T := TX2) (N := 7) hx hb hts inX2 hown hK hP (18*w+(14+i)) (c_p hw hi) rfl 0 (by decide) (hts (.fieldLink RX2 7 "TileRunners$Platform" "x" "I") (List.mem_of_getElem? (i := 2) rfl)) (fun _ h9 => h9) rfl dX2_isTopOf_16 ?_
    refine lv_aload_n hx hb dX2_isTopOf_19 rfl (lv_at hl 0 rfl) ?_
    refine va_get (D := D) (ci := 4) (C := RX2) (T := TX2) (N := 7) hx hb hts inX2 hown hK hP (18*w+(14+i)) (c_p hw hi) rfl 2 (by decide) (hts (.fieldLink RX2 16 "TileRunners$Platform" "width" "I") (List.mem_of_getElem? (i := 3) rfl)) (fun _ h9 => h9) rfl dX2_isTopOf_20 ?_
    refine lv_iadd hx hb dX2_isTopOf_23 ?_
    refine lv_iconst (v := 1) hx hb dX2_isTopOf_24 (by decide) ?_
    refine lv_isub hx hb dX2_isTopOf_25 ?_
    refine va_calli (va_runSN (As := [.int a, .int (u (432+8*i+0)), .int (((u (432+8*i+0)) + (u (432+8*i+2))) - 1)]) (rest := []) ⟨hx, hb, hml, hown, hts⟩ (c6_isWithin l hA (va_up σ w u) a (u (432+8*i+0)) (((u (432+8*i+0)) + (u (432+8*i+2))) - 1) ) ⟨va_cnB 3 hts gX2_isTopOf_X6_isWithin_n38 rfl rfl rfl hN.2.2.2.2 (hts _ (List.mem_of_getElem? (i := 5) rfl)) hd_X6_isWithinS ⟨Nat.le_of_ble_eq_true rfl, Nat.le_of_ble_eq_true rfl⟩, hts _ (List.mem_of_getElem? (i := 4) rfl), trivial⟩ ⟨hp_blind, hp_pre hK hN hP⟩ rfl rfl hl.1 rfl (lv_room (Nat.le_of_ble_eq_true rfl)) dX2_isTopOf_26 ⟨Nat.zero_le _, Nat.zero_le _⟩) hS (fun _ _ h => h) (fun _ h => h) (fun r26 _ t H locs ht hvm hw9 hB hz1 hk1 hS => ?_)
    have hP := ho_at ht hB
    obtain ⟨eq26, hb_r26⟩ := hw9
    have hF := bnd_s eq26 hF
    refine lv_if_eq (tgt := 36) hx hb dX2_isTopOf_29 (by decide) (fun c29 => ?_) (fun c29 => ?_)
    · have hF := ift c29 hF
      refine lv_iconst (v := 0) hx hb dX2_isTopOf_36 (by decide) ?_
      exact W.zret (v := 0) hx hb hr (bl_nar bl0) (fun t ht hW => ⟨⟨0, (), rfl, ⟨hF.trans hFF, bl0⟩, ho_of ht hP⟩, hS.F ht⟩) hS.2.2 dX2_isTopOf_37
    · have hF := iff_ c29 hF
      refine lv_iconst (v := 1) hx hb dX2_isTopOf_32 (by decide) ?_
      refine lv_goto (tgt := 37) hx hb dX2_isTopOf_33 (by decide) ?_
      exact W.zret (v := 1) hx hb hr (bl_nar bl1) (fun t ht hW => ⟨⟨1, (), rfl, ⟨hF.trans hFF, bl1⟩, ho_of ht hP⟩, hS.F ht⟩) hS.2.2 dX2_isTopOf_37
theorem hd_X2_isTopOfV : yX2_isTopOf.cls = RX2 ∧ yX2_isTopOf.cls ≠ "java/lang/invoke/MethodHandle" ∧ yX2_isTopOf.cls ≠ "java/lang/invoke/VarHandle" ∧ (parseMethodDescriptor yX2_isTopOf.desc).map (fun d => d.parameters.length) = some 2 := by decide +kernel
set_option maxHeartbeats 4000000 in
set_option maxRecDepth 100000 in
theorem c2_isUnder (l : Launch) {D : va_G} {G : CY} {ad : Nat → Nat} {B0 : Nat} (hA : adOK B0 ad) (σ : Nat → Nat → Int32) (u : Nat → Int32) (w : Nat) (hw : w < 15) (i : Nat) (hi : i < 4) (j : Nat) (hj : j < 4) (a : Int32) (b : Int32) : Met l yX2_isUnder wsX2_isUnder { frames := 0, cells := 0, slots := 0, locals := 0 } (va_Pc [.ref (ad (18*w+(14+i))), .ref (ad (18*w+(6+2*j))), .int a, .int b] (Hp D G ad (va_up σ w u))) (va_Qi (fun (r : Int32) (_ : Unit) => r = f2_isUnder u i j a b ∧ bl r) (fun (_ : Unit) => Ho D G ad (va_up σ w u)) (AA B0)) 0 0 (AA B0) := by
  refine Met.ofW (cc := cX2_isUnder) (maxL := 4) (ret := (some .boolean)) (by decide) rfl ?_
  intro p e s m args below meth c s₁ B hml hv
  obtain ⟨rfl, hP, hK, hN⟩ := hv
  have hx := B.exec
  have hb := B.bytes
  have hr := B.returns
  have hts := atoms_spec (ws := wsX2_isUnder) B.pre
  have hown : s.vm.findClass RX2 = some m.cls := findClass_of_methodNamed B.named
  have hlocks := B.notSynchronized
  have inX0 : ∀ w ∈ wsX00, w ∈ wsX2_isUnder := (fun w h => List.mem_cons_of_mem _ (List.mem_append_right _ h))
  have inX2 : ∀ w ∈ wsX20, w ∈ wsX2_isUnder := (fun w h => List.mem_cons_of_mem _ (List.mem_append_left _ (List.mem_append_right _ h)))
  have hP : va_P D vwCl (pool G ad (va_up σ w u)) s.heap := hP
  have hS : va_S (AA B0) s.heap s.heap [] := va_S.rf
  have hl := lv_entry ([.ref (ad (18*w+(14+i))), .ref (ad (18*w+(6+2*j))), .int a, .int b]) (n := 4) (Nat.le_of_ble_eq_true rfl)
  rw [lg_entry_eq]
  generalize (lg_sl ([.ref (ad (18*w+(14+i))), .ref (ad (18*w+(6+2*j))), .int a, .int b]) ++ List.replicate (4 - (lg_sl ([.ref (ad (18*w+(14+i))), .ref (ad (18*w+(6+2*j))), .int a, .int b])).length) Slot.unset).toArray = ls at hl ⊢
  have hl : lv_has ls 4 [(0, .ref (ad (18*w+(14+i)))), (1, .ref (ad (18*w+(6+2*j)))), (2, .int a), (3, .int b)] := hl
  obtain ⟨FF, hFF⟩ : ∃ z, z = f2_isUnder u i j a b := ⟨_, rfl⟩
  have hF := hFF.symm
  rw [f2_isUnder] at hF
  refine lv_aload_n hx hb dX2_isUnder_0 rfl (lv_at hl 0 rfl) ?_
  refine va_get (D := D) (ci := 4) (C := RX2) (T := TX2) (N := 7) hx hb hts inX2 hown hK hP (18*w+(14+i)) (c_p hw hi) rfl 1 (by decide) (hts (.fieldLink RX2 13 "TileRunners$Platform" "y" "I") (List.mem_of_getElem? (i := 1) rfl)) (fun _ h9 => h9) rfl dX2_isUnder_1 ?_
  refine lv_iload_n hx hb dX2_isUnder_4 rfl (lv_at hl 3 rfl) ?_
  refine lv_icmp_ne (tgt := 38) hx hb dX2_isUnder_5 (by decide) (fun c5 => ?_) (fun c5 => ?_)
  · have hF := iff_ c5 hF
    refine lv_iconst (v := 0) hx hb dX2_isUnder_38 (by decide) ?_
    exact W.zret (v := 0) hx hb hr (bl_nar bl0) (fun t ht hW => ⟨⟨0, (), rfl, ⟨hF.trans hFF, bl0⟩, ho_of ht hP⟩, hS.F ht⟩) hS.2.2 dX2_isUnder_39
  · have hF := ift c5 hF
    refine lv_iload_n hx hb dX2_isUnder_8 rfl (lv_at hl 2 rfl) ?_
    refine lv_aload_n hx hb dX2_isUnder_9 rfl (lv_at hl 0 rfl) ?_
    refine va_get (D := D) (ci := 4) (C := RX2) (T := TX2) (N := 7) hx hb hts inX2 hown hK hP (18*w+(14+i)) (c_p hw hi) rfl 0 (by decide) (hts (.fieldLink RX2 7 "TileRunners$Platform" "x" "I") (List.mem_of_getElem? (i := 2) rfl)) (fun _ h9 => h9) rfl dX2_isUnder_10 ?_
    refine lv_aload_n hx hb dX2_isUnder_13 rfl (lv_at hl 0 rfl) ?_
    refine va_get (D := D) (ci := 4) (C := RX2) (T := TX2) (N := 7) hx hb hts inX2 hown hK hP (18*w+(14+i)) (c_p hw hi) rfl 2 (by decide) (hts (.fieldLink RX2 16 "TileRunners$Platform" "width" "I") (List.mem_of_getElem? (i := 3) rfl)) (fun _ h9 => h9) rfl dX2_isUnder_14 ?_
    refine lv_iadd hx hb dX2_isUnder_17 ?_
    refine lv_icmp_ge (tgt := 38) hx hb dX2_isUnder_18 (by decide) (fun c18 => ?_) (fun c18 => ?_)
    · have hF := ift c18 hF
      refine lv_iconst (v := 0) hx hb dX2_isUnder_38 (by decide) ?_
      exact W.zret (v := 0) hx hb hr (bl_nar bl0) (fun t ht hW => ⟨⟨0, (), rfl, ⟨hF.trans hFF, bl0⟩, ho_of ht hP⟩, hS.F ht⟩) hS.2.2 dX2_isUnder_39
    · have hF := iff_ c18 hF
      refine lv_aload_n hx hb dX2_isUnder_21 rfl (lv_at hl 0 rfl) ?_
      refine va_get (D := D) (ci := 4) (C := RX2) (T := TX2) (N := 7) hx hb hts inX2 hown hK hP (18*w+(14+i)) (c_p hw hi) rfl 0 (by decide) (hts (.fieldLink RX2 7 "TileRunners$Platform" "x" "I") (List.mem_of_getElem? (i := 2) rfl)) (fun _ h9 => h9) rfl dX2_isUnder_22 ?_
      refine lv_iload_n hx hb dX2_isUnder_25 rfl (lv_at hl 2 rfl) ?_
      refine lv_aload_n hx hb dX2_isUnder_26 rfl (lv_at hl 1 rfl) ?_
      refine va_get (D := D) (ci := 2) (C := RX0) (T := TX0) (N := 16) hx hb hts inX0 hown hK hP (18*w+(6+2*j)) (c_b hw hj) rfl 2 (by decide) (hts (.fieldLink RX2 35 "TileRunners$Body" "width" "I") (List.mem_of_getElem? (i := 4) rfl)) (fun _ h9 => h9) rfl dX2_isUnder_27 ?_
      refine lv_iadd hx hb dX2_isUnder_30 ?_
      refine lv_icmp_ge (tgt := 38) hx hb dX2_isUnder_31 (by decide) (fun c31 => ?_) (fun c31 => ?_)
      · have hF := ift c31 hF
        refine lv_iconst (v := 0) hx hb dX2_isUnder_38 (by decide) ?_
        exact W.zret (v := 0) hx hb hr (bl_nar bl0) (fun t ht hW => ⟨⟨0, (), rfl, ⟨hF.trans hFF, bl0⟩, ho_of ht hP⟩, hS.F ht⟩) hS.2.2 dX2_isUnder_39
      · have hF := iff_ c31 hF
        refine lv_iconst (v := 1) hx hb dX2_isUnder_34 (by decide) ?_
        refine lv_goto (tgt := 39) hx hb dX2_isUnder_35 (by decide) ?_
        exact W.zret (v := 1) hx hb hr (bl_nar bl1) (fun t ht hW => ⟨⟨1, (), rfl, ⟨hF.trans hFF, bl1⟩, ho_of ht hP⟩, hS.F ht⟩) hS.2.2 dX2_isUnder_39
theorem hd_X2_isUnderV : yX2_isUnder.cls = RX2 ∧ yX2_isUnder.cls ≠ "java/lang/invoke/MethodHandle" ∧ yX2_isUnder.cls ≠ "java/lang/invoke/VarHandle" ∧ (parseMethodDescriptor yX2_isUnder.desc).map (fun d => d.parameters.length) = some 3 := by decide +kernel
set_option maxHeartbeats 4000000 in
set_option maxRecDepth 100000 in
theorem c2_begin (l : Launch) {D : va_G} {G : CY} {ad : Nat → Nat} {B0 : Nat} (hA : adOK B0 ad) (σ : Nat → Nat → Int32) (u : Nat → Int32) (w : Nat) (hw : w < 15) (i : Nat) (hi : i < 4) (a : Int32) (b : Int32) (c1 : Int32) (d : Int32) (e1 : Int32) (f1 : Int32) (hO : okW u) : Met l yX2_begin wsX2_begin { frames := 0, cells := 0, slots := 0, locals := 0 } (va_Pc [.ref (ad (18*w+(14+i))), .int a, .int b, .int c1, .int d, .int e1, .int f1] (Hp D G ad (va_up σ w u))) (va_Qv (fun (z : Nat → Int32) => z = f2_begin u i a b c1 d e1 f1 ∧ okW z) (fun (z : Nat → Int32) => Ho D G ad (va_up σ w z)) (AA B0)) 0 0 (AA B0) := by
  refine Met.ofW (cc := cX2_begin) (maxL := 7) (ret := none) (by decide) rfl ?_
  intro p e s m args below meth c s₁ B hml hv
  obtain ⟨rfl, hP, hK, hN⟩ := hv
  have hx := B.exec
  have hb := B.bytes
  have hr := B.returns
  have hts := atoms_spec (ws := wsX2_begin) B.pre
  have hown : s.vm.findClass RX2 = some m.cls := findClass_of_methodNamed B.named
  have hlocks := B.notSynchronized
  have inX2 : ∀ w ∈ wsX20, w ∈ wsX2_begin := (fun w h => List.mem_cons_of_mem _ (List.mem_append_right _ h))
  have hP : va_P D vwCl (pool G ad (va_up σ w u)) s.heap := hP
  have hS : va_S (AA B0) s.heap s.heap [] := va_S.rf
  have hl := lv_entry ([.ref (ad (18*w+(14+i))), .int a, .int b, .int c1, .int d, .int e1, .int f1]) (n := 7) (Nat.le_of_ble_eq_true rfl)
  rw [lg_entry_eq]
  generalize (lg_sl ([.ref (ad (18*w+(14+i))), .int a, .int b, .int c1, .int d, .int e1, .int f1]) ++ List.replicate (7 - (lg_sl ([.ref (ad (18*w+(14+i))), .int a, .int b, .int c1, .int d, .int e1, .int f1])).length) Slot.unset).toArray = ls at hl ⊢
  have hl : lv_has ls 7 [(0, .ref (ad (18*w+(14+i)))), (1, .int a), (2, .int b), (3, .int c1), (4, .int d), (5, .int e1), (6, .int f1)] := hl
  obtain ⟨FF, hFF⟩ : ∃ z, z = f2_begin u i a b c1 d e1 f1 := ⟨_, rfl⟩
  have hF := hFF.symm
  rw [f2_begin] at hF
  refine lv_aload_n hx hb dX2_begin_0 rfl (lv_at hl 0 rfl) ?_
  refine lv_iload_n hx hb dX2_begin_1 rfl (lv_at hl 1 rfl) ?_
  refine pput hx hb hts inX2 tyX2 tyX2_ok nmX2 hown hK hP hA hS hw (j := 14+i) (by omega) wcel_p rfl 0 (by decide) (hts (.fieldLink RX2 7 "TileRunners$Platform" "x" "I") (List.mem_of_getElem? (i := 1) rfl)) (fun _ h9 => h9) rfl (tyX2_ok 0 (by decide)) rfl rfl (Nat.le_of_ble_eq_true rfl) (432+8*i+0) (own_p hi (by decide)) (setP_0) dX2_begin_2 (fun u9 H locs eu9 hP hS => ?_)
  obtain ⟨u2, e_u2⟩ : ∃ z, z = u9 := ⟨_, rfl⟩
  rw [← e_u2] at hP eu9
  have hF := bnd_s eu9 hF
  have hO := okW_up eu9 hO (by omega) (by omega)
  refine lv_aload_n hx hb dX2_begin_5 rfl (lv_at hl 0 rfl) ?_
  refine lv_iload_n hx hb dX2_begin_6 rfl (lv_at hl 2 rfl) ?_
  refine pput hx hb hts inX2 tyX2 tyX2_ok nmX2 hown hK hP hA hS hw (j := 14+i) (by omega) wcel_p rfl 1 (by decide) (hts (.fieldLink RX2 13 "TileRunners$Platform" "y" "I") (List.mem_of_getElem? (i := 2) rfl)) (fun _ h9 => h9) rfl (tyX2_ok 1 (by decide)) rfl rfl (Nat.le_of_ble_eq_true rfl) (432+8*i+1) (own_p hi (by decide)) (setP_1) dX2_begin_7 (fun u9 H locs eu9 hP hS => ?_)
  obtain ⟨u7, e_u7⟩ : ∃ z, z = u9 := ⟨_, rfl⟩
  rw [← e_u7] at hP eu9
  have hF := bnd_s eu9 hF
  have hO := okW_up eu9 hO (by omega) (by omega)
  refine lv_aload_n hx hb dX2_begin_10 rfl (lv_at hl 0 rfl) ?_
  refine lv_iload_n hx hb dX2_begin_11 rfl (lv_at hl 3 rfl) ?_
  refine pput hx hb hts inX2 tyX2 tyX2_ok nmX2 hown hK hP hA hS hw (j := 14+i) (by omega) wcel_p rfl 2 (by decide) (hts (.fieldLink RX2 16 "TileRunners$Platform" "width" "I") (List.mem_of_getElem? (i := 3) rfl)) (fun _ h9 => h9) rfl (tyX2_ok 2 (by decide)) rfl rfl (Nat.le_of_ble_eq_true rfl) (432+8*i+2) (own_p hi (by decide)) (setP_2) dX2_begin_12 (fun u9 H locs eu9 hP hS => ?_)
  obtain ⟨u12, e_u12⟩ : ∃ z, z = u9 := ⟨_, rfl⟩
  rw [← e_u12] at hP eu9
  have hF := bnd_s eu9 hF
  have hO := okW_up eu9 hO (by omega) (by omega)
  refine lv_aload_n hx hb dX2_begin_15 rfl (lv_at hl 0 rfl) ?_
  refine lv_iload hx hb dX2_begin_16 (lv_at hl 4 rfl) ?_
  refine pput hx hb hts inX2 tyX2 tyX2_ok nmX2 hown hK hP hA hS hw (j := 14+i) (by omega) wcel_p rfl 3 (by decide) (hts (.fieldLink RX2 19 "TileRunners$Platform" "dx" "I") (List.mem_of_getElem? (i := 4) rfl)) (fun _ h9 => h9) rfl (tyX2_ok 3 (by decide)) rfl rfl (Nat.le_of_ble_eq_true rfl) (432+8*i+3) (own_p hi (by decide)) (setP_3) dX2_begin_18 (fun u9 H locs eu9 hP hS => ?_)
  obtain ⟨u18, e_u18⟩ : ∃ z, z = u9 := ⟨_, rfl⟩
  rw [← e_u18] at hP eu9
  have hF := bnd_s eu9 hF
  have hO := okW_up eu9 hO (by omega) (by omega)
  refine lv_aload_n hx hb dX2_begin_21 rfl (lv_at hl 0 rfl) ?_
  refine lv_iload hx hb dX2_begin_22 (lv_at hl 5 rfl) ?_
  refine pput hx hb hts inX2 tyX2 tyX2_ok nmX2 hown hK hP hA hS hw (j := 14+i) (by omega) wcel_p rfl 4 (by decide) (hts (.fieldLink RX2 22 "TileRunners$Platform" "dy" "I") (List.mem_of_getElem? (i := 5) rfl)) (fun _ h9 => h9) rfl (tyX2_ok 4 (by decide)) rfl rfl (Nat.le_of_ble_eq_true rfl) (432+8*i+4) (own_p hi (by decide)) (setP_4) dX2_begin_24 (fun u9 H locs eu9 hP hS => ?_)
  obtain ⟨u24, e_u24⟩ : ∃ z, z = u9 := ⟨_, rfl⟩
  rw [← e_u24] at hP eu9
  have hF := bnd_s eu9 hF
  have hO := okW_up eu9 hO (by omega) (by omega)
  refine lv_aload_n hx hb dX2_begin_27 rfl (lv_at hl 0 rfl) ?_
  refine lv_iload hx hb dX2_begin_28 (lv_at hl 6 rfl) ?_
  refine pput hx hb hts inX2 tyX2 tyX2_ok nmX2 hown hK hP hA hS hw (j := 14+i) (by omega) wcel_p rfl 5 (by decide) (hts (.fieldLink RX2 25 "TileRunners$Platform" "range" "I") (List.mem_of_getElem? (i := 6) rfl)) (fun _ h9 => h9) rfl (tyX2_ok 5 (by decide)) rfl rfl (Nat.le_of_ble_eq_true rfl) (432+8*i+6) (own_p hi (by decide)) (setP_5) dX2_begin_30 (fun u9 H locs eu9 hP hS => ?_)
  obtain ⟨u30, e_u30⟩ : ∃ z, z = u9 := ⟨_, rfl⟩
  rw [← e_u30] at hP eu9
  have hF := bnd_s eu9 hF
  have hO := okW_up eu9 hO (by omega) (by omega)
  refine lv_aload_n hx hb dX2_begin_33 rfl (lv_at hl 0 rfl) ?_
  refine lv_iload hx hb dX2_begin_34 (lv_at hl 6 rfl) ?_
  refine pput hx hb hts inX2 tyX2 tyX2_ok nmX2 hown hK hP hA hS hw (j := 14+i) (by omega) wcel_p rfl 6 (by decide) (hts (.fieldLink RX2 28 "TileRunners$Platform" "ticksLeft" "I") (List.mem_of_getElem? (i := 7) rfl)) (fun _ h9 => h9) rfl (tyX2_ok 6 (by decide)) rfl rfl (Nat.le_of_ble_eq_true rfl) (432+8*i+5) (own_p hi (by decide)) (setP_6) dX2_begin_36 (fun u9 H locs eu9 hP hS => ?_)
  obtain ⟨u36, e_u36⟩ : ∃ z, z = u9 := ⟨_, rfl⟩
  rw [← e_u36] at hP eu9
  have hF := bnd_s eu9 hF
  have hO := okW_up eu9 hO (by omega) (by omega)
  exact W.vret hx hb hr (fun t ht hW => ⟨⟨u36, rfl, ⟨hF.trans hFF, hO⟩, ho_of ht hP⟩, hS.F ht⟩) hS.2.2 dX2_begin_39
theorem hd_X2_beginV : yX2_begin.cls = RX2 ∧ yX2_begin.cls ≠ "java/lang/invoke/MethodHandle" ∧ yX2_begin.cls ≠ "java/lang/invoke/VarHandle" ∧ (parseMethodDescriptor yX2_begin.desc).map (fun d => d.parameters.length) = some 6 := by decide +kernel
set_option maxHeartbeats 4000000 in
set_option maxRecDepth 100000 in
theorem c2_move (l : Launch) {D : va_G} {G : CY} {ad : Nat → Nat} {B0 : Nat} (hA : adOK B0 ad) (σ : Nat → Nat → Int32) (u : Nat → Int32) (w : Nat) (hw : w < 15) (i : Nat) (hi : i < 4) (hO : okW u) : Met l yX2_move wsX2_move { frames := 0, cells := 0, slots := 0, locals := 0 } (va_Pc [.ref (ad (18*w+(14+i)))] (Hp D G ad (va_up σ w u))) (va_Qv (fun (z : Nat → Int32) => z = f2_move u i ∧ okW z) (fun (z : Nat → Int32) => Ho D G ad (va_up σ w z)) (AA B0)) 0 0 (AA B0) := by
  refine Met.ofW (cc := cX2_move) (maxL := 1) (ret := none) (by decide) rfl ?_
  intro p e s m args below meth c s₁ B hml hv
  obtain ⟨rfl, hP, hK, hN⟩ := hv
  have hx := B.exec
  have hb := B.bytes
  have hr := B.returns
  have hts := atoms_spec (ws := wsX2_move) B.pre
  have hown : s.vm.findClass RX2 = some m.cls := findClass_of_methodNamed B.named
  have hlocks := B.notSynchronized
  have inX2 : ∀ w ∈ wsX20, w ∈ wsX2_move := (fun w h => List.mem_cons_of_mem _ (List.mem_append_right _ h))
  have hP : va_P D vwCl (pool G ad (va_up σ w u)) s.heap := hP
  have hS : va_S (AA B0) s.heap s.heap [] := va_S.rf
  have hl := lv_entry ([.ref (ad (18*w+(14+i)))]) (n := 1) (Nat.le_of_ble_eq_true rfl)
  rw [lg_entry_eq]
  generalize (lg_sl ([.ref (ad (18*w+(14+i)))]) ++ List.replicate (1 - (lg_sl ([.ref (ad (18*w+(14+i)))])).length) Slot.unset).toArray = ls at hl ⊢
  have hl : lv_has ls 1 [(0, .ref (ad (18*w+(14+i))))] := hl
  obtain ⟨FF, hFF⟩ : ∃ z, z = f2_move u i := ⟨_, rfl⟩
  have hF := hFF.symm
  rw [f2_move] at hF
  refine lv_aload_n hx hb dX2_move_0 rfl (lv_at hl 0 rfl) ?_
  refine lv_dup hx hb dX2_move_1 rfl ?_
  refine va_get (D := D) (ci := 4) (C := RX2) (T := TX2) (N := 7) hx hb hts inX2 hown hK hP (18*w+(14+i)) (c_p hw hi) rfl 0 (by decide) (hts (.fieldLink RX2 7 "TileRunners$Platform" "x" "I") (List.mem_of_getElem? (i := 1) rfl)) (fun _ h9 => h9) rfl dX2_move_2 ?_
  refine lv_aload_n hx hb dX2_move_5 rfl (lv_at hl 0 rfl) ?_
  refine va_get (D := D) (ci := 4) (C := RX2) (T := TX2) (N := 7) hx hb hts inX2 hown hK hP (18*w+(14+i)) (c_p hw hi) rfl 3 (by decide) (hts (.fieldLink RX2 19 "TileRunners$Platform" "dx" "I") (List.mem_of_getElem? (i := 2) rfl)) (fun _ h9 => h9) rfl dX2_move_6 ?_
  refine lv_iadd hx hb dX2_move_9 ?_
  refine pput hx hb hts inX2 tyX2 tyX2_ok nmX2 hown hK hP hA hS hw (j := 14+i) (by omega) wcel_p rfl 0 (by decide) (hts (.fieldLink RX2 7 "TileRunners$Platform" "x" "I") (List.mem_of_getElem? (i := 1) rfl)) (fun _ h9 => h9) rfl (tyX2_ok 0 (by decide)) rfl rfl (Nat.le_of_ble_eq_true rfl) (432+8*i+0) (own_p hi (by decide)) (setP_0) dX2_move_10 (fun u9 H locs eu9 hP hS => ?_)
  obtain ⟨u10, e_u10⟩ : ∃ z, z = u9 := ⟨_, rfl⟩
  rw [← e_u10] at hP eu9
  have hF := bnd_s eu9 hF
  have hO := okW_up eu9 hO (by omega) (by omega)
  refine lv_aload_n hx hb dX2_move_13 rfl (lv_at hl 0 rfl) ?_
  refine lv_dup hx hb dX2_move_14 rfl ?_
  refine va_get (D := D) (ci := 4) (C := RX2) (T := TX2) (N := 7) hx hb hts inX2 hown hK hP (18*w+(14+i)) (c_p hw hi) rfl 1 (by decide) (hts (.fieldLink RX2 13 "TileRunners$Platform" "y" "I") (List.mem_of_getElem? (i := 3) rfl)) (fun _ h9 => h9) rfl dX2_move_15 ?_
  refine lv_aload_n hx hb dX2_move_18 rfl (lv_at hl 0 rfl) ?_
  refine va_get (D := D) (ci := 4) (C := RX2) (T := TX2) (N := 7) hx hb hts inX2 hown hK hP (18*w+(14+i)) (c_p hw hi) rfl 4 (by decide) (hts (.fieldLink RX2 22 "TileRunners$Platform" "dy" "I") (List.mem_of_getElem? (i := 4) rfl)) (fun _ h9 => h9) rfl dX2_move_19 ?_
  refine lv_iadd hx hb dX2_move_22 ?_
  refine pput hx hb hts inX2 tyX2 tyX2_ok nmX2 hown hK hP hA hS hw (j := 14+i) (by omega) wcel_p rfl 1 (by decide) (hts (.fieldLink RX2 13 "TileRunners$Platform" "y" "I") (List.mem_of_getElem? (i := 3) rfl)) (fun _ h9 => h9) rfl (tyX2_ok 1 (by decide)) rfl rfl (Nat.le_of_ble_eq_true rfl) (432+8*i+1) (own_p hi (by decide)) (setP_1) dX2_move_23 (fun u9 H locs eu9 hP hS => ?_)
  obtain ⟨u23, e_u23⟩ : ∃ z, z = u9 := ⟨_, rfl⟩
  rw [← e_u23] at hP eu9
  have hF := bnd_s eu9 hF
  have hO := okW_up eu9 hO (by omega) (by omega)
  refine lv_aload_n hx hb dX2_move_26 rfl (lv_at hl 0 rfl) ?_
  refine lv_dup hx hb dX2_move_27 rfl ?_
  refine va_get (D := D) (ci := 4) (C := RX2) (T := TX2) (N := 7) hx hb hts inX2 hown hK hP (18*w+(14+i)) (c_p hw hi) rfl 6 (by decide) (hts (.fieldLink RX2 28 "TileRunners$Platform" "ticksLeft" "I") (List.mem_of_getElem? (i := 5) rfl)) (fun _ h9 => h9) rfl dX2_move_28 ?_
  refine lv_iconst (v := 1) hx hb dX2_move_31 (by decide) ?_
  refine lv_isub hx hb dX2_move_32 ?_
  refine pput hx hb hts inX2 tyX2 tyX2_ok nmX2 hown hK hP hA hS hw (j := 14+i) (by omega) wcel_p rfl 6 (by decide) (hts (.fieldLink RX2 28 "TileRunners$Platform" "ticksLeft" "I") (List.mem_of_getElem? (i := 5) rfl)) (fun _ h9 => h9) rfl (tyX2_ok 6 (by decide)) rfl rfl (Nat.le_of_ble_eq_true rfl) (432+8*i+5) (own_p hi (by decide)) (setP_6) dX2_move_33 (fun u9 H locs eu9 hP hS => ?_)
  obtain ⟨u33, e_u33⟩ : ∃ z, z = u9 := ⟨_, rfl⟩
  rw [← e_u33] at hP eu9
  have hF := bnd_s eu9 hF
  have hO := okW_up eu9 hO (by omega) (by omega)
  refine lv_aload_n hx hb dX2_move_36 rfl (lv_at hl 0 rfl) ?_
  refine va_get (D := D) (ci := 4) (C := RX2) (T := TX2) (N := 7) hx hb hts inX2 hown hK hP (18*w+(14+i)) (c_p hw hi) rfl 6 (by decide) (hts (.fieldLink RX2 28 "TileRunners$Platform" "ticksLeft" "I") (List.mem_of_getElem? (i := 5) rfl)) (fun _ h9 => h9) rfl dX2_move_37 ?_
  refine lv_if_gt (tgt := 69) hx hb dX2_move_40 (by decide) (fun c40 => ?_) (fun c40 => ?_)
  · have hF := ift c40 hF
    exact W.vret hx hb hr (fun t ht hW => ⟨⟨u33, rfl, ⟨hF.trans hFF, hO⟩, ho_of ht hP⟩, hS.F ht⟩) hS.2.2 dX2_move_69
  · have hF := iff_ c40 hF
    refine lv_aload_n hx hb dX2_move_43 rfl (lv_at hl 0 rfl) ?_
    refine lv_aload_n hx hb dX2_move_44 rfl (lv_at hl 0 rfl) ?_
    refine va_get (D := D) (ci := 4) (C := RX2) (T := TX2) (N := 7) hx hb hts inX2 hown hK hP (18*w+(14+i)) (c_p hw hi) rfl 3 (by decide) (hts (.fieldLink RX2 19 "TileRunners$Platform" "dx" "I") (List.mem_of_getElem? (i := 2) rfl)) (fun _ h9 => h9) rfl dX2_move_45 ?_
    refine lv_ineg hx hb dX2_move_48 ?_
    refine pput hx hb hts inX2 tyX2 tyX2_ok nmX2 hown hK hP hA hS hw (j := 14+i) (by omega) wcel_p rfl 3 (by decide) (hts (.fieldLink RX2 19 "TileRunners$Platform" "dx" "I") (List.mem_of_getElem? (i := 2) rfl)) (fun _ h9 => h9) rfl (tyX2_ok 3 (by decide)) rfl rfl (Nat.le_of_ble_eq_true rfl) (432+8*i+3) (own_p hi (by decide)) (setP_3) dX2_move_49 (fun u9 H locs eu9 hP hS => ?_)
    obtain ⟨u49, e_u49⟩ : ∃ z, z = u9 := ⟨_, rfl⟩
    rw [← e_u49] at hP eu9
    have hF := bnd_s eu9 hF
    have hO := okW_up eu9 hO (by omega) (by omega)
    refine lv_aload_n hx hb dX2_move_52 rfl (lv_at hl 0 rfl) ?_
    refine lv_aload_n hx hb dX2_move_53 rfl (lv_at hl 0 rfl) ?_
    refine va_get (D := D) (ci := 4) (C := RX2) (T := TX2) (N := 7) hx hb hts inX2 hown hK hP (18*w+(14+i)) (c_p hw hi) rfl 4 (by decide) (hts (.fieldLink RX2 22 "TileRunners$Platform" "dy" "I") (List.mem_of_getElem? (i := 4) rfl)) (fun _ h9 => h9) rfl dX2_move_54 ?_
    refine lv_ineg hx hb dX2_move_57 ?_
    refine pput hx hb hts inX2 tyX2 tyX2_ok nmX2 hown hK hP hA hS hw (j := 14+i) (by omega) wcel_p rfl 4 (by decide) (hts (.fieldLink RX2 22 "TileRunners$Platform" "dy" "I") (List.mem_of_getElem? (i := 4) rfl)) (fun _ h9 => h9) rfl (tyX2_ok 4 (by decide)) rfl rfl (Nat.le_of_ble_eq_true rfl) (432+8*i+4) (own_p hi (by decide)) (setP_4) dX2_move_58 (fun u9 H locs eu9 hP hS => ?_)
    obtain ⟨u58, e_u58⟩ : ∃ z, z = u9 := ⟨_, rfl⟩
    rw [← e_u58] at hP eu9
    have hF := bnd_s eu9 hF
    have hO := okW_up eu9 hO (by omega) (by omega)
    refine lv_aload_n hx hb dX2_move_61 rfl (lv_at hl 0 rfl) ?_
    refine lv_aload_n hx hb dX2_move_62 rfl (lv_at hl 0 rfl) ?_
    refine va_get (D := D) (ci := 4) (C := RX2) (T := TX2) (N := 7) hx hb hts inX2 hown hK hP (18*w+(14+i)) (c_p hw hi) rfl 5 (by decide) (hts (.fieldLink RX2 25 "TileRunners$Platform" "range" "I") (List.mem_of_getElem? (i := 6) rfl)) (fun _ h9 => h9) rfl dX2_move_63 ?_
    refine pput hx hb hts inX2 tyX2 tyX2_ok nmX2 hown hK hP hA hS hw (j := 14+i) (by omega) wcel_p rfl 6 (by decide) (hts (.fieldLink RX2 28 "TileRunners$Platform" "ticksLeft" "I") (List.mem_of_getElem? (i := 5) rfl)) (fun _ h9 => h9) rfl (tyX2_ok 6 (by decide)) rfl rfl (Nat.le_of_ble_eq_true rfl) (432+8*i+5) (own_p hi (by decide)) (setP_6) dX2_move_66 (fun u9 H locs eu9 hP hS => ?_)
    obtain ⟨u66, e_u66⟩ : ∃ z, z = u9 := ⟨_, rfl⟩
    rw [← e_u66] at hP eu9
    have hF := bnd_s eu9 hF
    have hO := okW_up eu9 hO (by omega) (by omega)
    exact W.vret hx hb hr (fun t ht hW => ⟨⟨u66, rfl, ⟨hF.trans hFF, hO⟩, ho_of ht hP⟩, hS.F ht⟩) hS.2.2 dX2_move_69
theorem hd_X2_moveV : yX2_move.cls = RX2 ∧ yX2_move.cls ≠ "java/lang/invoke/MethodHandle" ∧ yX2_move.cls ≠ "java/lang/invoke/VarHandle" ∧ (parseMethodDescriptor yX2_move.desc).map (fun d => d.parameters.length) = some 0 := by decide +kernel
set_option maxHeartbeats 4000000 in
set_option maxRecDepth 100000 in
theorem c4_kindAt (l : Launch) {D : va_G} {G : CY} {ad : Nat → Nat} {B0 : Nat} (hA : adOK B0 ad) (σ : Nat → Nat → Int32) (u : Nat → Int32) (w : Nat) (hw : w < 15) (a : Int32) (b : Int32) : Met l yX4_kindAt wsX4_kindAt { frames := 0, cells := 0, slots := 0, locals := 0 } (va_Pc [.ref (ad (18*w+1)), .int a, .int b] (Hp D G ad (va_up σ w u))) (va_Qi (fun (r : Int32) (_ : Unit) => r = f4_kindAt u a b) (fun (_ : Unit) => Ho D G ad (va_up σ w u)) (AA B0)) 0 0 (AA B0) := by
  refine Met.ofW (cc := cX4_kindAt) (maxL := 3) (ret := (some .int)) (by decide) rfl ?_
  intro p e s m args below meth c s₁ B hml hv
  obtain ⟨rfl, hP, hK, hN⟩ := hv
  have hx := B.exec
  have hb := B.bytes
  have hr := B.returns
  have hts := atoms_spec (ws := wsX4_kindAt) B.pre
  have hown : s.vm.findClass RX4 = some m.cls := findClass_of_methodNamed B.named
  have hlocks := B.notSynchronized
  have inX4 : ∀ w ∈ wsX40, w ∈ wsX4_kindAt := (fun w h => List.mem_cons_of_mem _ (List.mem_append_left _ (List.mem_append_right _ h)))
  have hP : va_P D vwCl (pool G ad (va_up σ w u)) s.heap := hP
  have hS : va_S (AA B0) s.heap s.heap [] := va_S.rf
  have hl := lv_entry ([.ref (ad (18*w+1)), .int a, .int b]) (n := 3) (Nat.le_of_ble_eq_true rfl)
  rw [lg_entry_eq]
  generalize (lg_sl ([.ref (ad (18*w+1)), .int a, .int b]) ++ List.replicate (3 - (lg_sl ([.ref (ad (18*w+1)), .int a, .int b])).length) Slot.unset).toArray = ls at hl ⊢
  have hl : lv_has ls 3 [(0, .ref (ad (18*w+1))), (1, .int a), (2, .int b)] := hl
  obtain ⟨FF, hFF⟩ : ∃ z, z = f4_kindAt u a b := ⟨_, rfl⟩
  have hF := hFF.symm
  rw [f4_kindAt] at hF
  refine lv_iload_n hx hb dX4_kindAt_0 rfl (lv_at hl 1 rfl) ?_
  refine lv_if_lt (tgt := 10) hx hb dX4_kindAt_1 (by decide) (fun c1 => ?_) (fun c1 => ?_)
  · have hF := ift c1 hF
    refine lv_iconst (v := 1) hx hb dX4_kindAt_10 (by decide) ?_
    exact W.iret (v := 1) hx hb hr (fun t ht hW => ⟨⟨1, (), rfl, hF.trans hFF, ho_of ht hP⟩, hS.F ht⟩) hS.2.2 dX4_kindAt_11
  · have hF := iff_ c1 hF
    refine lv_iload_n hx hb dX4_kindAt_4 rfl (lv_at hl 1 rfl) ?_
    refine lv_bipush (v := 24) hx hb dX4_kindAt_5 (by decide) ?_
    refine lv_icmp_lt (tgt := 12) hx hb dX4_kindAt_7 (by decide) (fun c7 => ?_) (fun c7 => ?_)
    · have hF := ift c7 hF
      refine lv_iload_n hx hb dX4_kindAt_12 rfl (lv_at hl 2 rfl) ?_
      refine lv_if_lt (tgt := 22) hx hb dX4_kindAt_13 (by decide) (fun c13 => ?_) (fun c13 => ?_)
      · have hF := ift c13 hF
        refine lv_iconst (v := 0) hx hb dX4_kindAt_22 (by decide) ?_
        exact W.iret (v := 0) hx hb hr (fun t ht hW => ⟨⟨0, (), rfl, hF.trans hFF, ho_of ht hP⟩, hS.F ht⟩) hS.2.2 dX4_kindAt_23
      · have hF := iff_ c13 hF
        refine lv_iload_n hx hb dX4_kindAt_16 rfl (lv_at hl 2 rfl) ?_
        refine lv_bipush (v := 14) hx hb dX4_kindAt_17 (by decide) ?_
        refine lv_icmp_lt (tgt := 24) hx hb dX4_kindAt_19 (by decide) (fun c19 => ?_) (fun c19 => ?_)
        · have hF := ift c19 hF
          refine lv_aload_n hx hb dX4_kindAt_24 rfl (lv_at hl 0 rfl) ?_
          refine va_get (D := D) (ci := 6) (C := RX4) (T := TX4) (N := 1) hx hb hts inX4 hown hK hP (18*w+1) (c_t hw) rfl 0 (by decide) (hts (.fieldLink RX4 9 "TileRunners$Tiles" "kinds" "[I") (List.mem_of_getElem? (i := 1) rfl)) (fun _ h9 => h9) rfl dX4_kindAt_25 ?_
          refine lv_iload_n hx hb dX4_kindAt_28 rfl (lv_at hl 2 rfl) ?_
          refine lv_bipush (v := 24) hx hb dX4_kindAt_29 (by decide) ?_
          refine lv_imul hx hb dX4_kindAt_31 ?_
          refine lv_iload_n hx hb dX4_kindAt_32 rfl (lv_at hl 1 rfl) ?_
          refine lv_iadd hx hb dX4_kindAt_33 ?_
          refine pald (n := 336) (o := 0) (t := ((b * 24) + a).toNatClampNeg) (i := ((b * 24) + a)) hx hb hK hP (c_k hw) (in_kidx c1 c7 c13 c19) (Nat.zero_add _) dX4_kindAt_34 ?_
          exact W.iret (v := (u (((b * 24) + a).toNatClampNeg))) hx hb hr (fun t ht hW => ⟨⟨(u (((b * 24) + a).toNatClampNeg)), (), rfl, hF.trans hFF, ho_of ht hP⟩, hS.F ht⟩) hS.2.2 dX4_kindAt_35
        · have hF := iff_ c19 hF
          refine lv_iconst (v := 0) hx hb dX4_kindAt_22 (by decide) ?_
          exact W.iret (v := 0) hx hb hr (fun t ht hW => ⟨⟨0, (), rfl, hF.trans hFF, ho_of ht hP⟩, hS.F ht⟩) hS.2.2 dX4_kindAt_23
    · have hF := iff_ c7 hF
      refine lv_iconst (v := 1) hx hb dX4_kindAt_10 (by decide) ?_
      exact W.iret (v := 1) hx hb hr (fun t ht hW => ⟨⟨1, (), rfl, hF.trans hFF, ho_of ht hP⟩, hS.F ht⟩) hS.2.2 dX4_kindAt_11
theorem hd_X4_kindAtV : yX4_kindAt.cls = RX4 ∧ yX4_kindAt.cls ≠ "java/lang/invoke/MethodHandle" ∧ yX4_kindAt.cls ≠ "java/lang/invoke/VarHandle" ∧ (parseMethodDescriptor yX4_kindAt.desc).map (fun d => d.parameters.length) = some 2 := by decide +kernel
set_option maxHeartbeats 4000000 in
set_option maxRecDepth 100000 in
theorem c4_surfaceAt (l : Launch) {D : va_G} {G : CY} {ad : Nat → Nat} {B0 : Nat} (hA : adOK B0 ad) (σ : Nat → Nat → Int32) (u : Nat → Int32) (w : Nat) (hw : w < 15) (a : Int32) (b : Int32) : Met l yX4_surfaceAt wsX4_surfaceAt { frames := 1, cells := 0, slots := 0, locals := 22 } (va_Pc [.ref (ad (18*w+1)), .int a, .int b] (Hp D G ad (va_up σ w u))) (va_Qi (fun (r : Int32) (_ : Unit) => r = f4_surfaceAt u a b) (fun (_ : Unit) => Ho D G ad (va_up σ w u)) (AA B0)) 0 0 (AA B0) := by
  refine Met.ofW (cc := cX4_surfaceAt) (maxL := 5) (ret := (some .int)) (by decide) rfl ?_
  intro p e s m args below meth c s₁ B hml hv
  obtain ⟨rfl, hP, hK, hN⟩ := hv
  have hx := B.exec
  have hb := B.bytes
  have hr := B.returns
  have hts := atoms_spec (ws := wsX4_surfaceAt) B.pre
  have hown : s.vm.findClass RX4 = some m.cls := findClass_of_methodNamed B.named
  have hlocks := B.notSynchronized
  have hP : va_P D vwCl (pool G ad (va_up σ w u)) s.heap := hP
  have hS : va_S (AA B0) s.heap s.heap [] := va_S.rf
  have hl := lv_entry ([.ref (ad (18*w+1)), .int a, .int b]) (n := 5) (Nat.le_of_ble_eq_true rfl)
  rw [lg_entry_eq]
  generalize (lg_sl ([.ref (ad (18*w+1)), .int a, .int b]) ++ List.replicate (5 - (lg_sl ([.ref (ad (18*w+1)), .int a, .int b])).length) Slot.unset).toArray = ls at hl ⊢
  have hl : lv_has ls 5 [(0, .ref (ad (18*w+1))), (1, .int a), (2, .int b)] := hl
  obtain ⟨FF, hFF⟩ : ∃ z, z = f4_surfaceAt u a b := ⟨_, rfl⟩
  have hF := hFF.symm
  rw [f4_surfaceAt] at hF
  refine lv_iload_n hx hb dX4_surfaceAt_0 rfl (lv_at hl 2 rfl) ?_
  refine lv_iconst (v := 4) hx hb dX4_surfaceAt_1 (by decide) ?_
  refine lv_ishr hx hb dX4_surfaceAt_2 ?_
  refine lv_topi (fun v3_3 e_v3_3 => ?_)
  have hF := bnd_s e_v3_3 hF
  refine lv_istore_n (lv' := [(3, .int v3_3), (0, .ref (ad (18*w+1))), (1, .int a), (2, .int b)]) hx hb dX4_surfaceAt_3 rfl hl (by decide) rfl (fun ls hl => ?_)
  refine lv_aload_n hx hb dX4_surfaceAt_4 rfl (lv_at hl 1 rfl) ?_
  refine lv_iload_n hx hb dX4_surfaceAt_5 rfl (lv_at hl 2 rfl) ?_
  refine lv_iconst (v := 4) hx hb dX4_surfaceAt_6 (by decide) ?_
  refine lv_ishr hx hb dX4_surfaceAt_7 ?_
  refine lv_iload_n hx hb dX4_surfaceAt_8 rfl (lv_at hl 0 rfl) ?_
  refine va_calli (va_runV (As := [.int (a >>> (4 &&& 31)), .int v3_3]) (rest := []) ⟨hx, hb, hml, hown, hts⟩ (c4_kindAt l hA σ u w hw (a >>> (4 &&& 31)) v3_3 ) (cwV 2 hts gX4_surfaceAt_X4_kindAt rfl rfl rfl hd_X4_kindAtV ⟨Nat.le_of_ble_eq_true rfl, Nat.le_of_ble_eq_true rfl⟩) ⟨hp_blind, va_recv hK hP (ci := 6) (q0 := 18*w+1) rfl (c_t hw), hp_pre hK hN hP⟩ rfl rfl hl.1 rfl (lv_room (Nat.le_of_ble_eq_true rfl)) dX4_surfaceAt_9 ⟨Nat.zero_le _, Nat.zero_le _⟩) hS (fun _ _ h => h) (fun _ h => h) (fun r9 _ t H locs ht hvm hw9 hB hz1 hk1 hS => ?_)
  have hP := ho_at ht hB
  have eq9 := hw9
  have hF := bnd_s eq9 hF
  refine lv_istore (lv' := [(4, .int r9), (3, .int v3_3), (0, .ref (ad (18*w+1))), (1, .int a), (2, .int b)]) hx hb dX4_surfaceAt_12 hl (by decide) rfl (fun ls hl => ?_)
  refine lv_iload hx hb dX4_surfaceAt_14 (lv_at hl 0 rfl) ?_
  refine lv_iconst (v := 3) hx hb dX4_surfaceAt_16 (by decide) ?_
  refine lv_icmp_ne (tgt := 32) hx hb dX4_surfaceAt_17 (by decide) (fun c17 => ?_) (fun c17 => ?_)
  · have hF := iff_ c17 hF
    refine lv_iload hx hb dX4_surfaceAt_32 (lv_at hl 0 rfl) ?_
    refine lv_iconst (v := 4) hx hb dX4_surfaceAt_34 (by decide) ?_
    refine lv_icmp_ne (tgt := 51) hx hb dX4_surfaceAt_35 (by decide) (fun c35 => ?_) (fun c35 => ?_)
    · have hF := iff_ c35 hF
      refine lv_ldc (v := (-1000000)) hx hb hown (hts _ (List.mem_of_getElem? (i := 1) rfl)) dX4_surfaceAt_51 ?_
      exact W.iret (v := (-1000000)) hx hb hr (fun t ht hW => ⟨⟨(-1000000), (), rfl, hF.trans hFF, ho_of ht hP⟩, hS.F ht⟩) hS.2.2 dX4_surfaceAt_53
    · have hF := ift c35 hF
      refine lv_bipush (v := 16) hx hb dX4_surfaceAt_38 (by decide) ?_
      refine lv_iload_n hx hb dX4_surfaceAt_40 rfl (lv_at hl 1 rfl) ?_
      refine lv_imul hx hb dX4_surfaceAt_41 ?_
      refine lv_bipush (v := 16) hx hb dX4_surfaceAt_42 (by decide) ?_
      refine lv_iadd hx hb dX4_surfaceAt_44 ?_
      refine lv_iload_n hx hb dX4_surfaceAt_45 rfl (lv_at hl 3 rfl) ?_
      refine lv_bipush (v := 16) hx hb dX4_surfaceAt_46 (by decide) ?_
      refine lv_irem hx hb dX4_surfaceAt_48 (by decide) ?_
      refine lv_isub hx hb dX4_surfaceAt_49 ?_
      exact W.iret (v := (((16 * v3_3) + 16) - (a - a / 16 * 16))) hx hb hr (fun t ht hW => ⟨⟨(((16 * v3_3) + 16) - (a - a / 16 * 16)), (), rfl, hF.trans hFF, ho_of ht hP⟩, hS.F ht⟩) hS.2.2 dX4_surfaceAt_50
  · have hF := ift c17 hF
    refine lv_bipush (v := 16) hx hb dX4_surfaceAt_20 (by decide) ?_
    refine lv_iload_n hx hb dX4_surfaceAt_22 rfl (lv_at hl 1 rfl) ?_
    refine lv_imul hx hb dX4_surfaceAt_23 ?_
    refine lv_iload_n hx hb dX4_surfaceAt_24 rfl (lv_at hl 3 rfl) ?_
    refine lv_bipush (v := 16) hx hb dX4_surfaceAt_25 (by decide) ?_
    refine lv_irem hx hb dX4_surfaceAt_27 (by decide) ?_
    refine lv_iadd hx hb dX4_surfaceAt_28 ?_
    refine lv_iconst (v := 1) hx hb dX4_surfaceAt_29 (by decide) ?_
    refine lv_iadd hx hb dX4_surfaceAt_30 ?_
    exact W.iret (v := (((16 * v3_3) + (a - a / 16 * 16)) + 1)) hx hb hr (fun t ht hW => ⟨⟨(((16 * v3_3) + (a - a / 16 * 16)) + 1), (), rfl, hF.trans hFF, ho_of ht hP⟩, hS.F ht⟩) hS.2.2 dX4_surfaceAt_31
theorem hd_X4_surfaceAtV : yX4_surfaceAt.cls = RX4 ∧ yX4_surfaceAt.cls ≠ "java/lang/invoke/MethodHandle" ∧ yX4_surfaceAt.cls ≠ "java/lang/invoke/VarHandle" ∧ (parseMethodDescriptor yX4_surfaceAt.desc).map (fun d => d.parameters.length) = some 2 := by decide +kernel
set_option maxHeartbeats 4000000 in
set_option maxRecDepth 100000 in
theorem c4_isFree (l : Launch) {D : va_G} {G : CY} {ad : Nat → Nat} {B0 : Nat} (hA : adOK B0 ad) (σ : Nat → Nat → Int32) (u : Nat → Int32) (w : Nat) (hw : w < 15) (a : Int32) (b : Int32) : Met l yX4_isFree wsX4_isFree { frames := 2, cells := 0, slots := 0, locals := 46 } (va_Pc [.ref (ad (18*w+1)), .int a, .int b] (Hp D G ad (va_up σ w u))) (va_Qi (fun (r : Int32) (_ : Unit) => r = f4_isFree u a b ∧ bl r) (fun (_ : Unit) => Ho D G ad (va_up σ w u)) (AA B0)) 0 0 (AA B0) := by
  refine Met.ofW (cc := cX4_isFree) (maxL := 3) (ret := (some .boolean)) (by decide) rfl ?_
  intro p e s m args below meth c s₁ B hml hv
  obtain ⟨rfl, hP, hK, hN⟩ := hv
  have hx := B.exec
  have hb := B.bytes
  have hr := B.returns
  have hts := atoms_spec (ws := wsX4_isFree) B.pre
  have hown : s.vm.findClass RX4 = some m.cls := findClass_of_methodNamed B.named
  have hlocks := B.notSynchronized
  have hP : va_P D vwCl (pool G ad (va_up σ w u)) s.heap := hP
  have hS : va_S (AA B0) s.heap s.heap [] := va_S.rf
  have hl := lv_entry ([.ref (ad (18*w+1)), .int a, .int b]) (n := 3) (Nat.le_of_ble_eq_true rfl)
  rw [lg_entry_eq]
  generalize (lg_sl ([.ref (ad (18*w+1)), .int a, .int b]) ++ List.replicate (3 - (lg_sl ([.ref (ad (18*w+1)), .int a, .int b])).length) Slot.unset).toArray = ls at hl ⊢
  have hl : lv_has ls 3 [(0, .ref (ad (18*w+1))), (1, .int a), (2, .int b)] := hl
  obtain ⟨FF, hFF⟩ : ∃ z, z = f4_isFree u a b := ⟨_, rfl⟩
  have hF := hFF.symm
  rw [f4_isFree] at hF
  refine lv_aload_n hx hb dX4_isFree_0 rfl (lv_at hl 0 rfl) ?_
  refine lv_iload_n hx hb dX4_isFree_1 rfl (lv_at hl 1 rfl) ?_
  refine lv_iconst (v := 4) hx hb dX4_isFree_2 (by decide) ?_
  refine lv_ishr hx hb dX4_isFree_3 ?_
  refine lv_iload_n hx hb dX4_isFree_4 rfl (lv_at hl 2 rfl) ?_
  refine lv_iconst (v := 4) hx hb dX4_isFree_5 (by decide) ?_
  refine lv_ishr hx hb dX4_isFree_6 ?_
  refine va_calli (va_runV (As := [.int (a >>> (4 &&& 31)), .int (b >>> (4 &&& 31))]) (rest := []) ⟨hx, hb, hml, hown, hts⟩ (c4_kindAt l hA σ u w hw (a >>> (4 &&& 31)) (b >>> (4 &&& 31)) ) (cwV 2 hts gX4_isFree_X4_kindAt rfl rfl rfl hd_X4_kindAtV ⟨Nat.le_of_ble_eq_true rfl, Nat.le_of_ble_eq_true rfl⟩) ⟨hp_blind, va_recv hK hP (ci := 6) (q0 := 18*w+1) rfl (c_t hw), hp_pre hK hN hP⟩ rfl rfl hl.1 rfl (lv_room (Nat.le_of_ble_eq_true rfl)) dX4_isFree_7 ⟨Nat.zero_le _, Nat.zero_le _⟩) hS (fun _ _ h => h) (fun _ h => h) (fun r7 _ t H locs ht hvm hw9 hB hz1 hk1 hS => ?_)
  have hP := ho_at ht hB
  have eq7 := hw9
  have hF := bnd_s eq7 hF
  refine va_calli (va_runSN (As := [.int r7]) (rest := []) ⟨hx, hb, hml, hown, hts⟩ (c6_isFirm l hA (va_up σ w u) r7 ) ⟨va_cnB 1 hts gX4_isFree_X6_isFirm_n30 rfl rfl rfl hN.2.2.1 (hts _ (List.mem_of_getElem? (i := 8) rfl)) hd_X6_isFirmS ⟨Nat.le_of_ble_eq_true rfl, Nat.le_of_ble_eq_true rfl⟩, hts _ (List.mem_of_getElem? (i := 7) rfl), trivial⟩ ⟨hp_blind, hp_pre hK hN hP⟩ rfl rfl hl.1 rfl (lv_room (Nat.le_of_ble_eq_true rfl)) dX4_isFree_10 ⟨Nat.zero_le _, Nat.zero_le _⟩) hS (fun _ _ h => h) (fun _ h => h) (fun r10 _ t H locs ht hvm hw9 hB hz1 hk1 hS => ?_)
  have hP := ho_at ht hB
  obtain ⟨eq10, hb_r10⟩ := hw9
  have hF := bnd_s eq10 hF
  refine lv_if_ne (tgt := 30) hx hb dX4_isFree_13 (by decide) (fun c13 => ?_) (fun c13 => ?_)
  · have hF := iff_ c13 hF
    refine lv_iconst (v := 0) hx hb dX4_isFree_30 (by decide) ?_
    exact W.zret (v := 0) hx hb hr (bl_nar bl0) (fun t ht hW => ⟨⟨0, (), rfl, ⟨hF.trans hFF, bl0⟩, ho_of ht hP⟩, hS.F ht⟩) hS.2.2 dX4_isFree_31
  · have hF := ift c13 hF
    refine lv_iload_n hx hb dX4_isFree_16 rfl (lv_at hl 2 rfl) ?_
    refine lv_aload_n hx hb dX4_isFree_17 rfl (lv_at hl 0 rfl) ?_
    refine lv_iload_n hx hb dX4_isFree_18 rfl (lv_at hl 1 rfl) ?_
    refine lv_iload_n hx hb dX4_isFree_19 rfl (lv_at hl 2 rfl) ?_
    refine va_calli (va_runV (As := [.int a, .int b]) (rest := [.int b]) ⟨hx, hb, hml, hown, hts⟩ (c4_surfaceAt l hA σ u w hw a b ) (cwV 2 hts gX4_isFree_X4_surfaceAt rfl rfl rfl hd_X4_surfaceAtV ⟨Nat.le_of_ble_eq_true rfl, Nat.le_of_ble_eq_true rfl⟩) ⟨hp_blind, va_recv hK hP (ci := 6) (q0 := 18*w+1) rfl (c_t hw), hp_pre hK hN hP⟩ rfl rfl hl.1 rfl (lv_room (Nat.le_of_ble_eq_true rfl)) dX4_isFree_20 ⟨Nat.zero_le _, Nat.zero_le _⟩) hS (fun _ _ h => h) (fun _ h => h) (fun r20 _ t H locs ht hvm hw9 hB hz1 hk1 hS => ?_)
    have hP := ho_at ht hB
    have eq20 := hw9
    have hF := bnd_s eq20 hF
    refine lv_icmp_lt (tgt := 30) hx hb dX4_isFree_23 (by decide) (fun c23 => ?_) (fun c23 => ?_)
    · have hF := ift c23 hF
      refine lv_iconst (v := 0) hx hb dX4_isFree_30 (by decide) ?_
      exact W.zret (v := 0) hx hb hr (bl_nar bl0) (fun t ht hW => ⟨⟨0, (), rfl, ⟨hF.trans hFF, bl0⟩, ho_of ht hP⟩, hS.F ht⟩) hS.2.2 dX4_isFree_31
    · have hF := iff_ c23 hF
      refine lv_iconst (v := 1) hx hb dX4_isFree_26 (by decide) ?_
      refine lv_goto (tgt := 31) hx hb dX4_isFree_27 (by decide) ?_
      exact W.zret (v := 1) hx hb hr (bl_nar bl1) (fun t ht hW => ⟨⟨1, (), rfl, ⟨hF.trans hFF, bl1⟩, ho_of ht hP⟩, hS.F ht⟩) hS.2.2 dX4_isFree_31
theorem hd_X4_isFreeV : yX4_isFree.cls = RX4 ∧ yX4_isFree.cls ≠ "java/lang/invoke/MethodHandle" ∧ yX4_isFree.cls ≠ "java/lang/invoke/VarHandle" ∧ (parseMethodDescriptor yX4_isFree.desc).map (fun d => d.parameters.length) = some 2 := by decide +kernel
set_option maxHeartbeats 4000000 in
set_option maxRecDepth 100000 in
theorem c4_block (l : Launch) {D : va_G} {G : CY} {ad : Nat → Nat} {B0 : Nat} (hA : adOK B0 ad) (σ : Nat → Nat → Int32) (u : Nat → Int32) (w : Nat) (hw : w < 15) (i : Nat) (hi : i < 4) (a : Int32) (b : Int32) : Met l yX4_block wsX4_block { frames := 1, cells := 0, slots := 0, locals := 22 } (va_Pc [.ref (ad (18*w+1)), .ref (ad (18*w+(6+2*i))), .int a, .int b] (Hp D G ad (va_up σ w u))) (va_Qi (fun (r : Int32) (_ : Unit) => r = f4_block u i a b ∧ bl r) (fun (_ : Unit) => Ho D G ad (va_up σ w u)) (AA B0)) 0 0 (AA B0) := by
  refine Met.ofW (cc := cX4_block) (maxL := 10) (ret := (some .boolean)) (by decide) rfl ?_
  intro p e s m args below meth c s₁ B hml hv
  obtain ⟨rfl, hP, hK, hN⟩ := hv
  have hx := B.exec
  have hb := B.bytes
  have hr := B.returns
  have hts := atoms_spec (ws := wsX4_block) B.pre
  have hown : s.vm.findClass RX4 = some m.cls := findClass_of_methodNamed B.named
  have hlocks := B.notSynchronized
  have hP : va_P D vwCl (pool G ad (va_up σ w u)) s.heap := hP
  have hS : va_S (AA B0) s.heap s.heap [] := va_S.rf
  have hl := lv_entry ([.ref (ad (18*w+1)), .ref (ad (18*w+(6+2*i))), .int a, .int b]) (n := 10) (Nat.le_of_ble_eq_true rfl)
  rw [lg_entry_eq]
  generalize (lg_sl ([.ref (ad (18*w+1)), .ref (ad (18*w+(6+2*i))), .int a, .int b]) ++ List.replicate (10 - (lg_sl ([.ref (ad (18*w+1)), .ref (ad (18*w+(6+2*i))), .int a, .int b])).length) Slot.unset).toArray = ls at hl ⊢
  have hl : lv_has ls 10 [(0, .ref (ad (18*w+1))), (1, .ref (ad (18*w+(6+2*i)))), (2, .int a), (3, .int b)] := hl
  obtain ⟨FF, hFF⟩ : ∃ z, z = f4_block u i a b := ⟨_, rfl⟩
  have hF := hFF.symm
  rw [f4_block] at hF
  refine lv_aload_n hx hb dX4_block_0 rfl (lv_at hl 1 rfl) ?_
  refine lv_iload_n hx hb dX4_block_1 rfl (lv_at hl 2 rfl) ?_
  refine va_calli (va_runV (As := [.int a]) (rest := []) ⟨hx, hb, hml, hown, hts⟩ (c0_lastColumnAt l hA σ u w hw i hi a ) (cwV 1 hts gX4_block_X0_lastColumnAt rfl rfl rfl hd_X0_lastColumnAtV ⟨Nat.le_of_ble_eq_true rfl, Nat.le_of_ble_eq_true rfl⟩) ⟨hp_blind, va_recv hK hP (ci := 2) (q0 := 18*w+(6+2*i)) rfl (c_b hw hi), hp_pre hK hN hP⟩ rfl rfl hl.1 rfl (lv_room (Nat.le_of_ble_eq_true rfl)) dX4_block_2 ⟨Nat.zero_le _, Nat.zero_le _⟩) hS (fun _ _ h => h) (fun _ h => h) (fun r2 _ t H locs ht hvm hw9 hB hz1 hk1 hS => ?_)
  have hP := ho_at ht hB
  obtain ⟨eq2, hq_r2⟩ := hw9
  have hF := bnd_s eq2 hF
  refine lv_istore (lv' := [(4, .int r2), (0, .ref (ad (18*w+1))), (1, .ref (ad (18*w+(6+2*i)))), (2, .int a), (3, .int b)]) hx hb dX4_block_5 hl (by decide) rfl (fun ls hl => ?_)
  refine lv_aload_n hx hb dX4_block_7 rfl (lv_at hl 2 rfl) ?_
  refine lv_iload_n hx hb dX4_block_8 rfl (lv_at hl 4 rfl) ?_
  refine va_calli (va_runV (As := [.int b]) (rest := []) ⟨hx, hb, hml, hown, hts⟩ (c0_lastRowAt l hA σ u w hw i hi b ) (cwV 1 hts gX4_block_X0_lastRowAt rfl rfl rfl hd_X0_lastRowAtV ⟨Nat.le_of_ble_eq_true rfl, Nat.le_of_ble_eq_true rfl⟩) ⟨hp_blind, va_recv hK hP (ci := 2) (q0 := 18*w+(6+2*i)) rfl (c_b hw hi), hp_pre hK hN hP⟩ rfl rfl hl.1 rfl (lv_room (Nat.le_of_ble_eq_true rfl)) dX4_block_9 ⟨Nat.zero_le _, Nat.zero_le _⟩) hS (fun _ _ h => h) (fun _ h => h) (fun r9 _ t H locs ht hvm hw9 hB hz1 hk1 hS => ?_)
  have hP := ho_at ht hB
  obtain ⟨eq9, hq_r9⟩ := hw9
  have hF := bnd_s eq9 hF
  refine lv_istore (lv' := [(5, .int r9), (4, .int r2), (0, .ref (ad (18*w+1))), (1, .ref (ad (18*w+(6+2*i)))), (2, .int a), (3, .int b)]) hx hb dX4_block_12 hl (by decide) rfl (fun ls hl => ?_)
  refine lv_iload_n hx hb dX4_block_14 rfl (lv_at hl 5 rfl) ?_
  refine lv_iconst (v := 4) hx hb dX4_block_15 (by decide) ?_
  refine lv_ishr hx hb dX4_block_16 ?_
  refine lv_topi (fun v6_17 e_v6_17 => ?_)
  have hF := bnd_s e_v6_17 hF
  refine lv_istore (lv' := [(6, .int v6_17), (5, .int r9), (4, .int r2), (0, .ref (ad (18*w+1))), (1, .ref (ad (18*w+(6+2*i)))), (2, .int a), (3, .int b)]) hx hb dX4_block_17 hl (by decide) rfl (fun ls hl => ?_)
  refine lv_aload_n hx hb dX4_block_19 rfl (lv_at hl 3 rfl) ?_
  refine lv_aload_n hx hb dX4_block_20 rfl (lv_at hl 4 rfl) ?_
  refine lv_iload_n hx hb dX4_block_21 rfl (lv_at hl 5 rfl) ?_
  refine va_calli (va_runV (As := [.int a]) (rest := [.ref (ad (18*w+1))]) ⟨hx, hb, hml, hown, hts⟩ (c0_footAt l hA σ u w hw i hi a ) (cwV 1 hts gX4_block_X0_footAt rfl rfl rfl hd_X0_footAtV ⟨Nat.le_of_ble_eq_true rfl, Nat.le_of_ble_eq_true rfl⟩) ⟨hp_blind, va_recv hK hP (ci := 2) (q0 := 18*w+(6+2*i)) rfl (c_b hw hi), hp_pre hK hN hP⟩ rfl rfl hl.1 rfl (lv_room (Nat.le_of_ble_eq_true rfl)) dX4_block_22 ⟨Nat.zero_le _, Nat.zero_le _⟩) hS (fun _ _ h => h) (fun _ h => h) (fun r22 _ t H locs ht hvm hw9 hB hz1 hk1 hS => ?_)
  have hP := ho_at ht hB
  have eq22 := hw9
  have hF := bnd_s eq22 hF
  refine lv_iconst (v := 4) hx hb dX4_block_25 (by decide) ?_
  refine lv_ishr hx hb dX4_block_26 ?_
  refine lv_iload hx hb dX4_block_27 (lv_at hl 0 rfl) ?_
  refine va_calli (va_runV (As := [.int (r22 >>> (4 &&& 31)), .int v6_17]) (rest := []) ⟨hx, hb, hml, hown, hts⟩ (c4_kindAt l hA σ u w hw (r22 >>> (4 &&& 31)) v6_17 ) (cwV 2 hts gX4_block_X4_kindAt rfl rfl rfl hd_X4_kindAtV ⟨Nat.le_of_ble_eq_true rfl, Nat.le_of_ble_eq_true rfl⟩) ⟨hp_blind, va_recv hK hP (ci := 6) (q0 := 18*w+1) rfl (c_t hw), hp_pre hK hN hP⟩ rfl rfl hl.1 rfl (lv_room (Nat.le_of_ble_eq_true rfl)) dX4_block_29 ⟨Nat.zero_le _, Nat.zero_le _⟩) hS (fun _ _ h => h) (fun _ h => h) (fun r29 _ t H locs ht hvm hw9 hB hz1 hk1 hS => ?_)
  have hP := ho_at ht hB
  have eq29 := hw9
  have hF := bnd_s eq29 hF
  refine va_calli (va_runSN (As := [.int r29]) (rest := []) ⟨hx, hb, hml, hown, hts⟩ (c6_isSlope l hA (va_up σ w u) r29 ) ⟨va_cnB 1 hts gX4_block_X6_isSlope_n49 rfl rfl rfl hN.2.1 (hts _ (List.mem_of_getElem? (i := 23) rfl)) hd_X6_isSlopeS ⟨Nat.le_of_ble_eq_true rfl, Nat.le_of_ble_eq_true rfl⟩, hts _ (List.mem_of_getElem? (i := 22) rfl), trivial⟩ ⟨hp_blind, hp_pre hK hN hP⟩ rfl rfl hl.1 rfl (lv_room (Nat.le_of_ble_eq_true rfl)) dX4_block_32 ⟨Nat.zero_le _, Nat.zero_le _⟩) hS (fun _ _ h => h) (fun _ h => h) (fun r32 _ t H locs ht hvm hw9 hB hz1 hk1 hS => ?_)
  have hP := ho_at ht hB
  obtain ⟨eq32, hb_r32⟩ := hw9
  have hF := bnd_s eq32 hF
  have J44 : ∀ (t0_44 : Int32) (H : Heap) (locs : List Loc) (ls : Array Slot), va_P D vwCl (pool G ad (va_up σ w u)) H → va_S (AA B0) s.heap H locs → lv_has ls 10 [(6, .int v6_17), (5, .int r9), (4, .int r2), (0, .ref (ad (18*w+1))), (2, .int a)] → f4_block_b44 u a r2 r9 v6_17 t0_44 = FF → W p l e (headSpec wsX4_block { frames := 1, cells := 0, slots := 0, locals := 22 }).room s m ([.ref (ad (18*w+1)), .ref (ad (18*w+(6+2*i))), .int a, .int b] : List Value).toArray below meth c H locs 0 0 (MQ below (va_Qi (fun (r : Int32) (_ : Unit) => r = f4_block u i a b ∧ bl r) (fun (_ : Unit) => Ho D G ad (va_up σ w u)) (AA B0)) ([.ref (ad (18*w+1)), .ref (ad (18*w+(6+2*i))), .int a, .int b] : List Value).toArray s 0 0 (AA B0)) (F0 m 44 ls [.int t0_44]) := by
    intro t0_44 H locs ls hP hS hl hF
    rw [f4_block_b44] at hF
    refine lv_istore (lv' := [(7, .int t0_44), (6, .int v6_17), (5, .int r9), (4, .int r2), (0, .ref (ad (18*w+1))), (2, .int a)]) hx hb dX4_block_44 hl (by decide) rfl (fun ls hl => ?_)
    refine lv_iload_n hx hb dX4_block_46 rfl (lv_at hl 5 rfl) ?_
    refine lv_iconst (v := 4) hx hb dX4_block_47 (by decide) ?_
    refine lv_ishr hx hb dX4_block_48 ?_
    refine lv_topi (fun v8_49 e_v8_49 => ?_)
    have hF := bnd_s e_v8_49 hF
    refine lv_istore (lv' := [(8, .int v8_49), (7, .int t0_44), (6, .int v6_17), (5, .int r9), (4, .int r2), (0, .ref (ad (18*w+1))), (2, .int a)]) hx hb dX4_block_49 hl (by decide) rfl (fun ls hl => ?_)
    have L51 : ∀ (n51 : Nat) (w8_51 : Int32) (H : Heap) (locs : List Loc) (ls : Array Slot), (r2.toInt + 1 - w8_51.toInt).toNat < n51 → va_P D vwCl (pool G ad (va_up σ w u)) H → va_S (AA B0) s.heap H locs → lv_has ls 10 [(8, .int w8_51), (7, .int t0_44), (6, .int v6_17), (5, .int r9), (4, .int r2), (0, .ref (ad (18*w+1)))] → f4_block_L51 u r2 r9 v6_17 t0_44 n51 w8_51 = FF → W p l e (headSpec wsX4_block { frames := 1, cells := 0, slots := 0, locals := 22 }).room s m ([.ref (ad (18*w+1)), .ref (ad (18*w+(6+2*i))), .int a, .int b] : List Value).toArray below meth c H locs 0 0 (MQ below (va_Qi (fun (r : Int32) (_ : Unit) => r = f4_block u i a b ∧ bl r) (fun (_ : Unit) => Ho D G ad (va_up σ w u)) (AA B0)) ([.ref (ad (18*w+1)), .ref (ad (18*w+(6+2*i))), .int a, .int b] : List Value).toArray s 0 0 (AA B0)) (F0 m 51 ls []) := by
      intro n51
      induction n51 with
      | zero => intro w8_51 H locs ls hm; exact absurd hm (Nat.not_lt_zero _)
      | succ n51 ih51 =>
        intro w8_51 H locs ls hm51 hP hS hl hF
        rw [f4_block_L51] at hF
        refine lv_iload hx hb dX4_block_51 (lv_at hl 0 rfl) ?_
        refine lv_iload hx hb dX4_block_53 (lv_at hl 4 rfl) ?_
        refine lv_icmp_gt (tgt := 109) hx hb dX4_block_55 (by decide) (fun c55 => ?_) (fun c55 => ?_)
        · have hF := ift c55 hF
          refine lv_iconst (v := 0) hx hb dX4_block_109 (by decide) ?_
          exact W.zret (v := 0) hx hb hr (bl_nar bl0) (fun t ht hW => ⟨⟨0, (), rfl, ⟨hF.trans hFF, bl0⟩, ho_of ht hP⟩, hS.F ht⟩) hS.2.2 dX4_block_110
        · have hF := iff_ c55 hF
          refine lv_iload hx hb dX4_block_58 (lv_at hl 2 rfl) ?_
          refine lv_istore (lv' := [(9, .int v6_17), (8, .int w8_51), (7, .int t0_44), (6, .int v6_17), (5, .int r9), (4, .int r2), (0, .ref (ad (18*w+1)))]) hx hb dX4_block_60 hl (by decide) rfl (fun ls hl => ?_)
          have L62 : ∀ (n62 : Nat) (w9_62 : Int32) (H : Heap) (locs : List Loc) (ls : Array Slot), (r9.toInt + 1 - w9_62.toInt).toNat < n62 → va_P D vwCl (pool G ad (va_up σ w u)) H → va_S (AA B0) s.heap H locs → lv_has ls 10 [(9, .int w9_62), (8, .int w8_51), (7, .int t0_44), (6, .int v6_17), (5, .int r9), (4, .int r2), (0, .ref (ad (18*w+1)))] → f4_block_L62 (f4_block_L51 u r2 r9 v6_17 t0_44 n51) u r9 t0_44 w8_51 n62 w9_62 = FF → W p l e (headSpec wsX4_block { frames := 1, cells := 0, slots := 0, locals := 22 }).room s m ([.ref (ad (18*w+1)), .ref (ad (18*w+(6+2*i))), .int a, .int b] : List Value).toArray below meth c H locs 0 0 (MQ below (va_Qi (fun (r : Int32) (_ : Unit) => r = f4_block u i a b ∧ bl r) (fun (_ : Unit) => Ho D G ad (va_up σ w u)) (AA B0)) ([.ref (ad (18*w+1)), .ref (ad (18*w+(6+2*i))), .int a, .int b] : List Value).toArray s 0 0 (AA B0)) (F0 m 62 ls []) := by
            intro n62
            induction n62 with
            | zero => intro w9_62 H locs ls hm; exact absurd hm (Nat.not_lt_zero _)
            | succ n62 ih62 =>
              intro w9_62 H locs ls hm62 hP hS hl hF
              rw [f4_block_L62] at hF
              refine lv_iload hx hb dX4_block_62 (lv_at hl 0 rfl) ?_
              refine lv_iload hx hb dX4_block_64 (lv_at hl 4 rfl) ?_
              refine lv_icmp_gt (tgt := 103) hx hb dX4_block_66 (by decide) (fun c66 => ?_) (fun c66 => ?_)
              · have hF := ift c66 hF
                obtain ⟨v8_103, e_v8_103⟩ : ∃ z : Int32, z = w8_51 + 1 := ⟨_, rfl⟩
                have hF := bnd_s e_v8_103 hF
                refine lv_iinc (v := v8_103) (lv' := [(8, .int v8_103), (9, .int w9_62), (7, .int t0_44), (6, .int v6_17), (5, .int r9), (4, .int r2), (0, .ref (ad (18*w+1)))]) hx hb dX4_block_103 hl (k := 1) rfl (by rw [e_v8_103]; rfl) (by decide) rfl (fun ls hl => ?_)
                refine lv_goto (tgt := 51) hx hb dX4_block_106 (by decide) ?_
                exact ih51 v8_103 _ _ ls (ms_s (dec_upe c55 hq_r2 e_v8_103) hm51) hP hS (lv_sub hl [0, 2, 3, 4, 5, 6] rfl) hF
              · have hF := iff_ c66 hF
                refine lv_aload_n hx hb dX4_block_69 rfl (lv_at hl 6 rfl) ?_
                refine lv_iload hx hb dX4_block_70 (lv_at hl 1 rfl) ?_
                refine lv_iload hx hb dX4_block_72 (lv_at hl 0 rfl) ?_
                refine va_calli (va_runV (As := [.int w8_51, .int w9_62]) (rest := []) ⟨hx, hb, hml, hown, hts⟩ (c4_kindAt l hA σ u w hw w8_51 w9_62 ) (cwV 2 hts gX4_block_X4_kindAt rfl rfl rfl hd_X4_kindAtV ⟨Nat.le_of_ble_eq_true rfl, Nat.le_of_ble_eq_true rfl⟩) ⟨hp_blind, va_recv hK hP (ci := 6) (q0 := 18*w+1) rfl (c_t hw), hp_pre hK hN hP⟩ rfl rfl hl.1 rfl (lv_room (Nat.le_of_ble_eq_true rfl)) dX4_block_74 ⟨Nat.zero_le _, Nat.zero_le _⟩) hS (fun _ _ h => h) (fun _ h => h) (fun r74 _ t H locs ht hvm hw9 hB hz1 hk1 hS => ?_)
                have hP := ho_at ht hB
                have eq74 := hw9
                have hF := bnd_s eq74 hF
                refine va_calli (va_runSN (As := [.int r74]) (rest := []) ⟨hx, hb, hml, hown, hts⟩ (c6_isFirm l hA (va_up σ w u) r74 ) ⟨va_cnB 1 hts gX4_block_X6_isFirm_n30 rfl rfl rfl hN.2.2.1 (hts _ (List.mem_of_getElem? (i := 23) rfl)) hd_X6_isFirmS ⟨Nat.le_of_ble_eq_true rfl, Nat.le_of_ble_eq_true rfl⟩, hts _ (List.mem_of_getElem? (i := 25) rfl), trivial⟩ ⟨hp_blind, hp_pre hK hN hP⟩ rfl rfl hl.1 rfl (lv_room (Nat.le_of_ble_eq_true rfl)) dX4_block_77 ⟨Nat.zero_le _, Nat.zero_le _⟩) hS (fun _ _ h => h) (fun _ h => h) (fun r77 _ t H locs ht hvm hw9 hB hz1 hk1 hS => ?_)
                have hP := ho_at ht hB
                obtain ⟨eq77, hb_r77⟩ := hw9
                have hF := bnd_s eq77 hF
                have J97 : ∀  (H : Heap) (locs : List Loc) (ls : Array Slot), va_P D vwCl (pool G ad (va_up σ w u)) H → va_S (AA B0) s.heap H locs → lv_has ls 10 [(9, .int w9_62), (8, .int w8_51), (7, .int t0_44), (6, .int v6_17), (5, .int r9), (4, .int r2), (0, .ref (ad (18*w+1)))] → f4_block_b97 (f4_block_L62 (f4_block_L51 u r2 r9 v6_17 t0_44 n51) u r9 t0_44 w8_51 n62) w9_62  = FF → W p l e (headSpec wsX4_block { frames := 1, cells := 0, slots := 0, locals := 22 }).room s m ([.ref (ad (18*w+1)), .ref (ad (18*w+(6+2*i))), .int a, .int b] : List Value).toArray below meth c H locs 0 0 (MQ below (va_Qi (fun (r : Int32) (_ : Unit) => r = f4_block u i a b ∧ bl r) (fun (_ : Unit) => Ho D G ad (va_up σ w u)) (AA B0)) ([.ref (ad (18*w+1)), .ref (ad (18*w+(6+2*i))), .int a, .int b] : List Value).toArray s 0 0 (AA B0)) (F0 m 97 ls []) := by
                  intro  H locs ls hP hS hl hF
                  rw [f4_block_b97] at hF
                  obtain ⟨v9_97, e_v9_97⟩ : ∃ z : Int32, z = w9_62 + 1 := ⟨_, rfl⟩
                  have hF := bnd_s e_v9_97 hF
                  refine lv_iinc (v := v9_97) (lv' := [(9, .int v9_97), (8, .int w8_51), (7, .int t0_44), (6, .int v6_17), (5, .int r9), (4, .int r2), (0, .ref (ad (18*w+1)))]) hx hb dX4_block_97 hl (k := 0) rfl (by rw [e_v9_97]; rfl) (by decide) rfl (fun ls hl => ?_)
                  refine lv_goto (tgt := 62) hx hb dX4_block_100 (by decide) ?_
                  exact ih62 v9_97 _ _ ls (ms_s (dec_upe c66 hq_r9 e_v9_97) hm62) hP hS (lv_sub hl [0, 1, 2, 3, 4, 5, 6] rfl) hF
                refine lv_if_eq (tgt := 97) hx hb dX4_block_80 (by decide) (fun c80 => ?_) (fun c80 => ?_)
                · have hF := ift c80 hF
                  exact J97  _ _ ls hP hS (lv_sub hl [0, 1, 2, 3, 4, 5, 6] rfl) hF
                · have hF := iff_ c80 hF
                  refine lv_iload hx hb dX4_block_83 (lv_at hl 1 rfl) ?_
                  refine lv_iload hx hb dX4_block_85 (lv_at hl 0 rfl) ?_
                  refine lv_iload hx hb dX4_block_87 (lv_at hl 2 rfl) ?_
                  refine va_calli (va_runS (As := [.int w8_51, .int w9_62, .int t0_44]) (rest := []) ⟨hx, hb, hml, hown, hts⟩ (c4_isIgnored l hA (va_up σ w u) w8_51 w9_62 t0_44 ) (va_cwS 3 hts gX4_block_X4_isIgnored rfl rfl rfl hd_X4_isIgnoredS ⟨Nat.le_of_ble_eq_true rfl, Nat.le_of_ble_eq_true rfl⟩) ⟨hp_blind, hp_pre hK hN hP⟩ rfl rfl hl.1 rfl (lv_room (Nat.le_of_ble_eq_true rfl)) dX4_block_89 ⟨Nat.zero_le _, Nat.zero_le _⟩) hS (fun _ _ h => h) (fun _ h => h) (fun r89 _ t H locs ht hvm hw9 hB hz1 hk1 hS => ?_)
                  have hP := ho_at ht hB
                  obtain ⟨eq89, hb_r89⟩ := hw9
                  have hF := bnd_s eq89 hF
                  refine lv_if_ne (tgt := 97) hx hb dX4_block_92 (by decide) (fun c92 => ?_) (fun c92 => ?_)
                  · have hF := iff_ c92 hF
                    exact J97  _ _ ls hP hS (lv_sub hl [0, 1, 2, 3, 4, 5, 6] rfl) hF
                  · have hF := ift c92 hF
                    refine lv_iconst (v := 1) hx hb dX4_block_95 (by decide) ?_
                    exact W.zret (v := 1) hx hb hr (bl_nar bl1) (fun t ht hW => ⟨⟨1, (), rfl, ⟨hF.trans hFF, bl1⟩, ho_of ht hP⟩, hS.F ht⟩) hS.2.2 dX4_block_96
          exact L62 BIG v6_17 _ _ ls (big_upe _ _) hP hS (lv_sub hl [0, 1, 2, 3, 4, 5, 6] rfl) hF
    exact L51 BIG v8_49 _ _ ls (big_upe _ _) hP hS (lv_sub hl [0, 1, 2, 3, 4, 5] rfl) hF
  refine lv_if_eq (tgt := 43) hx hb dX4_block_35 (by decide) (fun c35 => ?_) (fun c35 => ?_)
  · have hF := ift c35 hF
    refine lv_iconst (v := (-1)) hx hb dX4_block_43 (by decide) ?_
    exact J44 (-1) _ _ ls hP hS (lv_sub hl [0, 1, 2, 3, 5] rfl) hF
  · have hF := iff_ c35 hF
    refine lv_iload hx hb dX4_block_38 (lv_at hl 0 rfl) ?_
    refine lv_goto (tgt := 44) hx hb dX4_block_40 (by decide) ?_
    exact J44 v6_17 _ _ ls hP hS (lv_sub hl [0, 1, 2, 3, 5] rfl) hF
theorem hd_X4_blockV : yX4_block.cls = RX4 ∧ yX4_block.cls ≠ "java/lang/invoke/MethodHandle" ∧ yX4_block.cls ≠ "java/lang/invoke/VarHandle" ∧ (parseMethodDescriptor yX4_block.desc).map (fun d => d.parameters.length) = some 3 := by decide +kernel
set_option maxHeartbeats 4000000 in
set_option maxRecDepth 100000 in
theorem c4_firmKindsBelow (l : Launch) {D : va_G} {G : CY} {ad : Nat → Nat} {B0 : Nat} (hA : adOK B0 ad) (σ : Nat → Nat → Int32) (u : Nat → Int32) (w : Nat) (hw : w < 15) (i : Nat) (hi : i < 4) (a : Int32) (b : Int32) : Met l yX4_firmKindsBelow wsX4_firmKindsBelow { frames := 1, cells := 0, slots := 0, locals := 22 } (va_Pc [.ref (ad (18*w+1)), .ref (ad (18*w+(6+2*i))), .int a, .int b] (Hp D G ad (va_up σ w u))) (va_Qi (fun (r : Int32) (_ : Unit) => r = f4_firmKindsBelow u i a b) (fun (_ : Unit) => Ho D G ad (va_up σ w u)) (AA B0)) 0 0 (AA B0) := by
  refine Met.ofW (cc := cX4_firmKindsBelow) (maxL := 11) (ret := (some .int)) (by decide) rfl ?_
  intro p e s m args below meth c s₁ B hml hv
  obtain ⟨rfl, hP, hK, hN⟩ := hv
  have hx := B.exec
  have hb := B.bytes
  have hr := B.returns
  have hts := atoms_spec (ws := wsX4_firmKindsBelow) B.pre
  have hown : s.vm.findClass RX4 = some m.cls := findClass_of_methodNamed B.named
  have hlocks := B.notSynchronized
  have hP : va_P D vwCl (pool G ad (va_up σ w u)) s.heap := hP
  have hS : va_S (AA B0) s.heap s.heap [] := va_S.rf
  have hl := lv_entry ([.ref (ad (18*w+1)), .ref (ad (18*w+(6+2*i))), .int a, .int b]) (n := 11) (Nat.le_of_ble_eq_true rfl)
  rw [lg_entry_eq]
  generalize (lg_sl ([.ref (ad (18*w+1)), .ref (ad (18*w+(6+2*i))), .int a, .int b]) ++ List.replicate (11 - (lg_sl ([.ref (ad (18*w+1)), .ref (ad (18*w+(6+2*i))), .int a, .int b])).length) Slot.unset).toArray = ls at hl ⊢
  have hl : lv_has ls 11 [(0, .ref (ad (18*w+1))), (1, .ref (ad (18*w+(6+2*i)))), (2, .int a), (3, .int b)] := hl
  obtain ⟨FF, hFF⟩ : ∃ z, z = f4_firmKindsBelow u i a b := ⟨_, rfl⟩
  have hF := hFF.symm
  rw [f4_firmKindsBelow] at hF
  refine lv_aload_n hx hb dX4_firmKindsBelow_0 rfl (lv_at hl 1 rfl) ?_
  refine lv_iload_n hx hb dX4_firmKindsBelow_1 rfl (lv_at hl 2 rfl) ?_
  refine va_calli (va_runV (As := [.int a]) (rest := []) ⟨hx, hb, hml, hown, hts⟩ (c0_lastColumnAt l hA σ u w hw i hi a ) (cwV 1 hts gX4_firmKindsBelow_X0_lastColumnAt rfl rfl rfl hd_X0_lastColumnAtV ⟨Nat.le_of_ble_eq_true rfl, Nat.le_of_ble_eq_true rfl⟩) ⟨hp_blind, va_recv hK hP (ci := 2) (q0 := 18*w+(6+2*i)) rfl (c_b hw hi), hp_pre hK hN hP⟩ rfl rfl hl.1 rfl (lv_room (Nat.le_of_ble_eq_true rfl)) dX4_firmKindsBelow_2 ⟨Nat.zero_le _, Nat.zero_le _⟩) hS (fun _ _ h => h) (fun _ h => h) (fun r2 _ t H locs ht hvm hw9 hB hz1 hk1 hS => ?_)
  have hP := ho_at ht hB
  obtain ⟨eq2, hq_r2⟩ := hw9
  have hF := bnd_s eq2 hF
  refine lv_istore (lv' := [(4, .int r2), (0, .ref (ad (18*w+1))), (1, .ref (ad (18*w+(6+2*i)))), (2, .int a), (3, .int b)]) hx hb dX4_firmKindsBelow_5 hl (by decide) rfl (fun ls hl => ?_)
  refine lv_iload_n hx hb dX4_firmKindsBelow_7 rfl (lv_at hl 4 rfl) ?_
  refine lv_iconst (v := 1) hx hb dX4_firmKindsBelow_8 (by decide) ?_
  refine lv_isub hx hb dX4_firmKindsBelow_9 ?_
  refine lv_iconst (v := 4) hx hb dX4_firmKindsBelow_10 (by decide) ?_
  refine lv_ishr hx hb dX4_firmKindsBelow_11 ?_
  refine lv_topi (fun v5_12 e_v5_12 => ?_)
  have hF := bnd_s e_v5_12 hF
  refine lv_istore (lv' := [(5, .int v5_12), (4, .int r2), (0, .ref (ad (18*w+1))), (1, .ref (ad (18*w+(6+2*i)))), (2, .int a), (3, .int b)]) hx hb dX4_firmKindsBelow_12 hl (by decide) rfl (fun ls hl => ?_)
  refine lv_iload_n hx hb dX4_firmKindsBelow_14 rfl (lv_at hl 5 rfl) ?_
  refine lv_iconst (v := 4) hx hb dX4_firmKindsBelow_15 (by decide) ?_
  refine lv_ishr hx hb dX4_firmKindsBelow_16 ?_
  refine lv_topi (fun v6_17 e_v6_17 => ?_)
  have hF := bnd_s e_v6_17 hF
  refine lv_istore (lv' := [(6, .int v6_17), (5, .int v5_12), (4, .int r2), (0, .ref (ad (18*w+1))), (1, .ref (ad (18*w+(6+2*i)))), (2, .int a), (3, .int b)]) hx hb dX4_firmKindsBelow_17 hl (by decide) rfl (fun ls hl => ?_)
  refine lv_aload_n hx hb dX4_firmKindsBelow_19 rfl (lv_at hl 3 rfl) ?_
  refine lv_aload_n hx hb dX4_firmKindsBelow_20 rfl (lv_at hl 4 rfl) ?_
  refine lv_iload_n hx hb dX4_firmKindsBelow_21 rfl (lv_at hl 5 rfl) ?_
  refine va_calli (va_runV (As := [.int a]) (rest := [.ref (ad (18*w+1))]) ⟨hx, hb, hml, hown, hts⟩ (c0_footAt l hA σ u w hw i hi a ) (cwV 1 hts gX4_firmKindsBelow_X0_footAt rfl rfl rfl hd_X0_footAtV ⟨Nat.le_of_ble_eq_true rfl, Nat.le_of_ble_eq_true rfl⟩) ⟨hp_blind, va_recv hK hP (ci := 2) (q0 := 18*w+(6+2*i)) rfl (c_b hw hi), hp_pre hK hN hP⟩ rfl rfl hl.1 rfl (lv_room (Nat.le_of_ble_eq_true rfl)) dX4_firmKindsBelow_22 ⟨Nat.zero_le _, Nat.zero_le _⟩) hS (fun _ _ h => h) (fun _ h => h) (fun r22 _ t H locs ht hvm hw9 hB hz1 hk1 hS => ?_)
  have hP := ho_at ht hB
  have eq22 := hw9
  have hF := bnd_s eq22 hF
  refine lv_iconst (v := 4) hx hb dX4_firmKindsBelow_25 (by decide) ?_
  refine lv_ishr hx hb dX4_firmKindsBelow_26 ?_
  refine lv_iload hx hb dX4_firmKindsBelow_27 (lv_at hl 0 rfl) ?_
  refine va_calli (va_runV (As := [.int (r22 >>> (4 &&& 31)), .int v6_17]) (rest := []) ⟨hx, hb, hml, hown, hts⟩ (c4_kindAt l hA σ u w hw (r22 >>> (4 &&& 31)) v6_17 ) (cwV 2 hts gX4_firmKindsBelow_X4_kindAt rfl rfl rfl hd_X4_kindAtV ⟨Nat.le_of_ble_eq_true rfl, Nat.le_of_ble_eq_true rfl⟩) ⟨hp_blind, va_recv hK hP (ci := 6) (q0 := 18*w+1) rfl (c_t hw), hp_pre hK hN hP⟩ rfl rfl hl.1 rfl (lv_room (Nat.le_of_ble_eq_true rfl)) dX4_firmKindsBelow_29 ⟨Nat.zero_le _, Nat.zero_le _⟩) hS (fun _ _ h => h) (fun _ h => h) (fun r29 _ t H locs ht hvm hw9 hB hz1 hk1 hS => ?_)
  have hP := ho_at ht hB
  have eq29 := hw9
  have hF := bnd_s eq29 hF
  refine va_calli (va_runSN (As := [.int r29]) (rest := []) ⟨hx, hb, hml, hown, hts⟩ (c6_isSlope l hA (va_up σ w u) r29 ) ⟨va_cnB 1 hts gX4_firmKindsBelow_X6_isSlope_n49 rfl rfl rfl hN.2.1 (hts _ (List.mem_of_getElem? (i := 18) rfl)) hd_X6_isSlopeS ⟨Nat.le_of_ble_eq_true rfl, Nat.le_of_ble_eq_true rfl⟩, hts _ (List.mem_of_getElem? (i := 17) rfl), trivial⟩ ⟨hp_blind, hp_pre hK hN hP⟩ rfl rfl hl.1 rfl (lv_room (Nat.le_of_ble_eq_true rfl)) dX4_firmKindsBelow_32 ⟨Nat.zero_le _, Nat.zero_le _⟩) hS (fun _ _ h => h) (fun _ h => h) (fun r32 _ t H locs ht hvm hw9 hB hz1 hk1 hS => ?_)
  have hP := ho_at ht hB
  obtain ⟨eq32, hb_r32⟩ := hw9
  have hF := bnd_s eq32 hF
  have J44 : ∀ (t0_44 : Int32) (H : Heap) (locs : List Loc) (ls : Array Slot), va_P D vwCl (pool G ad (va_up σ w u)) H → va_S (AA B0) s.heap H locs → lv_has ls 11 [(5, .int v5_12), (4, .int r2), (0, .ref (ad (18*w+1))), (2, .int a)] → f4_firmKindsBelow_b44 u a r2 v5_12 t0_44 = FF → W p l e (headSpec wsX4_firmKindsBelow { frames := 1, cells := 0, slots := 0, locals := 22 }).room s m ([.ref (ad (18*w+1)), .ref (ad (18*w+(6+2*i))), .int a, .int b] : List Value).toArray below meth c H locs 0 0 (MQ below (va_Qi (fun (r : Int32) (_ : Unit) => r = f4_firmKindsBelow u i a b) (fun (_ : Unit) => Ho D G ad (va_up σ w u)) (AA B0)) ([.ref (ad (18*w+1)), .ref (ad (18*w+(6+2*i))), .int a, .int b] : List Value).toArray s 0 0 (AA B0)) (F0 m 44 ls [.int t0_44]) := by
    intro t0_44 H locs ls hP hS hl hF
    rw [f4_firmKindsBelow_b44] at hF
    refine lv_istore (lv' := [(7, .int t0_44), (5, .int v5_12), (4, .int r2), (0, .ref (ad (18*w+1))), (2, .int a)]) hx hb dX4_firmKindsBelow_44 hl (by decide) rfl (fun ls hl => ?_)
    refine lv_iconst (v := 0) hx hb dX4_firmKindsBelow_46 (by decide) ?_
    refine lv_istore (lv' := [(8, .int 0), (7, .int t0_44), (5, .int v5_12), (4, .int r2), (0, .ref (ad (18*w+1))), (2, .int a)]) hx hb dX4_firmKindsBelow_47 hl (by decide) rfl (fun ls hl => ?_)
    refine lv_iload_n hx hb dX4_firmKindsBelow_49 rfl (lv_at hl 5 rfl) ?_
    refine lv_iconst (v := 4) hx hb dX4_firmKindsBelow_50 (by decide) ?_
    refine lv_ishr hx hb dX4_firmKindsBelow_51 ?_
    refine lv_topi (fun v9_52 e_v9_52 => ?_)
    have hF := bnd_s e_v9_52 hF
    refine lv_istore (lv' := [(9, .int v9_52), (8, .int 0), (7, .int t0_44), (5, .int v5_12), (4, .int r2), (0, .ref (ad (18*w+1))), (2, .int a)]) hx hb dX4_firmKindsBelow_52 hl (by decide) rfl (fun ls hl => ?_)
    have L54 : ∀ (n54 : Nat) (w9_54 : Int32) (w8_54 : Int32) (H : Heap) (locs : List Loc) (ls : Array Slot), (r2.toInt + 1 - w9_54.toInt).toNat < n54 → va_P D vwCl (pool G ad (va_up σ w u)) H → va_S (AA B0) s.heap H locs → lv_has ls 11 [(9, .int w9_54), (8, .int w8_54), (7, .int t0_44), (5, .int v5_12), (4, .int r2), (0, .ref (ad (18*w+1)))] → f4_firmKindsBelow_L54 u r2 v5_12 t0_44 n54 w9_54 w8_54 = FF → W p l e (headSpec wsX4_firmKindsBelow { frames := 1, cells := 0, slots := 0, locals := 22 }).room s m ([.ref (ad (18*w+1)), .ref (ad (18*w+(6+2*i))), .int a, .int b] : List Value).toArray below meth c H locs 0 0 (MQ below (va_Qi (fun (r : Int32) (_ : Unit) => r = f4_firmKindsBelow u i a b) (fun (_ : Unit) => Ho D G ad (va_up σ w u)) (AA B0)) ([.ref (ad (18*w+1)), .ref (ad (18*w+(6+2*i))), .int a, .int b] : List Value).toArray s 0 0 (AA B0)) (F0 m 54 ls []) := by
      intro n54
      induction n54 with
      | zero => intro w9_54 w8_54 H locs ls hm; exact absurd hm (Nat.not_lt_zero _)
      | succ n54 ih54 =>
        intro w9_54 w8_54 H locs ls hm54 hP hS hl hF
        rw [f4_firmKindsBelow_L54] at hF
        refine lv_iload hx hb dX4_firmKindsBelow_54 (lv_at hl 0 rfl) ?_
        refine lv_iload hx hb dX4_firmKindsBelow_56 (lv_at hl 4 rfl) ?_
        refine lv_icmp_gt (tgt := 106) hx hb dX4_firmKindsBelow_58 (by decide) (fun c58 => ?_) (fun c58 => ?_)
        · have hF := ift c58 hF
          refine lv_iload hx hb dX4_firmKindsBelow_106 (lv_at hl 1 rfl) ?_
          exact W.iret (v := w8_54) hx hb hr (fun t ht hW => ⟨⟨w8_54, (), rfl, hF.trans hFF, ho_of ht hP⟩, hS.F ht⟩) hS.2.2 dX4_firmKindsBelow_108
        · have hF := iff_ c58 hF
          refine lv_aload_n hx hb dX4_firmKindsBelow_61 rfl (lv_at hl 5 rfl) ?_
          refine lv_iload hx hb dX4_firmKindsBelow_62 (lv_at hl 0 rfl) ?_
          refine lv_iload hx hb dX4_firmKindsBelow_64 (lv_at hl 3 rfl) ?_
          refine va_calli (va_runV (As := [.int w9_54, .int v5_12]) (rest := []) ⟨hx, hb, hml, hown, hts⟩ (c4_kindAt l hA σ u w hw w9_54 v5_12 ) (cwV 2 hts gX4_firmKindsBelow_X4_kindAt rfl rfl rfl hd_X4_kindAtV ⟨Nat.le_of_ble_eq_true rfl, Nat.le_of_ble_eq_true rfl⟩) ⟨hp_blind, va_recv hK hP (ci := 6) (q0 := 18*w+1) rfl (c_t hw), hp_pre hK hN hP⟩ rfl rfl hl.1 rfl (lv_room (Nat.le_of_ble_eq_true rfl)) dX4_firmKindsBelow_66 ⟨Nat.zero_le _, Nat.zero_le _⟩) hS (fun _ _ h => h) (fun _ h => h) (fun r66 _ t H locs ht hvm hw9 hB hz1 hk1 hS => ?_)
          have hP := ho_at ht hB
          have eq66 := hw9
          have hF := bnd_s eq66 hF
          refine lv_istore (lv' := [(10, .int r66), (9, .int w9_54), (8, .int w8_54), (7, .int t0_44), (5, .int v5_12), (4, .int r2), (0, .ref (ad (18*w+1)))]) hx hb dX4_firmKindsBelow_69 hl (by decide) rfl (fun ls hl => ?_)
          refine lv_iload hx hb dX4_firmKindsBelow_71 (lv_at hl 0 rfl) ?_
          refine va_calli (va_runSN (As := [.int r66]) (rest := []) ⟨hx, hb, hml, hown, hts⟩ (c6_isFirm l hA (va_up σ w u) r66 ) ⟨va_cnB 1 hts gX4_firmKindsBelow_X6_isFirm_n30 rfl rfl rfl hN.2.2.1 (hts _ (List.mem_of_getElem? (i := 18) rfl)) hd_X6_isFirmS ⟨Nat.le_of_ble_eq_true rfl, Nat.le_of_ble_eq_true rfl⟩, hts _ (List.mem_of_getElem? (i := 20) rfl), trivial⟩ ⟨hp_blind, hp_pre hK hN hP⟩ rfl rfl hl.1 rfl (lv_room (Nat.le_of_ble_eq_true rfl)) dX4_firmKindsBelow_73 ⟨Nat.zero_le _, Nat.zero_le _⟩) hS (fun _ _ h => h) (fun _ h => h) (fun r73 _ t H locs ht hvm hw9 hB hz1 hk1 hS => ?_)
          have hP := ho_at ht hB
          obtain ⟨eq73, hb_r73⟩ := hw9
          have hF := bnd_s eq73 hF
          have J100 : ∀ (w8_100 : Int32) (H : Heap) (locs : List Loc) (ls : Array Slot), va_P D vwCl (pool G ad (va_up σ w u)) H → va_S (AA B0) s.heap H locs → lv_has ls 11 [(9, .int w9_54), (8, .int w8_100), (7, .int t0_44), (5, .int v5_12), (4, .int r2), (0, .ref (ad (18*w+1)))] → f4_firmKindsBelow_b100 (f4_firmKindsBelow_L54 u r2 v5_12 t0_44 n54) w9_54 w8_100 = FF → W p l e (headSpec wsX4_firmKindsBelow { frames := 1, cells := 0, slots := 0, locals := 22 }).room s m ([.ref (ad (18*w+1)), .ref (ad (18*w+(6+2*i))), .int a, .int b] : List Value).toArray below meth c H locs 0 0 (MQ below (va_Qi (fun (r : Int32) (_ : Unit) => r = f4_firmKindsBelow u i a b) (fun (_ : Unit) => Ho D G ad (va_up σ w u)) (AA B0)) ([.ref (ad (18*w+1)), .ref (ad (18*w+(6+2*i))), .int a, .int b] : List Value).toArray s 0 0 (AA B0)) (F0 m 100 ls []) := by
            intro w8_100 H locs ls hP hS hl hF
            rw [f4_firmKindsBelow_b100] at hF
            obtain ⟨v9_100, e_v9_100⟩ : ∃ z : Int32, z = w9_54 + 1 := ⟨_, rfl⟩
            have hF := bnd_s e_v9_100 hF
            refine lv_iinc (v := v9_100) (lv' := [(9, .int v9_100), (8, .int w8_100), (7, .int t0_44), (5, .int v5_12), (4, .int r2), (0, .ref (ad (18*w+1)))]) hx hb dX4_firmKindsBelow_100 hl (k := 0) rfl (by rw [e_v9_100]; rfl) (by decide) rfl (fun ls hl => ?_)
            refine lv_goto (tgt := 54) hx hb dX4_firmKindsBelow_103 (by decide) ?_
            exact ih54 v9_100 w8_100 _ _ ls (ms_s (dec_upe c58 hq_r2 e_v9_100) hm54) hP hS (lv_sub hl [0, 1, 2, 3, 4, 5] rfl) hF
          refine lv_if_eq (tgt := 100) hx hb dX4_firmKindsBelow_76 (by decide) (fun c76 => ?_) (fun c76 => ?_)
          · have hF := ift c76 hF
            exact J100 w8_54 _ _ ls hP hS (lv_sub hl [1, 2, 3, 4, 5, 6] rfl) hF
          · have hF := iff_ c76 hF
            refine lv_iload hx hb dX4_firmKindsBelow_79 (lv_at hl 1 rfl) ?_
            refine lv_iload hx hb dX4_firmKindsBelow_81 (lv_at hl 4 rfl) ?_
            refine lv_iload hx hb dX4_firmKindsBelow_83 (lv_at hl 3 rfl) ?_
            refine va_calli (va_runS (As := [.int w9_54, .int v5_12, .int t0_44]) (rest := []) ⟨hx, hb, hml, hown, hts⟩ (c4_isIgnored l hA (va_up σ w u) w9_54 v5_12 t0_44 ) (va_cwS 3 hts gX4_firmKindsBelow_X4_isIgnored rfl rfl rfl hd_X4_isIgnoredS ⟨Nat.le_of_ble_eq_true rfl, Nat.le_of_ble_eq_true rfl⟩) ⟨hp_blind, hp_pre hK hN hP⟩ rfl rfl hl.1 rfl (lv_room (Nat.le_of_ble_eq_true rfl)) dX4_firmKindsBelow_85 ⟨Nat.zero_le _, Nat.zero_le _⟩) hS (fun _ _ h => h) (fun _ h => h) (fun r85 _ t H locs ht hvm hw9 hB hz1 hk1 hS => ?_)
            have hP := ho_at ht hB
            obtain ⟨eq85, hb_r85⟩ := hw9
            have hF := bnd_s eq85 hF
            refine lv_if_ne (tgt := 100) hx hb dX4_firmKindsBelow_88 (by decide) (fun c88 => ?_) (fun c88 => ?_)
            · have hF := iff_ c88 hF
              exact J100 w8_54 _ _ ls hP hS (lv_sub hl [1, 2, 3, 4, 5, 6] rfl) hF
            · have hF := ift c88 hF
              refine lv_iload hx hb dX4_firmKindsBelow_91 (lv_at hl 2 rfl) ?_
              refine lv_iconst (v := 1) hx hb dX4_firmKindsBelow_93 (by decide) ?_
              refine lv_iload hx hb dX4_firmKindsBelow_94 (lv_at hl 0 rfl) ?_
              refine lv_ishl hx hb dX4_firmKindsBelow_96 ?_
              refine lv_ior hx hb dX4_firmKindsBelow_97 ?_
              refine lv_topi (fun v8_98 e_v8_98 => ?_)
              have hF := bnd_s e_v8_98 hF
              refine lv_istore (lv' := [(8, .int v8_98), (10, .int r66), (9, .int w9_54), (7, .int t0_44), (5, .int v5_12), (4, .int r2), (0, .ref (ad (18*w+1)))]) hx hb dX4_firmKindsBelow_98 hl (by decide) rfl (fun ls hl => ?_)
              exact J100 v8_98 _ _ ls hP hS (lv_sub hl [2, 0, 3, 4, 5, 6] rfl) hF
    exact L54 BIG v9_52 0 _ _ ls (big_upe _ _) hP hS (lv_sub hl [0, 1, 2, 3, 4, 5] rfl) hF
  refine lv_if_eq (tgt := 43) hx hb dX4_firmKindsBelow_35 (by decide) (fun c35 => ?_) (fun c35 => ?_)
  · have hF := ift c35 hF
    refine lv_iconst (v := (-1)) hx hb dX4_firmKindsBelow_43 (by decide) ?_
    exact J44 (-1) _ _ ls hP hS (lv_sub hl [1, 2, 3, 5] rfl) hF
  · have hF := iff_ c35 hF
    refine lv_iload hx hb dX4_firmKindsBelow_38 (lv_at hl 0 rfl) ?_
    refine lv_goto (tgt := 44) hx hb dX4_firmKindsBelow_40 (by decide) ?_
    exact J44 v6_17 _ _ ls hP hS (lv_sub hl [1, 2, 3, 5] rfl) hF
theorem hd_X4_firmKindsBelowV : yX4_firmKindsBelow.cls = RX4 ∧ yX4_firmKindsBelow.cls ≠ "java/lang/invoke/MethodHandle" ∧ yX4_firmKindsBelow.cls ≠ "java/lang/invoke/VarHandle" ∧ (parseMethodDescriptor yX4_firmKindsBelow.desc).map (fun d => d.parameters.length) = some 3 := by decide +kernel
set_option maxHeartbeats 4000000 in
set_option maxRecDepth 100000 in
theorem c4_haveFloorBelow (l : Launch) {D : va_G} {G : CY} {ad : Nat → Nat} {B0 : Nat} (hA : adOK B0 ad) (σ : Nat → Nat → Int32) (u : Nat → Int32) (w : Nat) (hw : w < 15) (i : Nat) (hi : i < 4) (a : Int32) (b : Int32) : Met l yX4_haveFloorBelow wsX4_haveFloorBelow { frames := 1, cells := 0, slots := 0, locals := 22 } (va_Pc [.ref (ad (18*w+1)), .ref (ad (18*w+(6+2*i))), .int a, .int b] (Hp D G ad (va_up σ w u))) (va_Qi (fun (r : Int32) (_ : Unit) => r = f4_haveFloorBelow u i a b ∧ bl r) (fun (_ : Unit) => Ho D G ad (va_up σ w u)) (AA B0)) 0 0 (AA B0) := by
  refine Met.ofW (cc := cX4_haveFloorBelow) (maxL := 6) (ret := (some .boolean)) (by decide) rfl ?_
  intro p e s m args below meth c s₁ B hml hv
  obtain ⟨rfl, hP, hK, hN⟩ := hv
  have hx := B.exec
  have hb := B.bytes
  have hr := B.returns
  have hts := atoms_spec (ws := wsX4_haveFloorBelow) B.pre
  have hown : s.vm.findClass RX4 = some m.cls := findClass_of_methodNamed B.named
  have hlocks := B.notSynchronized
  have hP : va_P D vwCl (pool G ad (va_up σ w u)) s.heap := hP
  have hS : va_S (AA B0) s.heap s.heap [] := va_S.rf
  have hl := lv_entry ([.ref (ad (18*w+1)), .ref (ad (18*w+(6+2*i))), .int a, .int b]) (n := 6) (Nat.le_of_ble_eq_true rfl)
  rw [lg_entry_eq]
  generalize (lg_sl ([.ref (ad (18*w+1)), .ref (ad (18*w+(6+2*i))), .int a, .int b]) ++ List.replicate (6 - (lg_sl ([.ref (ad (18*w+1)), .ref (ad (18*w+(6+2*i))), .int a, .int b])).length) Slot.unset).toArray = ls at hl ⊢
  have hl : lv_has ls 6 [(0, .ref (ad (18*w+1))), (1, .ref (ad (18*w+(6+2*i)))), (2, .int a), (3, .int b)] := hl
  obtain ⟨FF, hFF⟩ : ∃ z, z = f4_haveFloorBelow u i a b := ⟨_, rfl⟩
  have hF := hFF.symm
  rw [f4_haveFloorBelow] at hF
  refine lv_iload_n hx hb dX4_haveFloorBelow_0 rfl (lv_at hl 3 rfl) ?_
  refine lv_bipush (v := 16) hx hb dX4_haveFloorBelow_1 (by decide) ?_
  refine lv_irem hx hb dX4_haveFloorBelow_3 (by decide) ?_
  refine lv_if_eq (tgt := 9) hx hb dX4_haveFloorBelow_4 (by decide) (fun c4 => ?_) (fun c4 => ?_)
  · have hF := ift c4 hF
    refine lv_aload_n hx hb dX4_haveFloorBelow_9 rfl (lv_at hl 1 rfl) ?_
    refine lv_iload_n hx hb dX4_haveFloorBelow_10 rfl (lv_at hl 2 rfl) ?_
    refine va_calli (va_runV (As := [.int a]) (rest := []) ⟨hx, hb, hml, hown, hts⟩ (c0_lastColumnAt l hA σ u w hw i hi a ) (cwV 1 hts gX4_haveFloorBelow_X0_lastColumnAt rfl rfl rfl hd_X0_lastColumnAtV ⟨Nat.le_of_ble_eq_true rfl, Nat.le_of_ble_eq_true rfl⟩) ⟨hp_blind, va_recv hK hP (ci := 2) (q0 := 18*w+(6+2*i)) rfl (c_b hw hi), hp_pre hK hN hP⟩ rfl rfl hl.1 rfl (lv_room (Nat.le_of_ble_eq_true rfl)) dX4_haveFloorBelow_11 ⟨Nat.zero_le _, Nat.zero_le _⟩) hS (fun _ _ h => h) (fun _ h => h) (fun r11 _ t H locs ht hvm hw9 hB hz1 hk1 hS => ?_)
    have hP := ho_at ht hB
    obtain ⟨eq11, hq_r11⟩ := hw9
    have hF := bnd_s eq11 hF
    refine lv_istore (lv' := [(4, .int r11), (0, .ref (ad (18*w+1))), (1, .ref (ad (18*w+(6+2*i)))), (2, .int a), (3, .int b)]) hx hb dX4_haveFloorBelow_14 hl (by decide) rfl (fun ls hl => ?_)
    refine lv_iload_n hx hb dX4_haveFloorBelow_16 rfl (lv_at hl 3 rfl) ?_
    refine lv_iconst (v := 4) hx hb dX4_haveFloorBelow_17 (by decide) ?_
    refine lv_ishr hx hb dX4_haveFloorBelow_18 ?_
    refine lv_topi (fun v5_19 e_v5_19 => ?_)
    have hF := bnd_s e_v5_19 hF
    refine lv_istore (lv' := [(5, .int v5_19), (4, .int r11), (0, .ref (ad (18*w+1))), (1, .ref (ad (18*w+(6+2*i)))), (2, .int a), (3, .int b)]) hx hb dX4_haveFloorBelow_19 hl (by decide) rfl (fun ls hl => ?_)
    have L21 : ∀ (n21 : Nat) (w5_21 : Int32) (H : Heap) (locs : List Loc) (ls : Array Slot), (r11.toInt + 1 - w5_21.toInt).toNat < n21 → va_P D vwCl (pool G ad (va_up σ w u)) H → va_S (AA B0) s.heap H locs → lv_has ls 6 [(5, .int w5_21), (4, .int r11), (0, .ref (ad (18*w+1))), (3, .int b)] → f4_haveFloorBelow_L21 u b r11 n21 w5_21 = FF → W p l e (headSpec wsX4_haveFloorBelow { frames := 1, cells := 0, slots := 0, locals := 22 }).room s m ([.ref (ad (18*w+1)), .ref (ad (18*w+(6+2*i))), .int a, .int b] : List Value).toArray below meth c H locs 0 0 (MQ below (va_Qi (fun (r : Int32) (_ : Unit) => r = f4_haveFloorBelow u i a b ∧ bl r) (fun (_ : Unit) => Ho D G ad (va_up σ w u)) (AA B0)) ([.ref (ad (18*w+1)), .ref (ad (18*w+(6+2*i))), .int a, .int b] : List Value).toArray s 0 0 (AA B0)) (F0 m 21 ls []) := by
      intro n21
      induction n21 with
      | zero => intro w5_21 H locs ls hm; exact absurd hm (Nat.not_lt_zero _)
      | succ n21 ih21 =>
        intro w5_21 H locs ls hm21 hP hS hl hF
        rw [f4_haveFloorBelow_L21] at hF
        refine lv_iload hx hb dX4_haveFloorBelow_21 (lv_at hl 0 rfl) ?_
        refine lv_iload hx hb dX4_haveFloorBelow_23 (lv_at hl 1 rfl) ?_
        refine lv_icmp_gt (tgt := 51) hx hb dX4_haveFloorBelow_25 (by decide) (fun c25 => ?_) (fun c25 => ?_)
        · have hF := ift c25 hF
          refine lv_iconst (v := 0) hx hb dX4_haveFloorBelow_51 (by decide) ?_
          exact W.zret (v := 0) hx hb hr (bl_nar bl0) (fun t ht hW => ⟨⟨0, (), rfl, ⟨hF.trans hFF, bl0⟩, ho_of ht hP⟩, hS.F ht⟩) hS.2.2 dX4_haveFloorBelow_52
        · have hF := iff_ c25 hF
          refine lv_aload_n hx hb dX4_haveFloorBelow_28 rfl (lv_at hl 2 rfl) ?_
          refine lv_iload hx hb dX4_haveFloorBelow_29 (lv_at hl 0 rfl) ?_
          refine lv_iload_n hx hb dX4_haveFloorBelow_31 rfl (lv_at hl 3 rfl) ?_
          refine lv_iconst (v := 1) hx hb dX4_haveFloorBelow_32 (by decide) ?_
          refine lv_isub hx hb dX4_haveFloorBelow_33 ?_
          refine lv_iconst (v := 4) hx hb dX4_haveFloorBelow_34 (by decide) ?_
          refine lv_ishr hx hb dX4_haveFloorBelow_35 ?_
          refine va_calli (va_runV (As := [.int w5_21, .int ((b - 1) >>> (4 &&& 31))]) (rest := []) ⟨hx, hb, hml, hown, hts⟩ (c4_kindAt l hA σ u w hw w5_21 ((b - 1) >>> (4 &&& 31)) ) (cwV 2 hts gX4_haveFloorBelow_X4_kindAt rfl rfl rfl hd_X4_kindAtV ⟨Nat.le_of_ble_eq_true rfl, Nat.le_of_ble_eq_true rfl⟩) ⟨hp_blind, va_recv hK hP (ci := 6) (q0 := 18*w+1) rfl (c_t hw), hp_pre hK hN hP⟩ rfl rfl hl.1 rfl (lv_room (Nat.le_of_ble_eq_true rfl)) dX4_haveFloorBelow_36 ⟨Nat.zero_le _, Nat.zero_le _⟩) hS (fun _ _ h => h) (fun _ h => h) (fun r36 _ t H locs ht hvm hw9 hB hz1 hk1 hS => ?_)
          have hP := ho_at ht hB
          have eq36 := hw9
          have hF := bnd_s eq36 hF
          refine lv_iconst (v := 2) hx hb dX4_haveFloorBelow_39 (by decide) ?_
          refine lv_icmp_ne (tgt := 45) hx hb dX4_haveFloorBelow_40 (by decide) (fun c40 => ?_) (fun c40 => ?_)
          · have hF := iff_ c40 hF
            obtain ⟨v5_45, e_v5_45⟩ : ∃ z : Int32, z = w5_21 + 1 := ⟨_, rfl⟩
            have hF := bnd_s e_v5_45 hF
            refine lv_iinc (v := v5_45) (lv' := [(5, .int v5_45), (4, .int r11), (0, .ref (ad (18*w+1))), (3, .int b)]) hx hb dX4_haveFloorBelow_45 hl (k := 0) rfl (by rw [e_v5_45]; rfl) (by decide) rfl (fun ls hl => ?_)
            refine lv_goto (tgt := 21) hx hb dX4_haveFloorBelow_48 (by decide) ?_
            exact ih21 v5_45 _ _ ls (ms_s (dec_upe c25 hq_r11 e_v5_45) hm21) hP hS (lv_sub hl [0, 1, 2, 3] rfl) hF
          · have hF := ift c40 hF
            refine lv_iconst (v := 1) hx hb dX4_haveFloorBelow_43 (by decide) ?_
            exact W.zret (v := 1) hx hb hr (bl_nar bl1) (fun t ht hW => ⟨⟨1, (), rfl, ⟨hF.trans hFF, bl1⟩, ho_of ht hP⟩, hS.F ht⟩) hS.2.2 dX4_haveFloorBelow_44
    exact L21 BIG v5_19 _ _ ls (big_upe _ _) hP hS (lv_sub hl [0, 1, 2, 5] rfl) hF
  · have hF := iff_ c4 hF
    refine lv_iconst (v := 0) hx hb dX4_haveFloorBelow_7 (by decide) ?_
    exact W.zret (v := 0) hx hb hr (bl_nar bl0) (fun t ht hW => ⟨⟨0, (), rfl, ⟨hF.trans hFF, bl0⟩, ho_of ht hP⟩, hS.F ht⟩) hS.2.2 dX4_haveFloorBelow_8
theorem hd_X4_haveFloorBelowV : yX4_haveFloorBelow.cls = RX4 ∧ yX4_haveFloorBelow.cls ≠ "java/lang/invoke/MethodHandle" ∧ yX4_haveFloorBelow.cls ≠ "java/lang/invoke/VarHandle" ∧ (parseMethodDescriptor yX4_haveFloorBelow.desc).map (fun d => d.parameters.length) = some 3 := by decide +kernel
set_option maxHeartbeats 4000000 in
set_option maxRecDepth 100000 in
theorem c4_touch (l : Launch) {D : va_G} {G : CY} {ad : Nat → Nat} {B0 : Nat} (hA : adOK B0 ad) (σ : Nat → Nat → Int32) (u : Nat → Int32) (w : Nat) (hw : w < 15) (i : Nat) (hi : i < 4) (a : Int32) : Met l yX4_touch wsX4_touch { frames := 1, cells := 0, slots := 0, locals := 22 } (va_Pc [.ref (ad (18*w+1)), .ref (ad (18*w+(6+2*i))), .int a] (Hp D G ad (va_up σ w u))) (va_Qi (fun (r : Int32) (_ : Unit) => r = f4_touch u i a ∧ bl r) (fun (_ : Unit) => Ho D G ad (va_up σ w u)) (AA B0)) 0 0 (AA B0) := by
  refine Met.ofW (cc := cX4_touch) (maxL := 7) (ret := (some .boolean)) (by decide) rfl ?_
  intro p e s m args below meth c s₁ B hml hv
  obtain ⟨rfl, hP, hK, hN⟩ := hv
  have hx := B.exec
  have hb := B.bytes
  have hr := B.returns
  have hts := atoms_spec (ws := wsX4_touch) B.pre
  have hown : s.vm.findClass RX4 = some m.cls := findClass_of_methodNamed B.named
  have hlocks := B.notSynchronized
  have inX0 : ∀ w ∈ wsX00, w ∈ wsX4_touch := (fun w h => List.mem_cons_of_mem _ (List.mem_append_left _ (List.mem_append_left _ (List.mem_append_right _ h))))
  have hP : va_P D vwCl (pool G ad (va_up σ w u)) s.heap := hP
  have hS : va_S (AA B0) s.heap s.heap [] := va_S.rf
  have hl := lv_entry ([.ref (ad (18*w+1)), .ref (ad (18*w+(6+2*i))), .int a]) (n := 7) (Nat.le_of_ble_eq_true rfl)
  rw [lg_entry_eq]
  generalize (lg_sl ([.ref (ad (18*w+1)), .ref (ad (18*w+(6+2*i))), .int a]) ++ List.replicate (7 - (lg_sl ([.ref (ad (18*w+1)), .ref (ad (18*w+(6+2*i))), .int a])).length) Slot.unset).toArray = ls at hl ⊢
  have hl : lv_has ls 7 [(0, .ref (ad (18*w+1))), (1, .ref (ad (18*w+(6+2*i)))), (2, .int a)] := hl
  obtain ⟨FF, hFF⟩ : ∃ z, z = f4_touch u i a := ⟨_, rfl⟩
  have hF := hFF.symm
  rw [f4_touch] at hF
  refine lv_aload_n hx hb dX4_touch_0 rfl (lv_at hl 1 rfl) ?_
  refine lv_aload_n hx hb dX4_touch_1 rfl (lv_at hl 1 rfl) ?_
  refine va_get (D := D) (ci := 2) (C := RX0) (T := TX0) (N := 16) hx hb hts inX0 hown hK hP (18*w+(6+2*i)) (c_b hw hi) rfl 0 (by decide) (hts (.fieldLink RX4 56 "TileRunners$Body" "x" "I") (List.mem_of_getElem? (i := 1) rfl)) (fun _ h9 => h9) rfl dX4_touch_2 ?_
  refine va_calli (va_runV (As := [.int (u (336+24*i+0))]) (rest := []) ⟨hx, hb, hml, hown, hts⟩ (c0_lastColumnAt l hA σ u w hw i hi (u (336+24*i+0)) ) (cwV 1 hts gX4_touch_X0_lastColumnAt rfl rfl rfl hd_X0_lastColumnAtV ⟨Nat.le_of_ble_eq_true rfl, Nat.le_of_ble_eq_true rfl⟩) ⟨hp_blind, va_recv hK hP (ci := 2) (q0 := 18*w+(6+2*i)) rfl (c_b hw hi), hp_pre hK hN hP⟩ rfl rfl hl.1 rfl (lv_room (Nat.le_of_ble_eq_true rfl)) dX4_touch_5 ⟨Nat.zero_le _, Nat.zero_le _⟩) hS (fun _ _ h => h) (fun _ h => h) (fun r5 _ t H locs ht hvm hw9 hB hz1 hk1 hS => ?_)
  have hP := ho_at ht hB
  obtain ⟨eq5, hq_r5⟩ := hw9
  have hF := bnd_s eq5 hF
  refine lv_istore_n (lv' := [(3, .int r5), (0, .ref (ad (18*w+1))), (1, .ref (ad (18*w+(6+2*i)))), (2, .int a)]) hx hb dX4_touch_8 rfl hl (by decide) rfl (fun ls hl => ?_)
  refine lv_aload_n hx hb dX4_touch_9 rfl (lv_at hl 2 rfl) ?_
  refine lv_aload_n hx hb dX4_touch_10 rfl (lv_at hl 2 rfl) ?_
  refine va_get (D := D) (ci := 2) (C := RX0) (T := TX0) (N := 16) hx hb hts inX0 hown hK hP (18*w+(6+2*i)) (c_b hw hi) rfl 1 (by decide) (hts (.fieldLink RX4 60 "TileRunners$Body" "y" "I") (List.mem_of_getElem? (i := 2) rfl)) (fun _ h9 => h9) rfl dX4_touch_11 ?_
  refine va_calli (va_runV (As := [.int (u (336+24*i+1))]) (rest := []) ⟨hx, hb, hml, hown, hts⟩ (c0_lastRowAt l hA σ u w hw i hi (u (336+24*i+1)) ) (cwV 1 hts gX4_touch_X0_lastRowAt rfl rfl rfl hd_X0_lastRowAtV ⟨Nat.le_of_ble_eq_true rfl, Nat.le_of_ble_eq_true rfl⟩) ⟨hp_blind, va_recv hK hP (ci := 2) (q0 := 18*w+(6+2*i)) rfl (c_b hw hi), hp_pre hK hN hP⟩ rfl rfl hl.1 rfl (lv_room (Nat.le_of_ble_eq_true rfl)) dX4_touch_14 ⟨Nat.zero_le _, Nat.zero_le _⟩) hS (fun _ _ h => h) (fun _ h => h) (fun r14 _ t H locs ht hvm hw9 hB hz1 hk1 hS => ?_)
  have hP := ho_at ht hB
  obtain ⟨eq14, hq_r14⟩ := hw9
  have hF := bnd_s eq14 hF
  refine lv_istore (lv' := [(4, .int r14), (3, .int r5), (0, .ref (ad (18*w+1))), (1, .ref (ad (18*w+(6+2*i)))), (2, .int a)]) hx hb dX4_touch_17 hl (by decide) rfl (fun ls hl => ?_)
  refine lv_aload_n hx hb dX4_touch_19 rfl (lv_at hl 3 rfl) ?_
  refine va_get (D := D) (ci := 2) (C := RX0) (T := TX0) (N := 16) hx hb hts inX0 hown hK hP (18*w+(6+2*i)) (c_b hw hi) rfl 0 (by decide) (hts (.fieldLink RX4 56 "TileRunners$Body" "x" "I") (List.mem_of_getElem? (i := 1) rfl)) (fun _ h9 => h9) rfl dX4_touch_20 ?_
  refine lv_iconst (v := 4) hx hb dX4_touch_23 (by decide) ?_
  refine lv_ishr hx hb dX4_touch_24 ?_
  refine lv_topi (fun v5_25 e_v5_25 => ?_)
  have hF := bnd_s e_v5_25 hF
  refine lv_istore (lv' := [(5, .int v5_25), (4, .int r14), (3, .int r5), (0, .ref (ad (18*w+1))), (1, .ref (ad (18*w+(6+2*i)))), (2, .int a)]) hx hb dX4_touch_25 hl (by decide) rfl (fun ls hl => ?_)
  have L27 : ∀ (n27 : Nat) (w5_27 : Int32) (H : Heap) (locs : List Loc) (ls : Array Slot), (r5.toInt + 1 - w5_27.toInt).toNat < n27 → va_P D vwCl (pool G ad (va_up σ w u)) H → va_S (AA B0) s.heap H locs → lv_has ls 7 [(5, .int w5_27), (4, .int r14), (3, .int r5), (0, .ref (ad (18*w+1))), (1, .ref (ad (18*w+(6+2*i)))), (2, .int a)] → f4_touch_L27 u i a r5 r14 n27 w5_27 = FF → W p l e (headSpec wsX4_touch { frames := 1, cells := 0, slots := 0, locals := 22 }).room s m ([.ref (ad (18*w+1)), .ref (ad (18*w+(6+2*i))), .int a] : List Value).toArray below meth c H locs 0 0 (MQ below (va_Qi (fun (r : Int32) (_ : Unit) => r = f4_touch u i a ∧ bl r) (fun (_ : Unit) => Ho D G ad (va_up σ w u)) (AA B0)) ([.ref (ad (18*w+1)), .ref (ad (18*w+(6+2*i))), .int a] : List Value).toArray s 0 0 (AA B0)) (F0 m 27 ls []) := by
    intro n27
    induction n27 with
    | zero => intro w5_27 H locs ls hm; exact absurd hm (Nat.not_lt_zero _)
    | succ n27 ih27 =>
      intro w5_27 H locs ls hm27 hP hS hl hF
      rw [f4_touch_L27] at hF
      refine lv_iload hx hb dX4_touch_27 (lv_at hl 0 rfl) ?_
      refine lv_iload_n hx hb dX4_touch_29 rfl (lv_at hl 2 rfl) ?_
      refine lv_icmp_gt (tgt := 74) hx hb dX4_touch_30 (by decide) (fun c30 => ?_) (fun c30 => ?_)
      · have hF := ift c30 hF
        refine lv_iconst (v := 0) hx hb dX4_touch_74 (by decide) ?_
        exact W.zret (v := 0) hx hb hr (bl_nar bl0) (fun t ht hW => ⟨⟨0, (), rfl, ⟨hF.trans hFF, bl0⟩, ho_of ht hP⟩, hS.F ht⟩) hS.2.2 dX4_touch_75
      · have hF := iff_ c30 hF
        refine lv_aload_n hx hb dX4_touch_33 rfl (lv_at hl 4 rfl) ?_
        refine va_get (D := D) (ci := 2) (C := RX0) (T := TX0) (N := 16) hx hb hts inX0 hown hK hP (18*w+(6+2*i)) (c_b hw hi) rfl 1 (by decide) (hts (.fieldLink RX4 60 "TileRunners$Body" "y" "I") (List.mem_of_getElem? (i := 2) rfl)) (fun _ h9 => h9) rfl dX4_touch_34 ?_
        refine lv_iconst (v := 4) hx hb dX4_touch_37 (by decide) ?_
        refine lv_ishr hx hb dX4_touch_38 ?_
        refine lv_topi (fun v6_39 e_v6_39 => ?_)
        have hF := bnd_s e_v6_39 hF
        refine lv_istore (lv' := [(6, .int v6_39), (5, .int w5_27), (4, .int r14), (3, .int r5), (0, .ref (ad (18*w+1))), (1, .ref (ad (18*w+(6+2*i)))), (2, .int a)]) hx hb dX4_touch_39 hl (by decide) rfl (fun ls hl => ?_)
        have L41 : ∀ (n41 : Nat) (w6_41 : Int32) (H : Heap) (locs : List Loc) (ls : Array Slot), (r14.toInt + 1 - w6_41.toInt).toNat < n41 → va_P D vwCl (pool G ad (va_up σ w u)) H → va_S (AA B0) s.heap H locs → lv_has ls 7 [(6, .int w6_41), (5, .int w5_27), (4, .int r14), (3, .int r5), (0, .ref (ad (18*w+1))), (1, .ref (ad (18*w+(6+2*i)))), (2, .int a)] → f4_touch_L41 (f4_touch_L27 u i a r5 r14 n27) u a r14 w5_27 n41 w6_41 = FF → W p l e (headSpec wsX4_touch { frames := 1, cells := 0, slots := 0, locals := 22 }).room s m ([.ref (ad (18*w+1)), .ref (ad (18*w+(6+2*i))), .int a] : List Value).toArray below meth c H locs 0 0 (MQ below (va_Qi (fun (r : Int32) (_ : Unit) => r = f4_touch u i a ∧ bl r) (fun (_ : Unit) => Ho D G ad (va_up σ w u)) (AA B0)) ([.ref (ad (18*w+1)), .ref (ad (18*w+(6+2*i))), .int a] : List Value).toArray s 0 0 (AA B0)) (F0 m 41 ls []) := by
          intro n41
          induction n41 with
          | zero => intro w6_41 H locs ls hm; exact absurd hm (Nat.not_lt_zero _)
          | succ n41 ih41 =>
            intro w6_41 H locs ls hm41 hP hS hl hF
            rw [f4_touch_L41] at hF
            refine lv_iload hx hb dX4_touch_41 (lv_at hl 0 rfl) ?_
            refine lv_iload hx hb dX4_touch_43 (lv_at hl 2 rfl) ?_
            refine lv_icmp_gt (tgt := 68) hx hb dX4_touch_45 (by decide) (fun c45 => ?_) (fun c45 => ?_)
            · have hF := ift c45 hF
              obtain ⟨v5_68, e_v5_68⟩ : ∃ z : Int32, z = w5_27 + 1 := ⟨_, rfl⟩
              have hF := bnd_s e_v5_68 hF
              refine lv_iinc (v := v5_68) (lv' := [(5, .int v5_68), (6, .int w6_41), (4, .int r14), (3, .int r5), (0, .ref (ad (18*w+1))), (1, .ref (ad (18*w+(6+2*i)))), (2, .int a)]) hx hb dX4_touch_68 hl (k := 1) rfl (by rw [e_v5_68]; rfl) (by decide) rfl (fun ls hl => ?_)
              refine lv_goto (tgt := 27) hx hb dX4_touch_71 (by decide) ?_
              exact ih27 v5_68 _ _ ls (ms_s (dec_upe c30 hq_r5 e_v5_68) hm27) hP hS (lv_sub hl [0, 2, 3, 4, 5, 6] rfl) hF
            · have hF := iff_ c45 hF
              refine lv_aload_n hx hb dX4_touch_48 rfl (lv_at hl 4 rfl) ?_
              refine lv_iload hx hb dX4_touch_49 (lv_at hl 1 rfl) ?_
              refine lv_iload hx hb dX4_touch_51 (lv_at hl 0 rfl) ?_
              refine va_calli (va_runV (As := [.int w5_27, .int w6_41]) (rest := []) ⟨hx, hb, hml, hown, hts⟩ (c4_kindAt l hA σ u w hw w5_27 w6_41 ) (cwV 2 hts gX4_touch_X4_kindAt rfl rfl rfl hd_X4_kindAtV ⟨Nat.le_of_ble_eq_true rfl, Nat.le_of_ble_eq_true rfl⟩) ⟨hp_blind, va_recv hK hP (ci := 6) (q0 := 18*w+1) rfl (c_t hw), hp_pre hK hN hP⟩ rfl rfl hl.1 rfl (lv_room (Nat.le_of_ble_eq_true rfl)) dX4_touch_53 ⟨Nat.zero_le _, Nat.zero_le _⟩) hS (fun _ _ h => h) (fun _ h => h) (fun r53 _ t H locs ht hvm hw9 hB hz1 hk1 hS => ?_)
              have hP := ho_at ht hB
              have eq53 := hw9
              have hF := bnd_s eq53 hF
              refine lv_iload_n hx hb dX4_touch_56 rfl (lv_at hl 6 rfl) ?_
              refine lv_icmp_ne (tgt := 62) hx hb dX4_touch_57 (by decide) (fun c57 => ?_) (fun c57 => ?_)
              · have hF := iff_ c57 hF
                obtain ⟨v6_62, e_v6_62⟩ : ∃ z : Int32, z = w6_41 + 1 := ⟨_, rfl⟩
                have hF := bnd_s e_v6_62 hF
                refine lv_iinc (v := v6_62) (lv' := [(6, .int v6_62), (5, .int w5_27), (4, .int r14), (3, .int r5), (0, .ref (ad (18*w+1))), (1, .ref (ad (18*w+(6+2*i)))), (2, .int a)]) hx hb dX4_touch_62 hl (k := 0) rfl (by rw [e_v6_62]; rfl) (by decide) rfl (fun ls hl => ?_)
                refine lv_goto (tgt := 41) hx hb dX4_touch_65 (by decide) ?_
                exact ih41 v6_62 _ _ ls (ms_s (dec_upe c45 hq_r14 e_v6_62) hm41) hP hS (lv_sub hl [0, 1, 2, 3, 4, 5, 6] rfl) hF
              · have hF := ift c57 hF
                refine lv_iconst (v := 1) hx hb dX4_touch_60 (by decide) ?_
                exact W.zret (v := 1) hx hb hr (bl_nar bl1) (fun t ht hW => ⟨⟨1, (), rfl, ⟨hF.trans hFF, bl1⟩, ho_of ht hP⟩, hS.F ht⟩) hS.2.2 dX4_touch_61
        exact L41 BIG v6_39 _ _ ls (big_upe _ _) hP hS (lv_sub hl [0, 1, 2, 3, 4, 5, 6] rfl) hF
  exact L27 BIG v5_25 _ _ ls (big_upe _ _) hP hS (lv_sub hl [0, 1, 2, 3, 4, 5] rfl) hF
theorem hd_X4_touchV : yX4_touch.cls = RX4 ∧ yX4_touch.cls ≠ "java/lang/invoke/MethodHandle" ∧ yX4_touch.cls ≠ "java/lang/invoke/VarHandle" ∧ (parseMethodDescriptor yX4_touch.desc).map (fun d => d.parameters.length) = some 2 := by decide +kernel
set_option maxHeartbeats 4000000 in
set_option maxRecDepth 100000 in
theorem c4_put (l : Launch) {D : va_G} {G : CY} {ad : Nat → Nat} {B0 : Nat} (hA : adOK B0 ad) (σ : Nat → Nat → Int32) (u : Nat → Int32) (w : Nat) (hw : w < 15) (a : Int32) (b : Int32) (c1 : Int32) (hO : okW u) : Met l yX4_put wsX4_put { frames := 2, cells := 0, slots := 0, locals := 43 } (va_Pc [.ref (ad (18*w+1)), .int a, .int b, .int c1] (Hp D G ad (va_up σ w u))) (va_Qv (fun (z : Nat → Int32) => z = f4_put u a b c1 ∧ okW z) (fun (z : Nat → Int32) => Ho D G ad (va_up σ w z)) (AA B0)) 0 0 (AA B0) := by
  refine Met.ofW (cc := cX4_put) (maxL := 4) (ret := none) (by decide) rfl ?_
  intro p e s m args below meth c s₁ B hml hv
  obtain ⟨rfl, hP, hK, hN⟩ := hv
  have hx := B.exec
  have hb := B.bytes
  have hr := B.returns
  have hts := atoms_spec (ws := wsX4_put) B.pre
  have hown : s.vm.findClass RX4 = some m.cls := findClass_of_methodNamed B.named
  have hlocks := B.notSynchronized
  have inX4 : ∀ w ∈ wsX40, w ∈ wsX4_put := (fun w h => List.mem_cons_of_mem _ (List.mem_append_left _ (List.mem_append_right _ h)))
  have hP : va_P D vwCl (pool G ad (va_up σ w u)) s.heap := hP
  have hS : va_S (AA B0) s.heap s.heap [] := va_S.rf
  have hl := lv_entry ([.ref (ad (18*w+1)), .int a, .int b, .int c1]) (n := 4) (Nat.le_of_ble_eq_true rfl)
  rw [lg_entry_eq]
  generalize (lg_sl ([.ref (ad (18*w+1)), .int a, .int b, .int c1]) ++ List.replicate (4 - (lg_sl ([.ref (ad (18*w+1)), .int a, .int b, .int c1])).length) Slot.unset).toArray = ls at hl ⊢
  have hl : lv_has ls 4 [(0, .ref (ad (18*w+1))), (1, .int a), (2, .int b), (3, .int c1)] := hl
  obtain ⟨FF, hFF⟩ : ∃ z, z = f4_put u a b c1 := ⟨_, rfl⟩
  have hF := hFF.symm
  rw [f4_put] at hF
  refine lv_iload_n hx hb dX4_put_0 rfl (lv_at hl 1 rfl) ?_
  refine lv_iload_n hx hb dX4_put_1 rfl (lv_at hl 2 rfl) ?_
  refine va_calli (va_runSN (As := [.int a, .int b]) (rest := []) ⟨hx, hb, hml, hown, hts⟩ (c6_isTile l hA (va_up σ w u) a b ) ⟨va_cnB 2 hts gX4_put_X6_isTile_n21 rfl rfl rfl hN.1 (hts _ (List.mem_of_getElem? (i := 3) rfl)) hd_X6_isTileS ⟨Nat.le_of_ble_eq_true rfl, Nat.le_of_ble_eq_true rfl⟩, hts _ (List.mem_of_getElem? (i := 2) rfl), trivial⟩ ⟨hp_blind, hp_pre hK hN hP⟩ rfl rfl hl.1 rfl (lv_room (Nat.le_of_ble_eq_true rfl)) dX4_put_2 ⟨Nat.zero_le _, Nat.zero_le _⟩) hS (fun _ _ h => h) (fun _ h => h) (fun r2 _ t H locs ht hvm hw9 hB hz1 hk1 hS => ?_)
  have hP := ho_at ht hB
  obtain ⟨eq2, hb_r2⟩ := hw9
  have hF := bnd_s eq2 hF
  refine lv_if_eq (tgt := 20) hx hb dX4_put_5 (by decide) (fun c5 => ?_) (fun c5 => ?_)
  · have hF := ift c5 hF
    exact W.vret hx hb hr (fun t ht hW => ⟨⟨u, rfl, ⟨hF.trans hFF, hO⟩, ho_of ht hP⟩, hS.F ht⟩) hS.2.2 dX4_put_20
  · have hF := iff_ c5 hF
    have hin8 := in_tile eq2 c5
    refine lv_aload_n hx hb dX4_put_8 rfl (lv_at hl 0 rfl) ?_
    refine va_get (D := D) (ci := 6) (C := RX4) (T := TX4) (N := 1) hx hb hts inX4 hown hK hP (18*w+1) (c_t hw) rfl 0 (by decide) (hts (.fieldLink RX4 9 "TileRunners$Tiles" "kinds" "[I") (List.mem_of_getElem? (i := 1) rfl)) (fun _ h9 => h9) rfl dX4_put_9 ?_
    refine lv_iload_n hx hb dX4_put_12 rfl (lv_at hl 2 rfl) ?_
    refine lv_bipush (v := 24) hx hb dX4_put_13 (by decide) ?_
    refine lv_imul hx hb dX4_put_15 ?_
    refine lv_iload_n hx hb dX4_put_16 rfl (lv_at hl 1 rfl) ?_
    refine lv_iadd hx hb dX4_put_17 ?_
    refine lv_iload_n hx hb dX4_put_18 rfl (lv_at hl 3 rfl) ?_
    have hin9 : vp_in ((b * 24) + a) 336 := hin8
    refine past (n := 336) (o := 0) (t := ((b * 24) + a).toNatClampNeg) hx hb hK hP hA hS hw (j := 2) (by omega) (fun _ => rfl) (fun k9 hk9 => own_k (by omega)) hin9 (Nat.zero_add _) dX4_put_19 (fun u9 H locs eu9 hP hS => ?_)
    have hlt9 := in_lt hin9
    obtain ⟨u19, e_u19⟩ : ∃ z, z = u9 := ⟨_, rfl⟩
    rw [← e_u19] at hP eu9
    have hF := bnd_s eu9 hF
    have hO := okW_up eu9 hO (by omega) (by omega)
    exact W.vret hx hb hr (fun t ht hW => ⟨⟨u19, rfl, ⟨hF.trans hFF, hO⟩, ho_of ht hP⟩, hS.F ht⟩) hS.2.2 dX4_put_20
theorem hd_X4_putV : yX4_put.cls = RX4 ∧ yX4_put.cls ≠ "java/lang/invoke/MethodHandle" ∧ yX4_put.cls ≠ "java/lang/invoke/VarHandle" ∧ (parseMethodDescriptor yX4_put.desc).map (fun d => d.parameters.length) = some 3 := by decide +kernel
set_option maxHeartbeats 4000000 in
set_option maxRecDepth 100000 in
theorem c4_giveCoins (l : Launch) {D : va_G} {G : CY} {ad : Nat → Nat} {B0 : Nat} (hA : adOK B0 ad) (σ : Nat → Nat → Int32) (u : Nat → Int32) (w : Nat) (hw : w < 15) (i : Nat) (hi : i < 4) (hO : okW u) : Met l yX4_giveCoins wsX4_giveCoins { frames := 3, cells := 0, slots := 0, locals := 66 } (va_Pc [.ref (ad (18*w+1)), .ref (ad (18*w+(6+2*i)))] (Hp D G ad (va_up σ w u))) (va_Qi (fun (r : Int32) (z : Nat → Int32) => (r, z) = f4_giveCoins u i ∧ okW z) (fun (z : Nat → Int32) => Ho D G ad (va_up σ w z)) (AA B0)) 0 0 (AA B0) := by
  refine Met.ofW (cc := cX4_giveCoins) (maxL := 7) (ret := (some .int)) (by decide) rfl ?_
  intro p e s m args below meth c s₁ B hml hv
  obtain ⟨rfl, hP, hK, hN⟩ := hv
  have hx := B.exec
  have hb := B.bytes
  have hr := B.returns
  have hts := atoms_spec (ws := wsX4_giveCoins) B.pre
  have hown : s.vm.findClass RX4 = some m.cls := findClass_of_methodNamed B.named
  have hlocks := B.notSynchronized
  have inX0 : ∀ w ∈ wsX00, w ∈ wsX4_giveCoins := (fun w h => List.mem_cons_of_mem _ (List.mem_append_left _ (List.mem_append_left _ (List.mem_append_right _ h))))
  have hP : va_P D vwCl (pool G ad (va_up σ w u)) s.heap := hP
  have hS : va_S (AA B0) s.heap s.heap [] := va_S.rf
  have hl := lv_entry ([.ref (ad (18*w+1)), .ref (ad (18*w+(6+2*i)))]) (n := 7) (Nat.le_of_ble_eq_true rfl)
  rw [lg_entry_eq]
  generalize (lg_sl ([.ref (ad (18*w+1)), .ref (ad (18*w+(6+2*i)))]) ++ List.replicate (7 - (lg_sl ([.ref (ad (18*w+1)), .ref (ad (18*w+(6+2*i)))])).length) Slot.unset).toArray = ls at hl ⊢
  have hl : lv_has ls 7 [(0, .ref (ad (18*w+1))), (1, .ref (ad (18*w+(6+2*i))))] := hl
  obtain ⟨FF, hFF⟩ : ∃ z, z = f4_giveCoins u i := ⟨_, rfl⟩
  have hF := hFF.symm
  rw [f4_giveCoins] at hF
  refine lv_iconst (v := 0) hx hb dX4_giveCoins_0 (by decide) ?_
  refine lv_istore_n (lv' := [(2, .int 0), (0, .ref (ad (18*w+1))), (1, .ref (ad (18*w+(6+2*i))))]) hx hb dX4_giveCoins_1 rfl hl (by decide) rfl (fun ls hl => ?_)
  refine lv_aload_n hx hb dX4_giveCoins_2 rfl (lv_at hl 2 rfl) ?_
  refine lv_aload_n hx hb dX4_giveCoins_3 rfl (lv_at hl 2 rfl) ?_
  refine va_get (D := D) (ci := 2) (C := RX0) (T := TX0) (N := 16) hx hb hts inX0 hown hK hP (18*w+(6+2*i)) (c_b hw hi) rfl 0 (by decide) (hts (.fieldLink RX4 56 "TileRunners$Body" "x" "I") (List.mem_of_getElem? (i := 1) rfl)) (fun _ h9 => h9) rfl dX4_giveCoins_4 ?_
  refine va_calli (va_runV (As := [.int (u (336+24*i+0))]) (rest := []) ⟨hx, hb, hml, hown, hts⟩ (c0_lastColumnAt l hA σ u w hw i hi (u (336+24*i+0)) ) (cwV 1 hts gX4_giveCoins_X0_lastColumnAt rfl rfl rfl hd_X0_lastColumnAtV ⟨Nat.le_of_ble_eq_true rfl, Nat.le_of_ble_eq_true rfl⟩) ⟨hp_blind, va_recv hK hP (ci := 2) (q0 := 18*w+(6+2*i)) rfl (c_b hw hi), hp_pre hK hN hP⟩ rfl rfl hl.1 rfl (lv_room (Nat.le_of_ble_eq_true rfl)) dX4_giveCoins_7 ⟨Nat.zero_le _, Nat.zero_le _⟩) hS (fun _ _ h => h) (fun _ h => h) (fun r7 _ t H locs ht hvm hw9 hB hz1 hk1 hS => ?_)
  have hP := ho_at ht hB
  obtain ⟨eq7, hq_r7⟩ := hw9
  have hF := bnd_s eq7 hF
  refine lv_istore_n (lv' := [(3, .int r7), (2, .int 0), (0, .ref (ad (18*w+1))), (1, .ref (ad (18*w+(6+2*i))))]) hx hb dX4_giveCoins_10 rfl hl (by decide) rfl (fun ls hl => ?_)
  refine lv_aload_n hx hb dX4_giveCoins_11 rfl (lv_at hl 3 rfl) ?_
  refine lv_aload_n hx hb dX4_giveCoins_12 rfl (lv_at hl 3 rfl) ?_
  refine va_get (D := D) (ci := 2) (C := RX0) (T := TX0) (N := 16) hx hb hts inX0 hown hK hP (18*w+(6+2*i)) (c_b hw hi) rfl 1 (by decide) (hts (.fieldLink RX4 60 "TileRunners$Body" "y" "I") (List.mem_of_getElem? (i := 2) rfl)) (fun _ h9 => h9) rfl dX4_giveCoins_13 ?_
  refine va_calli (va_runV (As := [.int (u (336+24*i+1))]) (rest := []) ⟨hx, hb, hml, hown, hts⟩ (c0_lastRowAt l hA σ u w hw i hi (u (336+24*i+1)) ) (cwV 1 hts gX4_giveCoins_X0_lastRowAt rfl rfl rfl hd_X0_lastRowAtV ⟨Nat.le_of_ble_eq_true rfl, Nat.le_of_ble_eq_true rfl⟩) ⟨hp_blind, va_recv hK hP (ci := 2) (q0 := 18*w+(6+2*i)) rfl (c_b hw hi), hp_pre hK hN hP⟩ rfl rfl hl.1 rfl (lv_room (Nat.le_of_ble_eq_true rfl)) dX4_giveCoins_16 ⟨Nat.zero_le _, Nat.zero_le _⟩) hS (fun _ _ h => h) (fun _ h => h) (fun r16 _ t H locs ht hvm hw9 hB hz1 hk1 hS => ?_)
  have hP := ho_at ht hB
  obtain ⟨eq16, hq_r16⟩ := hw9
  have hF := bnd_s eq16 hF
  refine lv_istore (lv' := [(4, .int r16), (3, .int r7), (2, .int 0), (0, .ref (ad (18*w+1))), (1, .ref (ad (18*w+(6+2*i))))]) hx hb dX4_giveCoins_19 hl (by decide) rfl (fun ls hl => ?_)
  refine lv_aload_n hx hb dX4_giveCoins_21 rfl (lv_at hl 4 rfl) ?_
  refine va_get (D := D) (ci := 2) (C := RX0) (T := TX0) (N := 16) hx hb hts inX0 hown hK hP (18*w+(6+2*i)) (c_b hw hi) rfl 0 (by decide) (hts (.fieldLink RX4 56 "TileRunners$Body" "x" "I") (List.mem_of_getElem? (i := 1) rfl)) (fun _ h9 => h9) rfl dX4_giveCoins_22 ?_
  refine lv_iconst (v := 4) hx hb dX4_giveCoins_25 (by decide) ?_
  refine lv_ishr hx hb dX4_giveCoins_26 ?_
  refine lv_topi (fun v5_27 e_v5_27 => ?_)
  have hF := bnd_s e_v5_27 hF
  refine lv_istore (lv' := [(5, .int v5_27), (4, .int r16), (3, .int r7), (2, .int 0), (0, .ref (ad (18*w+1))), (1, .ref (ad (18*w+(6+2*i))))]) hx hb dX4_giveCoins_27 hl (by decide) rfl (fun ls hl => ?_)
  have L29 : ∀ (n29 : Nat) (w5_29 : Int32) (w2_29 : Int32) (u_29 : (Nat → Int32)) (H : Heap) (locs : List Loc) (ls : Array Slot), (r7.toInt + 1 - w5_29.toInt).toNat < n29 → okW u_29 → va_P D vwCl (pool G ad (va_up σ w u_29)) H → va_S (AA B0) s.heap H locs → lv_has ls 7 [(5, .int w5_29), (4, .int r16), (3, .int r7), (2, .int w2_29), (0, .ref (ad (18*w+1))), (1, .ref (ad (18*w+(6+2*i))))] → f4_giveCoins_L29 i r7 r16 n29 w5_29 w2_29 u_29 = FF → W p l e (headSpec wsX4_giveCoins { frames := 3, cells := 0, slots := 0, locals := 66 }).room s m ([.ref (ad (18*w+1)), .ref (ad (18*w+(6+2*i)))] : List Value).toArray below meth c H locs 0 0 (MQ below (va_Qi (fun (r : Int32) (z : Nat → Int32) => (r, z) = f4_giveCoins u i ∧ okW z) (fun (z : Nat → Int32) => Ho D G ad (va_up σ w z)) (AA B0)) ([.ref (ad (18*w+1)), .ref (ad (18*w+(6+2*i)))] : List Value).toArray s 0 0 (AA B0)) (F0 m 29 ls []) := by
    intro n29
    induction n29 with
    | zero => intro w5_29 w2_29 u_29 H locs ls hm; exact absurd hm (Nat.not_lt_zero _)
    | succ n29 ih29 =>
      intro w5_29 w2_29 u_29 H locs ls hm29 hO hP hS hl hF
      rw [f4_giveCoins_L29] at hF
      refine lv_iload hx hb dX4_giveCoins_29 (lv_at hl 0 rfl) ?_
      refine lv_iload_n hx hb dX4_giveCoins_31 rfl (lv_at hl 2 rfl) ?_
      refine lv_icmp_gt (tgt := 87) hx hb dX4_giveCoins_32 (by decide) (fun c32 => ?_) (fun c32 => ?_)
      · have hF := ift c32 hF
        refine lv_iload_n hx hb dX4_giveCoins_87 rfl (lv_at hl 3 rfl) ?_
        exact W.iret (v := w2_29) hx hb hr (fun t ht hW => ⟨⟨w2_29, u_29, rfl, ⟨hF.trans hFF, hO⟩, ho_of ht hP⟩, hS.F ht⟩) hS.2.2 dX4_giveCoins_88
      · have hF := iff_ c32 hF
        refine lv_aload_n hx hb dX4_giveCoins_35 rfl (lv_at hl 5 rfl) ?_
        refine va_get (D := D) (ci := 2) (C := RX0) (T := TX0) (N := 16) hx hb hts inX0 hown hK hP (18*w+(6+2*i)) (c_b hw hi) rfl 1 (by decide) (hts (.fieldLink RX4 60 "TileRunners$Body" "y" "I") (List.mem_of_getElem? (i := 2) rfl)) (fun _ h9 => h9) rfl dX4_giveCoins_36 ?_
        refine lv_iconst (v := 4) hx hb dX4_giveCoins_39 (by decide) ?_
        refine lv_ishr hx hb dX4_giveCoins_40 ?_
        refine lv_topi (fun v6_41 e_v6_41 => ?_)
        have hF := bnd_s e_v6_41 hF
        refine lv_istore (lv' := [(6, .int v6_41), (5, .int w5_29), (4, .int r16), (3, .int r7), (2, .int w2_29), (0, .ref (ad (18*w+1))), (1, .ref (ad (18*w+(6+2*i))))]) hx hb dX4_giveCoins_41 hl (by decide) rfl (fun ls hl => ?_)
        have L43 : ∀ (n43 : Nat) (w6_43 : Int32) (w2_43 : Int32) (u_43 : (Nat → Int32)) (H : Heap) (locs : List Loc) (ls : Array Slot), (r16.toInt + 1 - w6_43.toInt).toNat < n43 → okW u_43 → va_P D vwCl (pool G ad (va_up σ w u_43)) H → va_S (AA B0) s.heap H locs → lv_has ls 7 [(6, .int w6_43), (5, .int w5_29), (4, .int r16), (3, .int r7), (2, .int w2_43), (0, .ref (ad (18*w+1))), (1, .ref (ad (18*w+(6+2*i))))] → f4_giveCoins_L43 (f4_giveCoins_L29 i r7 r16 n29) r16 w5_29 n43 w6_43 w2_43 u_43 = FF → W p l e (headSpec wsX4_giveCoins { frames := 3, cells := 0, slots := 0, locals := 66 }).room s m ([.ref (ad (18*w+1)), .ref (ad (18*w+(6+2*i)))] : List Value).toArray below meth c H locs 0 0 (MQ below (va_Qi (fun (r : Int32) (z : Nat → Int32) => (r, z) = f4_giveCoins u i ∧ okW z) (fun (z : Nat → Int32) => Ho D G ad (va_up σ w z)) (AA B0)) ([.ref (ad (18*w+1)), .ref (ad (18*w+(6+2*i)))] : List Value).toArray s 0 0 (AA B0)) (F0 m 43 ls []) := by
          intro n43
          induction n43 with
          | zero => intro w6_43 w2_43 u_43 H locs ls hm; exact absurd hm (Nat.not_lt_zero _)
          | succ n43 ih43 =>
            intro w6_43 w2_43 u_43 H locs ls hm43 hO hP hS hl hF
            rw [f4_giveCoins_L43] at hF
            refine lv_iload hx hb dX4_giveCoins_43 (lv_at hl 0 rfl) ?_
            refine lv_iload hx hb dX4_giveCoins_45 (lv_at hl 2 rfl) ?_
            refine lv_icmp_gt (tgt := 81) hx hb dX4_giveCoins_47 (by decide) (fun c47 => ?_) (fun c47 => ?_)
            · have hF := ift c47 hF
              obtain ⟨v5_81, e_v5_81⟩ : ∃ z : Int32, z = w5_29 + 1 := ⟨_, rfl⟩
              have hF := bnd_s e_v5_81 hF
              refine lv_iinc (v := v5_81) (lv' := [(5, .int v5_81), (6, .int w6_43), (4, .int r16), (3, .int r7), (2, .int w2_43), (0, .ref (ad (18*w+1))), (1, .ref (ad (18*w+(6+2*i))))]) hx hb dX4_giveCoins_81 hl (k := 1) rfl (by rw [e_v5_81]; rfl) (by decide) rfl (fun ls hl => ?_)
              refine lv_goto (tgt := 29) hx hb dX4_giveCoins_84 (by decide) ?_
              exact ih29 v5_81 w2_43 u_43 _ _ ls (ms_s (dec_upe c32 hq_r7 e_v5_81) hm29) hO hP hS (lv_sub hl [0, 2, 3, 4, 5, 6] rfl) hF
            · have hF := iff_ c47 hF
              refine lv_aload_n hx hb dX4_giveCoins_50 rfl (lv_at hl 5 rfl) ?_
              refine lv_iload hx hb dX4_giveCoins_51 (lv_at hl 1 rfl) ?_
              refine lv_iload hx hb dX4_giveCoins_53 (lv_at hl 0 rfl) ?_
              refine va_calli (va_runV (As := [.int w5_29, .int w6_43]) (rest := []) ⟨hx, hb, hml, hown, hts⟩ (c4_kindAt l hA σ u_43 w hw w5_29 w6_43 ) (cwV 2 hts gX4_giveCoins_X4_kindAt rfl rfl rfl hd_X4_kindAtV ⟨Nat.le_of_ble_eq_true rfl, Nat.le_of_ble_eq_true rfl⟩) ⟨hp_blind, va_recv hK hP (ci := 6) (q0 := 18*w+1) rfl (c_t hw), hp_pre hK hN hP⟩ rfl rfl hl.1 rfl (lv_room (Nat.le_of_ble_eq_true rfl)) dX4_giveCoins_55 ⟨Nat.zero_le _, Nat.zero_le _⟩) hS (fun _ _ h => h) (fun _ h => h) (fun r55 _ t H locs ht hvm hw9 hB hz1 hk1 hS => ?_)
              have hP := ho_at ht hB
              have eq55 := hw9
              have hF := bnd_s eq55 hF
              refine lv_bipush (v := 10) hx hb dX4_giveCoins_58 (by decide) ?_
              have J75 : ∀ (w2_75 : Int32) (u_75 : (Nat → Int32)) (H : Heap) (locs : List Loc) (ls : Array Slot), okW u_75 → va_P D vwCl (pool G ad (va_up σ w u_75)) H → va_S (AA B0) s.heap H locs → lv_has ls 7 [(6, .int w6_43), (5, .int w5_29), (4, .int r16), (3, .int r7), (2, .int w2_75), (0, .ref (ad (18*w+1))), (1, .ref (ad (18*w+(6+2*i))))] → f4_giveCoins_b75 (f4_giveCoins_L43 (f4_giveCoins_L29 i r7 r16 n29) r16 w5_29 n43) w6_43 w2_75 u_75 = FF → W p l e (headSpec wsX4_giveCoins { frames := 3, cells := 0, slots := 0, locals := 66 }).room s m ([.ref (ad (18*w+1)), .ref (ad (18*w+(6+2*i)))] : List Value).toArray below meth c H locs 0 0 (MQ below (va_Qi (fun (r : Int32) (z : Nat → Int32) => (r, z) = f4_giveCoins u i ∧ okW z) (fun (z : Nat → Int32) => Ho D G ad (va_up σ w z)) (AA B0)) ([.ref (ad (18*w+1)), .ref (ad (18*w+(6+2*i)))] : List Value).toArray s 0 0 (AA B0)) (F0 m 75 ls []) := by
                intro w2_75 u_75 H locs ls hO hP hS hl hF
                rw [f4_giveCoins_b75] at hF
                obtain ⟨v6_75, e_v6_75⟩ : ∃ z : Int32, z = w6_43 + 1 := ⟨_, rfl⟩
                have hF := bnd_s e_v6_75 hF
                refine lv_iinc (v := v6_75) (lv' := [(6, .int v6_75), (5, .int w5_29), (4, .int r16), (3, .int r7), (2, .int w2_75), (0, .ref (ad (18*w+1))), (1, .ref (ad (18*w+(6+2*i))))]) hx hb dX4_giveCoins_75 hl (k := 0) rfl (by rw [e_v6_75]; rfl) (by decide) rfl (fun ls hl => ?_)
                refine lv_goto (tgt := 43) hx hb dX4_giveCoins_78 (by decide) ?_
                exact ih43 v6_75 w2_75 u_75 _ _ ls (ms_s (dec_upe c47 hq_r16 e_v6_75) hm43) hO hP hS (lv_sub hl [0, 1, 2, 3, 4, 5, 6] rfl) hF
              refine lv_icmp_ne (tgt := 75) hx hb dX4_giveCoins_60 (by decide) (fun c60 => ?_) (fun c60 => ?_)
              · have hF := iff_ c60 hF
                exact J75 w2_43 u_43 _ _ ls hO hP hS (lv_sub hl [0, 1, 2, 3, 4, 5, 6] rfl) hF
              · have hF := ift c60 hF
                refine lv_aload_n hx hb dX4_giveCoins_63 rfl (lv_at hl 5 rfl) ?_
                refine lv_iload hx hb dX4_giveCoins_64 (lv_at hl 1 rfl) ?_
                refine lv_iload hx hb dX4_giveCoins_66 (lv_at hl 0 rfl) ?_
                refine lv_iconst (v := 0) hx hb dX4_giveCoins_68 (by decide) ?_
                refine va_callv (va_runV (As := [.int w5_29, .int w6_43, .int 0]) (rest := []) ⟨hx, hb, hml, hown, hts⟩ (c4_put l hA σ u_43 w hw w5_29 w6_43 0 hO) (cwV 3 hts gX4_giveCoins_X4_put rfl rfl rfl hd_X4_putV ⟨Nat.le_of_ble_eq_true rfl, Nat.le_of_ble_eq_true rfl⟩) ⟨hp_blind, va_recv hK hP (ci := 6) (q0 := 18*w+1) rfl (c_t hw), hp_pre hK hN hP⟩ rfl rfl hl.1 rfl (lv_room (Nat.le_of_ble_eq_true rfl)) dX4_giveCoins_69 ⟨Nat.zero_le _, Nat.zero_le _⟩) hS (fun _ _ h => h) (fun _ h => h) (fun u9 t H locs ht hvm hw9 hB hz1 hk1 hS => ?_)
                have hP := ho_at ht hB
                obtain ⟨eq69, ok9⟩ := hw9
                obtain ⟨u69, e_u69⟩ : ∃ z, z = u9 := ⟨_, rfl⟩
                rw [← e_u69] at hP eq69 ok9
                have hO := ok9
                have hF := bnd_s eq69 hF
                obtain ⟨v2_72, e_v2_72⟩ : ∃ z : Int32, z = w2_43 + 1 := ⟨_, rfl⟩
                have hF := bnd_s e_v2_72 hF
                refine lv_iinc (v := v2_72) (lv' := [(2, .int v2_72), (6, .int w6_43), (5, .int w5_29), (4, .int r16), (3, .int r7), (0, .ref (ad (18*w+1))), (1, .ref (ad (18*w+(6+2*i))))]) hx hb dX4_giveCoins_72 hl (k := 4) rfl (by rw [e_v2_72]; rfl) (by decide) rfl (fun ls hl => ?_)
                exact J75 v2_72 u69 _ _ ls hO hP hS (lv_sub hl [1, 2, 3, 4, 0, 5, 6] rfl) hF
        exact L43 BIG v6_41 w2_29 u_29 _ _ ls (big_upe _ _) hO hP hS (lv_sub hl [0, 1, 2, 3, 4, 5, 6] rfl) hF
  exact L29 BIG v5_27 0 u _ _ ls (big_upe _ _) hO hP hS (lv_sub hl [0, 1, 2, 3, 4, 5] rfl) hF
theorem hd_X4_giveCoinsV : yX4_giveCoins.cls = RX4 ∧ yX4_giveCoins.cls ≠ "java/lang/invoke/MethodHandle" ∧ yX4_giveCoins.cls ≠ "java/lang/invoke/VarHandle" ∧ (parseMethodDescriptor yX4_giveCoins.desc).map (fun d => d.parameters.length) = some 1 := by decide +kernel
set_option maxHeartbeats 4000000 in
set_option maxRecDepth 100000 in
theorem c4_countOf (l : Launch) {D : va_G} {G : CY} {ad : Nat → Nat} {B0 : Nat} (hA : adOK B0 ad) (σ : Nat → Nat → Int32) (u : Nat → Int32) (w : Nat) (hw : w < 15) (a : Int32) : Met l yX4_countOf wsX4_countOf { frames := 0, cells := 0, slots := 0, locals := 0 } (va_Pc [.ref (ad (18*w+1)), .int a] (Hp D G ad (va_up σ w u))) (va_Qi (fun (r : Int32) (_ : Unit) => r = f4_countOf u a) (fun (_ : Unit) => Ho D G ad (va_up σ w u)) (AA B0)) 0 0 (AA B0) := by
  refine Met.ofW (cc := cX4_countOf) (maxL := 4) (ret := (some .int)) (by decide) rfl ?_
  intro p e s m args below meth c s₁ B hml hv
  obtain ⟨rfl, hP, hK, hN⟩ := hv
  have hx := B.exec
  have hb := B.bytes
  have hr := B.returns
  have hts := atoms_spec (ws := wsX4_countOf) B.pre
  have hown : s.vm.findClass RX4 = some m.cls := findClass_of_methodNamed B.named
  have hlocks := B.notSynchronized
  have inX4 : ∀ w ∈ wsX40, w ∈ wsX4_countOf := (fun w h => List.mem_cons_of_mem _ (List.mem_append_left _ (List.mem_append_right _ h)))
  have hP : va_P D vwCl (pool G ad (va_up σ w u)) s.heap := hP
  have hS : va_S (AA B0) s.heap s.heap [] := va_S.rf
  have hl := lv_entry ([.ref (ad (18*w+1)), .int a]) (n := 4) (Nat.le_of_ble_eq_true rfl)
  rw [lg_entry_eq]
  generalize (lg_sl ([.ref (ad (18*w+1)), .int a]) ++ List.replicate (4 - (lg_sl ([.ref (ad (18*w+1)), .int a])).length) Slot.unset).toArray = ls at hl ⊢
  have hl : lv_has ls 4 [(0, .ref (ad (18*w+1))), (1, .int a)] := hl
  obtain ⟨FF, hFF⟩ : ∃ z, z = f4_countOf u a := ⟨_, rfl⟩
  have hF := hFF.symm
  rw [f4_countOf] at hF
  refine lv_iconst (v := 0) hx hb dX4_countOf_0 (by decide) ?_
  refine lv_istore_n (lv' := [(2, .int 0), (0, .ref (ad (18*w+1))), (1, .int a)]) hx hb dX4_countOf_1 rfl hl (by decide) rfl (fun ls hl => ?_)
  refine lv_iconst (v := 0) hx hb dX4_countOf_2 (by decide) ?_
  refine lv_istore_n (lv' := [(3, .int 0), (2, .int 0), (0, .ref (ad (18*w+1))), (1, .int a)]) hx hb dX4_countOf_3 rfl hl (by decide) rfl (fun ls hl => ?_)
  have L4 : ∀ (n4 : Nat) (w3_4 : Int32) (w2_4 : Int32) (H : Heap) (locs : List Loc) (ls : Array Slot), ((336 : Int32).toInt - w3_4.toInt).toNat < n4 → 0 ≤ w3_4 → va_P D vwCl (pool G ad (va_up σ w u)) H → va_S (AA B0) s.heap H locs → lv_has ls 4 [(3, .int w3_4), (2, .int w2_4), (0, .ref (ad (18*w+1))), (1, .int a)] → f4_countOf_L4 u a n4 w3_4 w2_4 = FF → W p l e (headSpec wsX4_countOf { frames := 0, cells := 0, slots := 0, locals := 0 }).room s m ([.ref (ad (18*w+1)), .int a] : List Value).toArray below meth c H locs 0 0 (MQ below (va_Qi (fun (r : Int32) (_ : Unit) => r = f4_countOf u a) (fun (_ : Unit) => Ho D G ad (va_up σ w u)) (AA B0)) ([.ref (ad (18*w+1)), .int a] : List Value).toArray s 0 0 (AA B0)) (F0 m 4 ls []) := by
    intro n4
    induction n4 with
    | zero => intro w3_4 w2_4 H locs ls hm; exact absurd hm (Nat.not_lt_zero _)
    | succ n4 ih4 =>
      intro w3_4 w2_4 H locs ls hm4 h3 hP hS hl hF
      rw [f4_countOf_L4] at hF
      refine lv_iload_n hx hb dX4_countOf_4 rfl (lv_at hl 0 rfl) ?_
      refine lv_sipush (v := 336) hx hb dX4_countOf_5 (by decide) ?_
      refine lv_icmp_ge (tgt := 30) hx hb dX4_countOf_8 (by decide) (fun c8 => ?_) (fun c8 => ?_)
      · have hF := ift c8 hF
        refine lv_iload_n hx hb dX4_countOf_30 rfl (lv_at hl 1 rfl) ?_
        exact W.iret (v := w2_4) hx hb hr (fun t ht hW => ⟨⟨w2_4, (), rfl, hF.trans hFF, ho_of ht hP⟩, hS.F ht⟩) hS.2.2 dX4_countOf_31
      · have hF := iff_ c8 hF
        refine lv_aload_n hx hb dX4_countOf_11 rfl (lv_at hl 2 rfl) ?_
        refine va_get (D := D) (ci := 6) (C := RX4) (T := TX4) (N := 1) hx hb hts inX4 hown hK hP (18*w+1) (c_t hw) rfl 0 (by decide) (hts (.fieldLink RX4 9 "TileRunners$Tiles" "kinds" "[I") (List.mem_of_getElem? (i := 1) rfl)) (fun _ h9 => h9) rfl dX4_countOf_12 ?_
        refine lv_iload_n hx hb dX4_countOf_15 rfl (lv_at hl 0 rfl) ?_
        refine pald (n := 336) (o := 0) (t := w3_4.toNatClampNeg) (i := w3_4) hx hb hK hP (c_k hw) (in_n h3 (nle_lt c8) (by decide)) (Nat.zero_add _) dX4_countOf_16 ?_
        refine lv_iload_n hx hb dX4_countOf_17 rfl (lv_at hl 3 rfl) ?_
        have J24 : ∀ (w2_24 : Int32) (H : Heap) (locs : List Loc) (ls : Array Slot), va_P D vwCl (pool G ad (va_up σ w u)) H → va_S (AA B0) s.heap H locs → lv_has ls 4 [(3, .int w3_4), (2, .int w2_24), (0, .ref (ad (18*w+1))), (1, .int a)] → f4_countOf_b24 (f4_countOf_L4 u a n4) w3_4 w2_24 = FF → W p l e (headSpec wsX4_countOf { frames := 0, cells := 0, slots := 0, locals := 0 }).room s m ([.ref (ad (18*w+1)), .int a] : List Value).toArray below meth c H locs 0 0 (MQ below (va_Qi (fun (r : Int32) (_ : Unit) => r = f4_countOf u a) (fun (_ : Unit) => Ho D G ad (va_up σ w u)) (AA B0)) ([.ref (ad (18*w+1)), .int a] : List Value).toArray s 0 0 (AA B0)) (F0 m 24 ls []) := by
          intro w2_24 H locs ls hP hS hl hF
          rw [f4_countOf_b24] at hF
          obtain ⟨v3_24, e_v3_24⟩ : ∃ z : Int32, z = w3_4 + 1 := ⟨_, rfl⟩
          have hF := bnd_s e_v3_24 hF
          refine lv_iinc (v := v3_24) (lv' := [(3, .int v3_24), (2, .int w2_24), (0, .ref (ad (18*w+1))), (1, .int a)]) hx hb dX4_countOf_24 hl (k := 0) rfl (by rw [e_v3_24]; rfl) (by decide) rfl (fun ls hl => ?_)
          refine lv_goto (tgt := 4) hx hb dX4_countOf_27 (by decide) ?_
          exact ih4 v3_24 w2_24 _ _ ls (ms_s (dec_up (nle_lt c8) e_v3_24) hm4) (inc_ge0 (nle_lt c8) h3 e_v3_24) hP hS (lv_sub hl [0, 1, 2, 3] rfl) hF
        refine lv_icmp_ne (tgt := 24) hx hb dX4_countOf_18 (by decide) (fun c18 => ?_) (fun c18 => ?_)
        · have hF := iff_ c18 hF
          exact J24 w2_4 _ _ ls hP hS (lv_sub hl [0, 1, 2, 3] rfl) hF
        · have hF := ift c18 hF
          obtain ⟨v2_21, e_v2_21⟩ : ∃ z : Int32, z = w2_4 + 1 := ⟨_, rfl⟩
          have hF := bnd_s e_v2_21 hF
          refine lv_iinc (v := v2_21) (lv' := [(2, .int v2_21), (3, .int w3_4), (0, .ref (ad (18*w+1))), (1, .int a)]) hx hb dX4_countOf_21 hl (k := 1) rfl (by rw [e_v2_21]; rfl) (by decide) rfl (fun ls hl => ?_)
          exact J24 v2_21 _ _ ls hP hS (lv_sub hl [1, 0, 2, 3] rfl) hF
  exact L4 BIG 0 0 _ _ ls (big_up _ _) le0 hP hS (lv_sub hl [0, 1, 2, 3] rfl) hF
theorem hd_X4_countOfV : yX4_countOf.cls = RX4 ∧ yX4_countOf.cls ≠ "java/lang/invoke/MethodHandle" ∧ yX4_countOf.cls ≠ "java/lang/invoke/VarHandle" ∧ (parseMethodDescriptor yX4_countOf.desc).map (fun d => d.parameters.length) = some 1 := by decide +kernel
