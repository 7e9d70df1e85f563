set_option maxHeartbeats 4000000 in
set_option maxRecDepth 100000 in
theorem c0_copyFrom (l : Launch) {D : va_G} {G : CY} {ad : Nat → Nat} {B0 : Nat} (hA : adOK B0 ad) (σ : Nat → Nat → Int32) (w : Nat) (hw : w < 15) (i : Nat) (hi : i < 4) (v : Nat) (hv : v < 15) (j : Nat) (hj : j < 4) (hO : okS σ) : Met l yX0_copyFrom wsX0_copyFrom { frames := 1, cells := 0, slots := 0, locals := 60 } (va_Pc [.ref (ad (18*w+(6+2*i))), .ref (ad (18*v+(6+2*j)))] (Hp D G ad σ)) (va_Qv (fun (z : Nat → Nat → Int32) => z = f0_copyFrom σ w i v j ∧ okS z) (fun (z : Nat → Nat → Int32) => Ho D G ad z) (AA B0)) 0 0 (AA B0) := by
  refine Met.ofW (cc := cX0_copyFrom) (maxL := 2) (ret := none) (by decide) rfl ?_
  intro p e s m args below meth c s₁ B hml hv
  obtain ⟨rfl, hP, hK, hN⟩ := hv
  have hx := B.exec
  have hb := B.bytes
  have hr := B.returns
  have hts := atoms_spec (ws := wsX0_copyFrom) B.pre
  have hown : s.vm.findClass RX0 = some m.cls := findClass_of_methodNamed B.named
  have hlocks := B.notSynchronized
  have inX0 : ∀ w ∈ wsX00, w ∈ wsX0_copyFrom := (fun w h => List.mem_cons_of_mem _ (List.mem_append_right _ h))
  have hP : va_P D vwCl (pool G ad σ) s.heap := hP
  have hS : va_S (AA B0) s.heap s.heap [] := va_S.rf
  have hl := lv_entry ([.ref (ad (18*w+(6+2*i))), .ref (ad (18*v+(6+2*j)))]) (n := 2) (Nat.le_of_ble_eq_true rfl)
  rw [lg_entry_eq]
  generalize (lg_sl ([.ref (ad (18*w+(6+2*i))), .ref (ad (18*v+(6+2*j)))]) ++ List.replicate (2 - (lg_sl ([.ref (ad (18*w+(6+2*i))), .ref (ad (18*v+(6+2*j)))])).length) Slot.unset).toArray = ls at hl ⊢
  have hl : lv_has ls 2 [(0, .ref (ad (18*w+(6+2*i)))), (1, .ref (ad (18*v+(6+2*j))))] := hl
  obtain ⟨FF, hFF⟩ : ∃ z, z = f0_copyFrom σ w i v j := ⟨_, rfl⟩
  have hF := hFF.symm
  rw [f0_copyFrom] at hF
  refine lv_aload_n hx hb dX0_copyFrom_0 rfl (lv_at hl 0 rfl) ?_
  refine lv_aload_n hx hb dX0_copyFrom_1 rfl (lv_at hl 1 rfl) ?_
  refine va_get (D := D) (ci := 2) (C := RX0) (T := TX0) (N := 16) hx hb hts inX0 hown hK hP (18*v+(6+2*j)) (g_b hv hj) rfl 0 (by decide) (hts (.fieldLink RX0 15 "TileRunners$Body" "x" "I") (List.mem_of_getElem? (i := 1) rfl)) (fun _ h9 => h9) rfl dX0_copyFrom_2 ?_
  have hP := f_eta w hP
  refine pput hx hb hts inX0 tyX0 tyX0_ok nmX0 hown hK hP hA hS hw (j := 6+2*i) (by omega) (wcel_b hi) rfl 0 (by decide) (hts (.fieldLink RX0 15 "TileRunners$Body" "x" "I") (List.mem_of_getElem? (i := 1) rfl)) (fun _ h9 => h9) rfl (tyX0_ok 0 (by decide)) rfl rfl (Nat.le_of_ble_eq_true rfl) (336+24*i+0) (own_b hi (by decide) (by decide)) (setB_0 hi) dX0_copyFrom_5 (fun u9 H locs eu9 hP hS => ?_)
  obtain ⟨σ5, e_σ5⟩ : ∃ z, z = va_up σ w (va_up (σ w) (336+24*i+0) (σ v (336+24*j+0))) := ⟨_, rfl⟩
  rw [eu9, ← e_σ5] at hP
  have hF := bnd_s e_σ5 hF
  have hO := okS_up e_σ5 hO hw (by omega) (by omega)
  refine lv_aload_n hx hb dX0_copyFrom_8 rfl (lv_at hl 0 rfl) ?_
  refine lv_aload_n hx hb dX0_copyFrom_9 rfl (lv_at hl 1 rfl) ?_
  refine va_get (D := D) (ci := 2) (C := RX0) (T := TX0) (N := 16) hx hb hts inX0 hown hK hP (18*v+(6+2*j)) (g_b hv hj) rfl 1 (by decide) (hts (.fieldLink RX0 19 "TileRunners$Body" "y" "I") (List.mem_of_getElem? (i := 2) rfl)) (fun _ h9 => h9) rfl dX0_copyFrom_10 ?_
  have hP := f_eta w hP
  refine pput hx hb hts inX0 tyX0 tyX0_ok nmX0 hown hK hP hA hS hw (j := 6+2*i) (by omega) (wcel_b hi) rfl 1 (by decide) (hts (.fieldLink RX0 19 "TileRunners$Body" "y" "I") (List.mem_of_getElem? (i := 2) rfl)) (fun _ h9 => h9) rfl (tyX0_ok 1 (by decide)) rfl rfl (Nat.le_of_ble_eq_true rfl) (336+24*i+1) (own_b hi (by decide) (by decide)) (setB_1 hi) dX0_copyFrom_13 (fun u9 H locs eu9 hP hS => ?_)
  obtain ⟨σ13, e_σ13⟩ : ∃ z, z = va_up σ5 w (va_up (σ5 w) (336+24*i+1) (σ5 v (336+24*j+1))) := ⟨_, rfl⟩
  rw [eu9, ← e_σ13] at hP
  have hF := bnd_s e_σ13 hF
  have hO := okS_up e_σ13 hO hw (by omega) (by omega)
  refine lv_aload_n hx hb dX0_copyFrom_16 rfl (lv_at hl 0 rfl) ?_
  refine lv_aload_n hx hb dX0_copyFrom_17 rfl (lv_at hl 1 rfl) ?_
  refine va_get (D := D) (ci := 2) (C := RX0) (T := TX0) (N := 16) hx hb hts inX0 hown hK hP (18*v+(6+2*j)) (g_b hv hj) rfl 2 (by decide) (hts (.fieldLink RX0 28 "TileRunners$Body" "width" "I") (List.mem_of_getElem? (i := 3) rfl)) (fun _ h9 => h9) rfl dX0_copyFrom_18 ?_
  have hP := f_eta w hP
  refine pput hx hb hts inX0 tyX0 tyX0_ok nmX0 hown hK hP hA hS hw (j := 6+2*i) (by omega) (wcel_b hi) rfl 2 (by decide) (hts (.fieldLink RX0 28 "TileRunners$Body" "width" "I") (List.mem_of_getElem? (i := 3) rfl)) (fun _ h9 => h9) rfl (tyX0_ok 2 (by decide)) rfl rfl (Nat.le_of_ble_eq_true rfl) (336+24*i+7) (own_b hi (by decide) (by decide)) (setB_2 hi) dX0_copyFrom_21 (fun u9 H locs eu9 hP hS => ?_)
  obtain ⟨σ21, e_σ21⟩ : ∃ z, z = va_up σ13 w (va_up (σ13 w) (336+24*i+7) (σ13 v (336+24*j+7))) := ⟨_, rfl⟩
  rw [eu9, ← e_σ21] at hP
  have hF := bnd_s e_σ21 hF
  have hO := okS_up e_σ21 hO hw (by omega) (by omega)
  refine lv_aload_n hx hb dX0_copyFrom_24 rfl (lv_at hl 0 rfl) ?_
  refine lv_aload_n hx hb dX0_copyFrom_25 rfl (lv_at hl 1 rfl) ?_
  refine va_get (D := D) (ci := 2) (C := RX0) (T := TX0) (N := 16) hx hb hts inX0 hown hK hP (18*v+(6+2*j)) (g_b hv hj) rfl 3 (by decide) (hts (.fieldLink RX0 31 "TileRunners$Body" "height" "I") (List.mem_of_getElem? (i := 4) rfl)) (fun _ h9 => h9) rfl dX0_copyFrom_26 ?_
  have hP := f_eta w hP
  refine pput hx hb hts inX0 tyX0 tyX0_ok nmX0 hown hK hP hA hS hw (j := 6+2*i) (by omega) (wcel_b hi) rfl 3 (by decide) (hts (.fieldLink RX0 31 "TileRunners$Body" "height" "I") (List.mem_of_getElem? (i := 4) rfl)) (fun _ h9 => h9) rfl (tyX0_ok 3 (by decide)) rfl rfl (Nat.le_of_ble_eq_true rfl) (336+24*i+8) (own_b hi (by decide) (by decide)) (setB_3 hi) dX0_copyFrom_29 (fun u9 H locs eu9 hP hS => ?_)
  obtain ⟨σ29, e_σ29⟩ : ∃ z, z = va_up σ21 w (va_up (σ21 w) (336+24*i+8) (σ21 v (336+24*j+8))) := ⟨_, rfl⟩
  rw [eu9, ← e_σ29] at hP
  have hF := bnd_s e_σ29 hF
  have hO := okS_up e_σ29 hO hw (by omega) (by omega)
  refine lv_aload_n hx hb dX0_copyFrom_32 rfl (lv_at hl 0 rfl) ?_
  refine lv_aload_n hx hb dX0_copyFrom_33 rfl (lv_at hl 1 rfl) ?_
  refine va_get (D := D) (ci := 2) (C := RX0) (T := TX0) (N := 16) hx hb hts inX0 hown hK hP (18*v+(6+2*j)) (g_b hv hj) rfl 4 (by decide) (hts (.fieldLink RX0 22 "TileRunners$Body" "firstX" "I") (List.mem_of_getElem? (i := 5) rfl)) (fun _ h9 => h9) rfl dX0_copyFrom_34 ?_
  have hP := f_eta w hP
  refine pput hx hb hts inX0 tyX0 tyX0_ok nmX0 hown hK hP hA hS hw (j := 6+2*i) (by omega) (wcel_b hi) rfl 4 (by decide) (hts (.fieldLink RX0 22 "TileRunners$Body" "firstX" "I") (List.mem_of_getElem? (i := 5) rfl)) (fun _ h9 => h9) rfl (tyX0_ok 4 (by decide)) rfl rfl (Nat.le_of_ble_eq_true rfl) (336+24*i+12) (own_b hi (by decide) (by decide)) (setB_4 hi) dX0_copyFrom_37 (fun u9 H locs eu9 hP hS => ?_)
  obtain ⟨σ37, e_σ37⟩ : ∃ z, z = va_up σ29 w (va_up (σ29 w) (336+24*i+12) (σ29 v (336+24*j+12))) := ⟨_, rfl⟩
  rw [eu9, ← e_σ37] at hP
  have hF := bnd_s e_σ37 hF
  have hO := okS_up e_σ37 hO hw (by omega) (by omega)
  refine lv_aload_n hx hb dX0_copyFrom_40 rfl (lv_at hl 0 rfl) ?_
  refine lv_aload_n hx hb dX0_copyFrom_41 rfl (lv_at hl 1 rfl) ?_
  refine va_get (D := D) (ci := 2) (C := RX0) (T := TX0) (N := 16) hx hb hts inX0 hown hK hP (18*v+(6+2*j)) (g_b hv hj) rfl 5 (by decide) (hts (.fieldLink RX0 25 "TileRunners$Body" "firstY" "I") (List.mem_of_getElem? (i := 6) rfl)) (fun _ h9 => h9) rfl dX0_copyFrom_42 ?_
  have hP := f_eta w hP
  refine pput hx hb hts inX0 tyX0 tyX0_ok nmX0 hown hK hP hA hS hw (j := 6+2*i) (by omega) (wcel_b hi) rfl 5 (by decide) (hts (.fieldLink RX0 25 "TileRunners$Body" "firstY" "I") (List.mem_of_getElem? (i := 6) rfl)) (fun _ h9 => h9) rfl (tyX0_ok 5 (by decide)) rfl rfl (Nat.le_of_ble_eq_true rfl) (336+24*i+13) (own_b hi (by decide) (by decide)) (setB_5 hi) dX0_copyFrom_45 (fun u9 H locs eu9 hP hS => ?_)
  obtain ⟨σ45, e_σ45⟩ : ∃ z, z = va_up σ37 w (va_up (σ37 w) (336+24*i+13) (σ37 v (336+24*j+13))) := ⟨_, rfl⟩
  rw [eu9, ← e_σ45] at hP
  have hF := bnd_s e_σ45 hF
  have hO := okS_up e_σ45 hO hw (by omega) (by omega)
  refine lv_aload_n hx hb dX0_copyFrom_48 rfl (lv_at hl 0 rfl) ?_
  refine lv_aload_n hx hb dX0_copyFrom_49 rfl (lv_at hl 1 rfl) ?_
  refine va_get (D := D) (ci := 2) (C := RX0) (T := TX0) (N := 16) hx hb hts inX0 hown hK hP (18*v+(6+2*j)) (g_b hv hj) rfl 6 (by decide) (hts (.fieldLink RX0 46 "TileRunners$Body" "horizontal" "I") (List.mem_of_getElem? (i := 7) rfl)) (fun _ h9 => h9) rfl dX0_copyFrom_50 ?_
  have hP := f_eta w hP
  refine pput hx hb hts inX0 tyX0 tyX0_ok nmX0 hown hK hP hA hS hw (j := 6+2*i) (by omega) (wcel_b hi) rfl 6 (by decide) (hts (.fieldLink RX0 46 "TileRunners$Body" "horizontal" "I") (List.mem_of_getElem? (i := 7) rfl)) (fun _ h9 => h9) rfl (tyX0_ok 6 (by decide)) rfl rfl (Nat.le_of_ble_eq_true rfl) (336+24*i+2) (own_b hi (by decide) (by decide)) (setB_6 hi) dX0_copyFrom_53 (fun u9 H locs eu9 hP hS => ?_)
  obtain ⟨σ53, e_σ53⟩ : ∃ z, z = va_up σ45 w (va_up (σ45 w) (336+24*i+2) (σ45 v (336+24*j+2))) := ⟨_, rfl⟩
  rw [eu9, ← e_σ53] at hP
  have hF := bnd_s e_σ53 hF
  have hO := okS_up e_σ53 hO hw (by omega) (by omega)
  refine lv_aload_n hx hb dX0_copyFrom_56 rfl (lv_at hl 0 rfl) ?_
  refine lv_aload_n hx hb dX0_copyFrom_57 rfl (lv_at hl 1 rfl) ?_
  refine va_get (D := D) (ci := 2) (C := RX0) (T := TX0) (N := 16) hx hb hts inX0 hown hK hP (18*v+(6+2*j)) (g_b hv hj) rfl 7 (by decide) (hts (.fieldLink RX0 49 "TileRunners$Body" "vertical" "I") (List.mem_of_getElem? (i := 8) rfl)) (fun _ h9 => h9) rfl dX0_copyFrom_58 ?_
  have hP := f_eta w hP
  refine pput hx hb hts inX0 tyX0 tyX0_ok nmX0 hown hK hP hA hS hw (j := 6+2*i) (by omega) (wcel_b hi) rfl 7 (by decide) (hts (.fieldLink RX0 49 "TileRunners$Body" "vertical" "I") (List.mem_of_getElem? (i := 8) rfl)) (fun _ h9 => h9) rfl (tyX0_ok 7 (by decide)) rfl rfl (Nat.le_of_ble_eq_true rfl) (336+24*i+3) (own_b hi (by decide) (by decide)) (setB_7 hi) dX0_copyFrom_61 (fun u9 H locs eu9 hP hS => ?_)
  obtain ⟨σ61, e_σ61⟩ : ∃ z, z = va_up σ53 w (va_up (σ53 w) (336+24*i+3) (σ53 v (336+24*j+3))) := ⟨_, rfl⟩
  rw [eu9, ← e_σ61] at hP
  have hF := bnd_s e_σ61 hF
  have hO := okS_up e_σ61 hO hw (by omega) (by omega)
  refine lv_aload_n hx hb dX0_copyFrom_64 rfl (lv_at hl 0 rfl) ?_
  refine lv_aload_n hx hb dX0_copyFrom_65 rfl (lv_at hl 1 rfl) ?_
  refine va_get (D := D) (ci := 2) (C := RX0) (T := TX0) (N := 16) hx hb hts inX0 hown hK hP (18*v+(6+2*j)) (g_b hv hj) rfl 8 (by decide) (hts (.fieldLink RX0 52 "TileRunners$Body" "late" "I") (List.mem_of_getElem? (i := 9) rfl)) (fun _ h9 => h9) rfl dX0_copyFrom_66 ?_
  have hP := f_eta w hP
  refine pput hx hb hts inX0 tyX0 tyX0_ok nmX0 hown hK hP hA hS hw (j := 6+2*i) (by omega) (wcel_b hi) rfl 8 (by decide) (hts (.fieldLink RX0 52 "TileRunners$Body" "late" "I") (List.mem_of_getElem? (i := 9) rfl)) (fun _ h9 => h9) rfl (tyX0_ok 8 (by decide)) rfl rfl (Nat.le_of_ble_eq_true rfl) (336+24*i+4) (own_b hi (by decide) (by decide)) (setB_8 hi) dX0_copyFrom_69 (fun u9 H locs eu9 hP hS => ?_)
  obtain ⟨σ69, e_σ69⟩ : ∃ z, z = va_up σ61 w (va_up (σ61 w) (336+24*i+4) (σ61 v (336+24*j+4))) := ⟨_, rfl⟩
  rw [eu9, ← e_σ69] at hP
  have hF := bnd_s e_σ69 hF
  have hO := okS_up e_σ69 hO hw (by omega) (by omega)
  refine lv_aload_n hx hb dX0_copyFrom_72 rfl (lv_at hl 0 rfl) ?_
  refine lv_aload_n hx hb dX0_copyFrom_73 rfl (lv_at hl 1 rfl) ?_
  refine va_get (D := D) (ci := 2) (C := RX0) (T := TX0) (N := 16) hx hb hts inX0 hown hK hP (18*v+(6+2*j)) (g_b hv hj) rfl 9 (by decide) (hts (.fieldLink RX0 55 "TileRunners$Body" "buffer" "I") (List.mem_of_getElem? (i := 10) rfl)) (fun _ h9 => h9) rfl dX0_copyFrom_74 ?_
  have hP := f_eta w hP
  refine pput hx hb hts inX0 tyX0 tyX0_ok nmX0 hown hK hP hA hS hw (j := 6+2*i) (by omega) (wcel_b hi) rfl 9 (by decide) (hts (.fieldLink RX0 55 "TileRunners$Body" "buffer" "I") (List.mem_of_getElem? (i := 10) rfl)) (fun _ h9 => h9) rfl (tyX0_ok 9 (by decide)) rfl rfl (Nat.le_of_ble_eq_true rfl) (336+24*i+5) (own_b hi (by decide) (by decide)) (setB_9 hi) dX0_copyFrom_77 (fun u9 H locs eu9 hP hS => ?_)
  obtain ⟨σ77, e_σ77⟩ : ∃ z, z = va_up σ69 w (va_up (σ69 w) (336+24*i+5) (σ69 v (336+24*j+5))) := ⟨_, rfl⟩
  rw [eu9, ← e_σ77] at hP
  have hF := bnd_s e_σ77 hF
  have hO := okS_up e_σ77 hO hw (by omega) (by omega)
  refine lv_aload_n hx hb dX0_copyFrom_80 rfl (lv_at hl 0 rfl) ?_
  refine lv_aload_n hx hb dX0_copyFrom_81 rfl (lv_at hl 1 rfl) ?_
  refine va_get (D := D) (ci := 2) (C := RX0) (T := TX0) (N := 16) hx hb hts inX0 hown hK hP (18*v+(6+2*j)) (g_b hv hj) rfl 10 (by decide) (hts (.fieldLink RX0 58 "TileRunners$Body" "dropping" "I") (List.mem_of_getElem? (i := 11) rfl)) (fun _ h9 => h9) rfl dX0_copyFrom_82 ?_
  have hP := f_eta w hP
  refine pput hx hb hts inX0 tyX0 tyX0_ok nmX0 hown hK hP hA hS hw (j := 6+2*i) (by omega) (wcel_b hi) rfl 10 (by decide) (hts (.fieldLink RX0 58 "TileRunners$Body" "dropping" "I") (List.mem_of_getElem? (i := 11) rfl)) (fun _ h9 => h9) rfl (tyX0_ok 10 (by decide)) rfl rfl (Nat.le_of_ble_eq_true rfl) (336+24*i+6) (own_b hi (by decide) (by decide)) (setB_10 hi) dX0_copyFrom_85 (fun u9 H locs eu9 hP hS => ?_)
  obtain ⟨σ85, e_σ85⟩ : ∃ z, z = va_up σ77 w (va_up (σ77 w) (336+24*i+6) (σ77 v (336+24*j+6))) := ⟨_, rfl⟩
  rw [eu9, ← e_σ85] at hP
  have hF := bnd_s e_σ85 hF
  have hO := okS_up e_σ85 hO hw (by omega) (by omega)
  refine lv_aload_n hx hb dX0_copyFrom_88 rfl (lv_at hl 0 rfl) ?_
  refine lv_aload_n hx hb dX0_copyFrom_89 rfl (lv_at hl 1 rfl) ?_
  refine va_get (D := D) (ci := 2) (C := RX0) (T := TX0) (N := 16) hx hb hts inX0 hown hK hP (18*v+(6+2*j)) (g_b hv hj) rfl 11 (by decide) (hts (.fieldLink RX0 34 "TileRunners$Body" "input" "I") (List.mem_of_getElem? (i := 12) rfl)) (fun _ h9 => h9) rfl dX0_copyFrom_90 ?_
  have hP := f_eta w hP
  refine pput hx hb hts inX0 tyX0 tyX0_ok nmX0 hown hK hP hA hS hw (j := 6+2*i) (by omega) (wcel_b hi) rfl 11 (by decide) (hts (.fieldLink RX0 34 "TileRunners$Body" "input" "I") (List.mem_of_getElem? (i := 12) rfl)) (fun _ h9 => h9) rfl (tyX0_ok 11 (by decide)) rfl rfl (Nat.le_of_ble_eq_true rfl) (336+24*i+9) (own_b hi (by decide) (by decide)) (setB_11 hi) dX0_copyFrom_93 (fun u9 H locs eu9 hP hS => ?_)
  obtain ⟨σ93, e_σ93⟩ : ∃ z, z = va_up σ85 w (va_up (σ85 w) (336+24*i+9) (σ85 v (336+24*j+9))) := ⟨_, rfl⟩
  rw [eu9, ← e_σ93] at hP
  have hF := bnd_s e_σ93 hF
  have hO := okS_up e_σ93 hO hw (by omega) (by omega)
  refine lv_aload_n hx hb dX0_copyFrom_96 rfl (lv_at hl 0 rfl) ?_
  refine lv_aload_n hx hb dX0_copyFrom_97 rfl (lv_at hl 1 rfl) ?_
  refine va_get (D := D) (ci := 2) (C := RX0) (T := TX0) (N := 16) hx hb hts inX0 hown hK hP (18*v+(6+2*j)) (g_b hv hj) rfl 12 (by decide) (hts (.fieldLink RX0 37 "TileRunners$Body" "earlierInput" "I") (List.mem_of_getElem? (i := 13) rfl)) (fun _ h9 => h9) rfl dX0_copyFrom_98 ?_
  have hP := f_eta w hP
  refine pput hx hb hts inX0 tyX0 tyX0_ok nmX0 hown hK hP hA hS hw (j := 6+2*i) (by omega) (wcel_b hi) rfl 12 (by decide) (hts (.fieldLink RX0 37 "TileRunners$Body" "earlierInput" "I") (List.mem_of_getElem? (i := 13) rfl)) (fun _ h9 => h9) rfl (tyX0_ok 12 (by decide)) rfl rfl (Nat.le_of_ble_eq_true rfl) (336+24*i+10) (own_b hi (by decide) (by decide)) (setB_12 hi) dX0_copyFrom_101 (fun u9 H locs eu9 hP hS => ?_)
  obtain ⟨σ101, e_σ101⟩ : ∃ z, z = va_up σ93 w (va_up (σ93 w) (336+24*i+10) (σ93 v (336+24*j+10))) := ⟨_, rfl⟩
  rw [eu9, ← e_σ101] at hP
  have hF := bnd_s e_σ101 hF
  have hO := okS_up e_σ101 hO hw (by omega) (by omega)
  refine lv_aload_n hx hb dX0_copyFrom_104 rfl (lv_at hl 0 rfl) ?_
  refine lv_aload_n hx hb dX0_copyFrom_105 rfl (lv_at hl 1 rfl) ?_
  refine va_get (D := D) (ci := 2) (C := RX0) (T := TX0) (N := 16) hx hb hts inX0 hown hK hP (18*v+(6+2*j)) (g_b hv hj) rfl 13 (by decide) (hts (.fieldLink RX0 61 "TileRunners$Body" "rises" "Z") (List.mem_of_getElem? (i := 14) rfl)) (fun _ h9 => h9) rfl dX0_copyFrom_106 ?_
  have hP := f_eta w hP
  refine pput hx hb hts inX0 tyX0 tyX0_ok nmX0 hown hK hP hA hS hw (j := 6+2*i) (by omega) (wcel_b hi) rfl 13 (by decide) (hts (.fieldLink RX0 61 "TileRunners$Body" "rises" "Z") (List.mem_of_getElem? (i := 14) rfl)) (fun _ h9 => h9) rfl (tyX0_ok 13 (by decide)) (bl_nar (nb_bl _)) (bl_fit (nb_bl _)) (Nat.le_of_ble_eq_true rfl) (336+24*i+11) (own_b hi (by decide) (by decide)) (setB_13 hi (bl_nb (nb_bl _))) dX0_copyFrom_109 (fun u9 H locs eu9 hP hS => ?_)
  obtain ⟨σ109, e_σ109⟩ : ∃ z, z = va_up σ101 w (va_up (σ101 w) (336+24*i+11) (nb (σ101 v (336+24*j+11)))) := ⟨_, rfl⟩
  rw [eu9, ← e_σ109] at hP
  have hF := bnd_s e_σ109 hF
  have hO := okS_up e_σ109 hO hw (by omega) (by omega)
  refine lv_aload_n hx hb dX0_copyFrom_112 rfl (lv_at hl 0 rfl) ?_
  refine lv_aload_n hx hb dX0_copyFrom_113 rfl (lv_at hl 1 rfl) ?_
  refine va_get (D := D) (ci := 2) (C := RX0) (T := TX0) (N := 16) hx hb hts inX0 hown hK hP (18*v+(6+2*j)) (g_b hv hj) rfl 14 (by decide) (hts (.fieldLink RX0 40 "TileRunners$Body" "ticks" "I") (List.mem_of_getElem? (i := 15) rfl)) (fun _ h9 => h9) rfl dX0_copyFrom_114 ?_
  have hP := f_eta w hP
  refine pput hx hb hts inX0 tyX0 tyX0_ok nmX0 hown hK hP hA hS hw (j := 6+2*i) (by omega) (wcel_b hi) rfl 14 (by decide) (hts (.fieldLink RX0 40 "TileRunners$Body" "ticks" "I") (List.mem_of_getElem? (i := 15) rfl)) (fun _ h9 => h9) rfl (tyX0_ok 14 (by decide)) rfl rfl (Nat.le_of_ble_eq_true rfl) (336+24*i+21) (own_b hi (by decide) (by decide)) (setB_14 hi) dX0_copyFrom_117 (fun u9 H locs eu9 hP hS => ?_)
  obtain ⟨σ117, e_σ117⟩ : ∃ z, z = va_up σ109 w (va_up (σ109 w) (336+24*i+21) (σ109 v (336+24*j+21))) := ⟨_, rfl⟩
  rw [eu9, ← e_σ117] at hP
  have hF := bnd_s e_σ117 hF
  have hO := okS_up e_σ117 hO hw (by omega) (by omega)
  refine lv_aload_n hx hb dX0_copyFrom_120 rfl (lv_at hl 1 rfl) ?_
  refine va_get (D := D) (ci := 2) (C := RX0) (T := TX0) (N := 16) hx hb hts inX0 hown hK hP (18*v+(6+2*j)) (g_b hv hj) rfl 15 (by decide) (hts (.fieldLink RX0 9 "TileRunners$Body" "statistics" "[I") (List.mem_of_getElem? (i := 16) rfl)) (fun _ h9 => h9) rfl dX0_copyFrom_121 ?_
  refine lv_iconst (v := 0) hx hb dX0_copyFrom_124 (by decide) ?_
  refine lv_aload_n hx hb dX0_copyFrom_125 rfl (lv_at hl 0 rfl) ?_
  refine va_get (D := D) (ci := 2) (C := RX0) (T := TX0) (N := 16) hx hb hts inX0 hown hK hP (18*w+(6+2*i)) (g_b hw hi) rfl 15 (by decide) (hts (.fieldLink RX0 9 "TileRunners$Body" "statistics" "[I") (List.mem_of_getElem? (i := 16) rfl)) (fun _ h9 => h9) rfl dX0_copyFrom_126 ?_
  refine lv_iconst (v := 0) hx hb dX0_copyFrom_129 (by decide) ?_
  refine lv_bipush (v := 7) hx hb dX0_copyFrom_130 (by decide) ?_
  refine pcopyw (n := 7) (o := 336+24*i+14) (o2 := 336+24*j+14) (j := 7+2*i) (j2 := 7+2*j) (w := w) (v := v) hx hb (hml.trans hl.1.symm) hown (hts (.methodLink RX0 65 arraycopyName) (List.mem_of_getElem? (i := 17) rfl)) (hts (.native arraycopyName) (List.mem_of_getElem? (i := 18) rfl)) (hts (.static arraycopyName) (List.mem_of_getElem? (i := 19) rfl)) (hts (.initialized "java/lang/System") (List.mem_of_getElem? (i := 20) rfl)) hK hP hA hS hw hv (by omega) (by omega) (fun _ => wcel_s hi) (fun _ => wcel_s hj) (fun k9 hk9 => own_s hi hk9) rfl (by decide) (Nat.le_of_ble_eq_true rfl) (Nat.le_of_ble_eq_true rfl) dX0_copyFrom_132 (fun u9 H locs eu9 hP hS => ?_)
  obtain ⟨σ132, e_σ132⟩ : ∃ z, z = va_up σ117 w (cpw (σ117 v) (336+24*i+14) (336+24*j+14) 7 (σ117 w)) := ⟨_, rfl⟩
  rw [eu9, ← e_σ132] at hP
  have hF := bnd_s e_σ132 hF
  have hO := okS_row e_σ132 hO hw (okW_cpw (hO.1 _ hw) (by omega))
  exact W.vret hx hb hr (fun t ht hW => ⟨⟨σ132, rfl, ⟨hF.trans hFF, hO⟩, ho_of ht hP⟩, hS.F ht⟩) hS.2.2 dX0_copyFrom_135
theorem hd_X0_copyFromV : yX0_copyFrom.cls = RX0 ∧ yX0_copyFrom.cls ≠ "java/lang/invoke/MethodHandle" ∧ yX0_copyFrom.cls ≠ "java/lang/invoke/VarHandle" ∧ (parseMethodDescriptor yX0_copyFrom.desc).map (fun d => d.parameters.length) = some 1 := by decide +kernel
set_option maxHeartbeats 4000000 in
set_option maxRecDepth 100000 in
theorem c2_copyFrom (l : Launch) {D : va_G} {G : CY} {ad : Nat → Nat} {B0 : Nat} (hA : adOK B0 ad) (σ : Nat → Nat → Int32) (w : Nat) (hw : w < 15) (i : Nat) (hi : i < 4) (v : Nat) (hv : v < 15) (j : Nat) (hj : j < 4) (hO : okS σ) : Met l yX2_copyFrom wsX2_copyFrom { frames := 1, cells := 0, slots := 0, locals := 26 } (va_Pc [.ref (ad (18*w+(14+i))), .ref (ad (18*v+(14+j)))] (Hp D G ad σ)) (va_Qv (fun (z : Nat → Nat → Int32) => z = f2_copyFrom σ w i v j ∧ okS z) (fun (z : Nat → Nat → Int32) => Ho D G ad z) (AA B0)) 0 0 (AA B0) := by
  refine Met.ofW (cc := cX2_copyFrom) (maxL := 2) (ret := none) (by decide) rfl ?_
  intro p e s m args below meth c s₁ B hml hv
  obtain ⟨rfl, hP, hK, hN⟩ := hv
  have hx := B.exec
  have hb := B.bytes
  have hr := B.returns
  have hts := atoms_spec (ws := wsX2_copyFrom) B.pre
  have hown : s.vm.findClass RX2 = some m.cls := findClass_of_methodNamed B.named
  have hlocks := B.notSynchronized
  have inX2 : ∀ w ∈ wsX20, w ∈ wsX2_copyFrom := (fun w h => List.mem_cons_of_mem _ (List.mem_append_right _ h))
  have hP : va_P D vwCl (pool G ad σ) s.heap := hP
  have hS : va_S (AA B0) s.heap s.heap [] := va_S.rf
  have hl := lv_entry ([.ref (ad (18*w+(14+i))), .ref (ad (18*v+(14+j)))]) (n := 2) (Nat.le_of_ble_eq_true rfl)
  rw [lg_entry_eq]
  generalize (lg_sl ([.ref (ad (18*w+(14+i))), .ref (ad (18*v+(14+j)))]) ++ List.replicate (2 - (lg_sl ([.ref (ad (18*w+(14+i))), .ref (ad (18*v+(14+j)))])).length) Slot.unset).toArray = ls at hl ⊢
  have hl : lv_has ls 2 [(0, .ref (ad (18*w+(14+i)))), (1, .ref (ad (18*v+(14+j))))] := hl
  obtain ⟨FF, hFF⟩ : ∃ z, z = f2_copyFrom σ w i v j := ⟨_, rfl⟩
  have hF := hFF.symm
  rw [f2_copyFrom] at hF
  refine lv_aload_n hx hb dX2_copyFrom_0 rfl (lv_at hl 0 rfl) ?_
  refine lv_aload_n hx hb dX2_copyFrom_1 rfl (lv_at hl 1 rfl) ?_
  refine va_get (D := D) (ci := 4) (C := RX2) (T := TX2) (N := 7) hx hb hts inX2 hown hK hP (18*v+(14+j)) (g_p hv hj) rfl 0 (by decide) (hts (.fieldLink RX2 7 "TileRunners$Platform" "x" "I") (List.mem_of_getElem? (i := 1) rfl)) (fun _ h9 => h9) rfl dX2_copyFrom_2 ?_
  refine lv_aload_n hx hb dX2_copyFrom_5 rfl (lv_at hl 1 rfl) ?_
  refine va_get (D := D) (ci := 4) (C := RX2) (T := TX2) (N := 7) hx hb hts inX2 hown hK hP (18*v+(14+j)) (g_p hv hj) rfl 1 (by decide) (hts (.fieldLink RX2 13 "TileRunners$Platform" "y" "I") (List.mem_of_getElem? (i := 2) rfl)) (fun _ h9 => h9) rfl dX2_copyFrom_6 ?_
  refine lv_aload_n hx hb dX2_copyFrom_9 rfl (lv_at hl 1 rfl) ?_
  refine va_get (D := D) (ci := 4) (C := RX2) (T := TX2) (N := 7) hx hb hts inX2 hown hK hP (18*v+(14+j)) (g_p hv hj) rfl 2 (by decide) (hts (.fieldLink RX2 16 "TileRunners$Platform" "width" "I") (List.mem_of_getElem? (i := 3) rfl)) (fun _ h9 => h9) rfl dX2_copyFrom_10 ?_
  refine lv_aload_n hx hb dX2_copyFrom_13 rfl (lv_at hl 1 rfl) ?_
  refine va_get (D := D) (ci := 4) (C := RX2) (T := TX2) (N := 7) hx hb hts inX2 hown hK hP (18*v+(14+j)) (g_p hv hj) rfl 3 (by decide) (hts (.fieldLink RX2 19 "TileRunners$Platform" "dx" "I") (List.mem_of_getElem? (i := 4) rfl)) (fun _ h9 => h9) rfl dX2_copyFrom_14 ?_
  refine lv_aload_n hx hb dX2_copyFrom_17 rfl (lv_at hl 1 rfl) ?_
  refine va_get (D := D) (ci := 4) (C := RX2) (T := TX2) (N := 7) hx hb hts inX2 hown hK hP (18*v+(14+j)) (g_p hv hj) rfl 4 (by decide) (hts (.fieldLink RX2 22 "TileRunners$Platform" "dy" "I") (List.mem_of_getElem? (i := 5) rfl)) (fun _ h9 => h9) rfl dX2_copyFrom_18 ?_
  refine lv_aload_n hx hb dX2_copyFrom_21 rfl (lv_at hl 1 rfl) ?_
  refine va_get (D := D) (ci := 4) (C := RX2) (T := TX2) (N := 7) hx hb hts inX2 hown hK hP (18*v+(14+j)) (g_p hv hj) rfl 5 (by decide) (hts (.fieldLink RX2 25 "TileRunners$Platform" "range" "I") (List.mem_of_getElem? (i := 6) rfl)) (fun _ h9 => h9) rfl dX2_copyFrom_22 ?_
  have hP := f_eta w hP
  refine va_callv (va_runV (As := [.int (σ v (432+8*j+0)), .int (σ v (432+8*j+1)), .int (σ v (432+8*j+2)), .int (σ v (432+8*j+3)), .int (σ v (432+8*j+4)), .int (σ v (432+8*j+6))]) (rest := []) ⟨hx, hb, hml, hown, hts⟩ (c2_begin l hA σ (σ w) w hw i hi (σ v (432+8*j+0)) (σ v (432+8*j+1)) (σ v (432+8*j+2)) (σ v (432+8*j+3)) (σ v (432+8*j+4)) (σ v (432+8*j+6)) (hO.1 w hw)) (cwV 6 hts gX2_copyFrom_X2_begin rfl rfl rfl hd_X2_beginV ⟨Nat.le_of_ble_eq_true rfl, Nat.le_of_ble_eq_true rfl⟩) ⟨hp_blind, va_recv hK hP (ci := 4) (q0 := 18*w+(14+i)) rfl (c_p hw hi), hp_pre hK hN hP⟩ rfl rfl hl.1 rfl (lv_room (Nat.le_of_ble_eq_true rfl)) dX2_copyFrom_25 ⟨Nat.zero_le _, Nat.zero_le _⟩) hS (fun _ _ h => h) (fun _ h => h) (fun u9 t H locs ht hvm hw9 hB hz1 hk1 hS => ?_)
  have hP := ho_at ht hB
  obtain ⟨eq25, ok9⟩ := hw9
  obtain ⟨σ25, e_σ25⟩ : ∃ z, z = va_up σ w u9 := ⟨_, rfl⟩
  rw [← e_σ25] at hP
  have hF := bnd_s eq25 hF
  have hF := bnd_s e_σ25 hF
  have hO := okS_row e_σ25 hO hw ok9
  refine lv_aload_n hx hb dX2_copyFrom_28 rfl (lv_at hl 0 rfl) ?_
  refine lv_aload_n hx hb dX2_copyFrom_29 rfl (lv_at hl 1 rfl) ?_
  refine va_get (D := D) (ci := 4) (C := RX2) (T := TX2) (N := 7) hx hb hts inX2 hown hK hP (18*v+(14+j)) (g_p hv hj) rfl 6 (by decide) (hts (.fieldLink RX2 28 "TileRunners$Platform" "ticksLeft" "I") (List.mem_of_getElem? (i := 7) rfl)) (fun _ h9 => h9) rfl dX2_copyFrom_30 ?_
  have hP := f_eta w hP
  refine pput hx hb hts inX2 tyX2 tyX2_ok nmX2 hown hK hP hA hS hw (j := 14+i) (by omega) wcel_p rfl 6 (by decide) (hts (.fieldLink RX2 28 "TileRunners$Platform" "ticksLeft" "I") (List.mem_of_getElem? (i := 7) rfl)) (fun _ h9 => h9) rfl (tyX2_ok 6 (by decide)) rfl rfl (Nat.le_of_ble_eq_true rfl) (432+8*i+5) (own_p hi (by decide)) (setP_6) dX2_copyFrom_33 (fun u9 H locs eu9 hP hS => ?_)
  obtain ⟨σ33, e_σ33⟩ : ∃ z, z = va_up σ25 w (va_up (σ25 w) (432+8*i+5) (σ25 v (432+8*j+5))) := ⟨_, rfl⟩
  rw [eu9, ← e_σ33] at hP
  have hF := bnd_s e_σ33 hF
  have hO := okS_up e_σ33 hO hw (by omega) (by omega)
  exact W.vret hx hb hr (fun t ht hW => ⟨⟨σ33, rfl, ⟨hF.trans hFF, hO⟩, ho_of ht hP⟩, hS.F ht⟩) hS.2.2 dX2_copyFrom_36
theorem hd_X2_copyFromV : yX2_copyFrom.cls = RX2 ∧ yX2_copyFrom.cls ≠ "java/lang/invoke/MethodHandle" ∧ yX2_copyFrom.cls ≠ "java/lang/invoke/VarHandle" ∧ (parseMethodDescriptor yX2_copyFrom.desc).map (fun d => d.parameters.length) = some 1 := by decide +kernel
set_option maxHeartbeats 4000000 in
set_option maxRecDepth 100000 in
theorem c4_copyFrom (l : Launch) {D : va_G} {G : CY} {ad : Nat → Nat} {B0 : Nat} (hA : adOK B0 ad) (σ : Nat → Nat → Int32) (w : Nat) (hw : w < 15) (v : Nat) (hv : v < 15) (hO : okS σ) : Met l yX4_copyFrom wsX4_copyFrom { frames := 1, cells := 0, slots := 0, locals := 60 } (va_Pc [.ref (ad (18*w+1)), .ref (ad (18*v+1))] (Hp D G ad σ)) (va_Qv (fun (z : Nat → Nat → Int32) => z = f4_copyFrom σ w v ∧ okS z) (fun (z : Nat → Nat → Int32) => Ho D G ad z) (AA B0)) 0 0 (AA B0) := by
  refine Met.ofW (cc := cX4_copyFrom) (maxL := 2) (ret := none) (by decide) rfl ?_
  intro p e s m args below meth c s₁ B hml hv
  obtain ⟨rfl, hP, hK, hN⟩ := hv
  have hx := B.exec
  have hb := B.bytes
  have hr := B.returns
  have hts := atoms_spec (ws := wsX4_copyFrom) B.pre
  have hown : s.vm.findClass RX4 = some m.cls := findClass_of_methodNamed B.named
  have hlocks := B.notSynchronized
  have inX4 : ∀ w ∈ wsX40, w ∈ wsX4_copyFrom := (fun w h => List.mem_cons_of_mem _ (List.mem_append_right _ h))
  have hP : va_P D vwCl (pool G ad σ) s.heap := hP
  have hS : va_S (AA B0) s.heap s.heap [] := va_S.rf
  have hl := lv_entry ([.ref (ad (18*w+1)), .ref (ad (18*v+1))]) (n := 2) (Nat.le_of_ble_eq_true rfl)
  rw [lg_entry_eq]
  generalize (lg_sl ([.ref (ad (18*w+1)), .ref (ad (18*v+1))]) ++ List.replicate (2 - (lg_sl ([.ref (ad (18*w+1)), .ref (ad (18*v+1))])).length) Slot.unset).toArray = ls at hl ⊢
  have hl : lv_has ls 2 [(0, .ref (ad (18*w+1))), (1, .ref (ad (18*v+1)))] := hl
  obtain ⟨FF, hFF⟩ : ∃ z, z = f4_copyFrom σ w v := ⟨_, rfl⟩
  have hF := hFF.symm
  rw [f4_copyFrom] at hF
  refine lv_aload_n hx hb dX4_copyFrom_0 rfl (lv_at hl 1 rfl) ?_
  refine va_get (D := D) (ci := 6) (C := RX4) (T := TX4) (N := 1) hx hb hts inX4 hown hK hP (18*v+1) (g_t hv) rfl 0 (by decide) (hts (.fieldLink RX4 9 "TileRunners$Tiles" "kinds" "[I") (List.mem_of_getElem? (i := 1) rfl)) (fun _ h9 => h9) rfl dX4_copyFrom_1 ?_
  refine lv_iconst (v := 0) hx hb dX4_copyFrom_4 (by decide) ?_
  refine lv_aload_n hx hb dX4_copyFrom_5 rfl (lv_at hl 0 rfl) ?_
  refine va_get (D := D) (ci := 6) (C := RX4) (T := TX4) (N := 1) hx hb hts inX4 hown hK hP (18*w+1) (g_t hw) rfl 0 (by decide) (hts (.fieldLink RX4 9 "TileRunners$Tiles" "kinds" "[I") (List.mem_of_getElem? (i := 1) rfl)) (fun _ h9 => h9) rfl dX4_copyFrom_6 ?_
  refine lv_iconst (v := 0) hx hb dX4_copyFrom_9 (by decide) ?_
  refine lv_sipush (v := 336) hx hb dX4_copyFrom_10 (by decide) ?_
  refine pcopyw (n := 336) (o := 0) (o2 := 0) (j := 2) (j2 := 2) (w := w) (v := v) hx hb (hml.trans hl.1.symm) hown (hts (.methodLink RX4 15 arraycopyName) (List.mem_of_getElem? (i := 2) rfl)) (hts (.native arraycopyName) (List.mem_of_getElem? (i := 3) rfl)) (hts (.static arraycopyName) (List.mem_of_getElem? (i := 4) rfl)) (hts (.initialized "java/lang/System") (List.mem_of_getElem? (i := 5) rfl)) hK hP hA hS hw hv (by omega) (by omega) (fun _ => rfl) (fun _ => rfl) (fun k9 hk9 => own_k (by omega)) rfl (by decide) (Nat.le_of_ble_eq_true rfl) (Nat.le_of_ble_eq_true rfl) dX4_copyFrom_13 (fun u9 H locs eu9 hP hS => ?_)
  obtain ⟨σ13, e_σ13⟩ : ∃ z, z = va_up σ w (cpw (σ v) (0) (0) 336 (σ w)) := ⟨_, rfl⟩
  rw [eu9, ← e_σ13] at hP
  have hF := bnd_s e_σ13 hF
  have hO := okS_row e_σ13 hO hw (okW_cpw (hO.1 _ hw) (by omega))
  exact W.vret hx hb hr (fun t ht hW => ⟨⟨σ13, rfl, ⟨hF.trans hFF, hO⟩, ho_of ht hP⟩, hS.F ht⟩) hS.2.2 dX4_copyFrom_16
theorem hd_X4_copyFromV : yX4_copyFrom.cls = RX4 ∧ yX4_copyFrom.cls ≠ "java/lang/invoke/MethodHandle" ∧ yX4_copyFrom.cls ≠ "java/lang/invoke/VarHandle" ∧ (parseMethodDescriptor yX4_copyFrom.desc).map (fun d => d.parameters.length) = some 1 := by decide +kernel
