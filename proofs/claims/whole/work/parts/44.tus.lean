def nxB : ByteArray := ⟨#[0x2a, 0x2b, 0xb7, 0x00, 0x0d, 0xb1]⟩
theorem nxB_0 : decode nxB 0 = .ok (.aload_n 0, 1) := by decide +kernel
theorem nxB_1 : decode nxB 1 = .ok (.aload_n 1, 1) := by decide +kernel
theorem nxB_2 : decode nxB 2 = .ok (.invokespecial 13, 3) := by decide +kernel
theorem nxB_5 : decode nxB 5 = .ok (.return_, 1) := by decide +kernel
def wsN_tickUntilStanding : List Cond := .code yX6_tickUntilStanding cX6_tickUntilStanding 4 (some .int) :: ((wsX6_tickUntilStanding_r1 ++ (wsX6_tickUntilStanding_r2 ++ (wsX6_tickUntilStanding_r3 ++ (wsX6_tickUntilStanding_r4 ++ (wsX6_tickUntilStanding_r5 ++ (wsX6_tickUntilStanding_r6 ++ (wsX6_tickUntilStanding_r7 ++ (wsX6_tickUntilStanding_r8 ++ (wsX6_tickUntilStanding_r9 ++ (wsX6_tickUntilStanding_r10 ++ (wsX6_tickUntilStanding_r11 ++ (wsX6_tickUntilStanding_r12 ++ wsX6_tickUntilStanding_r13)))))))))))) ++ wsX60 ++ wsX50 ++ wsX00 ++ wsX40 ++ wsX20 ++ wsX10 ++ (nx_at RX6 197 "java/util/NoSuchElementException" "java/lang/RuntimeException" 13 nxB ["java/lang/Exception"]).filter goodWord ++ (vx_atS RX6 172 "java/lang/IndexOutOfBoundsException" ["java/lang/RuntimeException", "java/lang/Exception"]).filter goodWord ++ (vx_atS RX6 300 "java/lang/IllegalArgumentException" ["java/lang/RuntimeException", "java/lang/Exception"]).filter goodWord ++ (vx_atM "java/lang/ArrayIndexOutOfBoundsException" ["java/lang/IndexOutOfBoundsException", "java/lang/RuntimeException", "java/lang/Exception"]).filter goodWord)
set_option maxRecDepth 20000 in
theorem ggN_tickUntilStanding_X1_keep : GoodIn wsN_tickUntilStanding wsX1_keep := goodIn_r _ [93, 94, 95, 96, 97, 98, 99, 100, 101, 102, 103, 26, 104, 35, 105, 78, 106, 107, 79, 108, 109, 110, 40, 111, 56, 112, 113, 114, 115, 116, 117, 118, 45, 119, 120, 121, 47, 122, 123, 124, 125, 126, 127, 128, 129, 130, 131, 132, 133, 134, 135, 136, 137, 138, 83, 139, 86, 85, 87, 140, 141, 142, 143, 144, 145, 146, 147, 342, 343, 344, 311, 312, 313, 314, 315, 316, 317, 334, 318, 319, 320, 321, 322, 323, 324, 325, 326, 327, 328, 329, 330, 331, 332, 333, 335, 336, 337, 338, 339, 340, 341] (by decide +kernel) (by decide +kernel)
set_option maxRecDepth 20000 in
theorem gN_tickUntilStanding_X1_keep : GoodIn wsN_tickUntilStanding (wsV RX6 179 RX1 yX1_keep wsX1_keep) := goodIn_app (goodIn_of _ (by decide +kernel)) ggN_tickUntilStanding_X1_keep
set_option maxRecDepth 20000 in
theorem ggN_tickUntilStanding_X5_advance : GoodIn wsN_tickUntilStanding wsX5_advance := goodIn_ca (goodIn_r _ [151, 106, 105, 107, 152, 153, 154, 26, 155, 28, 36, 156, 29, 30, 74, 75, 76, 77, 78, 79, 80, 81, 82, 83, 84, 85, 86, 87, 88, 157, 158, 159, 160, 161, 162, 163, 164, 165, 166, 167, 99, 168, 169, 170, 171, 172, 173, 35, 64, 49, 50, 45, 51, 47, 65, 66, 67, 40, 68, 69, 52, 53, 54, 55, 56, 174, 175, 176, 177, 42, 43, 44, 46, 178, 179, 180, 181, 122, 48, 57, 10, 58, 59, 60, 61, 62, 63, 31, 32, 33, 34, 37, 38, 39, 41, 70, 71, 72, 73, 182, 183, 184, 185, 186, 187, 188, 189, 190, 191, 192, 193, 140, 141, 143, 142, 194, 195, 196, 197, 198, 199, 200, 201, 202, 203, 204, 24, 25, 27, 205, 206, 207, 208, 209, 210, 211, 212, 213, 214, 130, 215, 216, 217, 218, 219, 220, 221, 222, 223, 224, 225, 226, 227, 228, 229, 98, 100, 230, 231, 232, 233, 234, 235, 236, 237, 238, 239, 240, 241, 242, 243, 244, 126, 128, 132, 134, 245, 246, 247, 248, 249, 250, 251, 252, 253, 254, 255, 256, 257, 258, 259, 260, 261, 262, 263, 264, 265, 266, 267, 268, 269, 270, 271, 272, 273, 274, 275, 276, 277, 278, 279, 280, 281, 282, 283, 284, 285, 15, 16, 17, 286, 287, 288, 289, 290, 291, 292, 293, 123, 120, 124, 121, 294, 295, 296, 297, 125, 127, 129, 298, 299, 300, 301, 133, 131, 311, 312, 313, 314, 315, 316, 317, 318, 319, 320, 321, 322, 323, 324, 325, 326, 327, 328, 329, 330, 331, 332, 333, 335, 336, 337, 338, 339, 340, 341, 334] (by decide +kernel) (by decide +kernel)) (goodIn_sub (fun _ h => List.mem_cons_of_mem _ (List.mem_append_right _ h)) (by decide +kernel))
set_option maxRecDepth 20000 in
theorem gN_tickUntilStanding_X5_advance : GoodIn wsN_tickUntilStanding (wsV RX6 182 RX5 yX5_advance wsX5_advance) := goodIn_app (goodIn_of _ (by decide +kernel)) ggN_tickUntilStanding_X5_advance
set_option maxRecDepth 20000 in
theorem ggN_tickUntilStanding_X5_isStanding : GoodIn wsN_tickUntilStanding wsX5_isStanding := goodIn_ca (goodIn_r _ [27, 28, 29, 30, 31, 32, 33, 26, 34, 35, 36, 37, 38, 39, 40, 41, 42, 43, 44, 45, 46, 47, 48, 49, 50, 51, 52, 53, 54, 55, 56, 57, 10, 58, 59, 60, 61, 62, 63, 64, 65, 66, 67, 68, 69, 70, 71, 72, 73, 74, 75, 76, 77, 78, 79, 80, 81, 82, 83, 84, 85, 86, 87, 88, 318, 319, 320, 321, 322, 323, 324, 325, 326, 327, 328, 329, 330, 331, 332, 333, 311, 312, 313, 314, 315, 316, 317, 334, 335, 336, 337, 338, 339, 340, 341] (by decide +kernel) (by decide +kernel)) (goodIn_sub (fun _ h => List.mem_cons_of_mem _ (List.mem_append_right _ h)) (by decide +kernel))
set_option maxRecDepth 20000 in
theorem gN_tickUntilStanding_X5_isStanding : GoodIn wsN_tickUntilStanding (wsV RX6 189 RX5 yX5_isStanding wsX5_isStanding) := goodIn_app (goodIn_of _ (by decide +kernel)) ggN_tickUntilStanding_X5_isStanding
set_option maxRecDepth 20000 in
theorem ggN_tickUntilStanding_X6_isWithin : GoodIn wsN_tickUntilStanding wsX6_isWithin := goodIn_r _ [17] (by decide +kernel) (by decide +kernel)
set_option maxRecDepth 20000 in
theorem gN_tickUntilStanding_X6_isWithin : GoodIn wsN_tickUntilStanding (va_wsS RX6 63 yX6_isWithin wsX6_isWithin) := goodIn_app (goodIn_of _ (by decide +kernel)) ggN_tickUntilStanding_X6_isWithin
set_option maxRecDepth 20000 in
theorem ggN_tickUntilStanding_X6_require : GoodIn wsN_tickUntilStanding wsX6_require := goodIn_ca (goodIn_r _ [20, 21, 22] (by decide +kernel) (by decide +kernel)) (goodIn_sub (fun _ h => List.mem_cons_of_mem _ (List.mem_append_left _ (List.mem_append_right _ h))) (by decide +kernel))
set_option maxRecDepth 20000 in
theorem gN_tickUntilStanding_X6_require : GoodIn wsN_tickUntilStanding (va_wsS RX6 67 yX6_require wsX6_require) := goodIn_app (goodIn_of _ (by decide +kernel)) ggN_tickUntilStanding_X6_require
set_option maxRecDepth 20000 in
theorem ggN_tickUntilStanding_X6_requireBody : GoodIn wsN_tickUntilStanding wsX6_requireBody := goodIn_ca (goodIn_r _ [11, 12, 13, 3, 14, 15, 16, 10, 17, 302, 303, 304, 305, 306, 307, 308, 309, 310, 311, 312, 313, 314, 315, 316, 317] (by decide +kernel) (by decide +kernel)) (goodIn_sub (fun _ h => List.mem_cons_of_mem _ (List.mem_append_left _ (List.mem_append_left _ (List.mem_append_right _ h)))) (by decide +kernel))
set_option maxRecDepth 20000 in
theorem gN_tickUntilStanding_X6_requireBody : GoodIn wsN_tickUntilStanding (wsV RX6 121 RX6 yX6_requireBody wsX6_requireBody) := goodIn_app (goodIn_of _ (by decide +kernel)) ggN_tickUntilStanding_X6_requireBody
theorem xa_199 : ∀ w ∈ (nx_at RX6 197 "java/util/NoSuchElementException" "java/lang/RuntimeException" 13 nxB ["java/lang/Exception"]).filter (fun w => !goodWord w), w ∈ [Cond.castable "java/util/NoSuchElementException" "java/util/NoSuchElementException", .declares (Bundle.initS "java/lang/RuntimeException"), .declares (Bundle.initS "java/lang/Exception"), .declares (Bundle.initS Bundle.tN)] := by decide +kernel
theorem xg_199 : ∀ w ∈ Cond.classLink RX6 193 "java/util/NoSuchElementException" :: Cond.initialized "java/util/NoSuchElementException" :: (nx_at RX6 197 "java/util/NoSuchElementException" "java/lang/RuntimeException" 13 nxB ["java/lang/Exception"]), vx_ot w = true := by decide +kernel
def f6_tickUntilStanding_b69 (a : Int32) (w3_17 : Int32) (σ_17 : (Nat → Nat → Int32)) : RT :=
  bnd (f5_isStanding (σ_17 0) a.toNatClampNeg) fun r82 => if r82 = 0 then (((Sum.inr "java/util/NoSuchElementException", σ_17) : RT)) else (((Sum.inl w3_17, σ_17) : RT))
def f6_tickUntilStanding_L17 (a : Int32) (b : Int32) (n17 : Nat) (w3_17 : Int32) (σ_17 : (Nat → Nat → Int32)) : RT := match n17 with
  | 0 => ((Sum.inl 0, fun _ _ => 0) : RT)
  | n17 + 1 => if b ≤ w3_17 then (f6_tickUntilStanding_b69 a w3_17 σ_17) else (bnd (f5_isStanding (σ_17 0) a.toNatClampNeg) fun r35 => if r35 = 0 then (bnd (f1_keep σ_17 0) fun σ49 => bnd (f5_advance (σ49 0) (σ49 15)) fun u9 => bnd (va_up σ49 0 u9) fun σ60 => bnd (w3_17 + 1) fun v3_63 => (f6_tickUntilStanding_L17 a b n17) v3_63 σ60) else (f6_tickUntilStanding_b69 a w3_17 σ_17))
def f6_tickUntilStanding (σ : (Nat → Nat → Int32)) (a : Int32) (b : Int32) : RT :=
  bndx (f6_requireBody σ a) fun _ σ2 => bnd (f6_isWithin b 1 100) fun r9 => bndx (f6_require σ2 r9) fun _ σ12 => f6_tickUntilStanding_L17 a b BIG 0 σ12
set_option maxHeartbeats 4000000 in
set_option maxRecDepth 100000 in
theorem c6_tickUntilStanding (l : Launch) (hl0 : l.stackTraces = false) {D : va_G} {G : CY} {ad : Nat → Nat} {B0 : Nat} (hA : adOK B0 ad) (σ : Nat → Nat → Int32) (a : Int32) (b : Int32) (hO : okS σ) : vx_Met l yX6_tickUntilStanding wsN_tickUntilStanding { frames := 7, cells := 3, slots := 18, locals := 173 } (va_Pc [.ref (ad (270)), .int a, .int b] (Hx XEs D G ad B0 σ)) (va_Qi (fun (r : Int32) (z : Nat → Nat → Int32) => ((Sum.inl r, z) : RT) = f6_tickUntilStanding σ a b ∧ okS z) (fun (z : Nat → Nat → Int32) => Ho D G ad z) (AA B0)) (XX D G ad B0 (fun E z => ((Sum.inr E, z) : RT) = f6_tickUntilStanding σ a b ∧ okS z)) 3 18 (AA B0) := by
  refine vx_ofW (cc := cX6_tickUntilStanding) (maxL := 4) (ret := (some .int)) (by decide) rfl ?_
  intro p e s m args below meth c s₁ B hml htab hv
  obtain ⟨rfl, ⟨hP, hK, hN⟩, hT, hL, adK, adV, hG, hR⟩ := hv
  have hx := B.exec
  have hb := B.bytes
  have hr := B.returns
  have hts := atoms_spec (ws := wsN_tickUntilStanding) B.pre
  have hown : s.vm.findClass RX6 = some m.cls := findClass_of_methodNamed B.named
  have hlocks := B.notSynchronized
  have inX5 : ∀ w ∈ wsX50, w ∈ wsN_tickUntilStanding := (fun w h => List.mem_cons_of_mem _ (List.mem_append_left _ (List.mem_append_left _ (List.mem_append_left _ (List.mem_append_left _ (List.mem_append_left _ (List.mem_append_left _ (List.mem_append_left _ (List.mem_append_left _ (List.mem_append_right _ h))))))))))
  have inX6 : ∀ w ∈ wsX60, w ∈ wsN_tickUntilStanding := (fun w h => List.mem_cons_of_mem _ (List.mem_append_left _ (List.mem_append_left _ (List.mem_append_left _ (List.mem_append_left _ (List.mem_append_left _ (List.mem_append_left _ (List.mem_append_left _ (List.mem_append_left _ (List.mem_append_left _ (List.mem_append_right _ h)))))))))))
  have hP : va_P D vwCl (pool G ad σ) s.heap := hP
  have hS : va_S (AA B0) s.heap s.heap [] := va_S.rf
  have hl := lv_entry ([.ref (ad (270)), .int a, .int b]) (n := 4) (Nat.le_of_ble_eq_true rfl)
  rw [lg_entry_eq]
  generalize (lg_sl ([.ref (ad (270)), .int a, .int b]) ++ List.replicate (4 - (lg_sl ([.ref (ad (270)), .int a, .int b])).length) Slot.unset).toArray = ls at hl ⊢
  have hl : lv_has ls 4 [(0, .ref (ad (270))), (1, .int a), (2, .int b)] := hl
  obtain ⟨FF, hFF⟩ : ∃ z, z = f6_tickUntilStanding σ a b := ⟨_, rfl⟩
  have hF := hFF.symm
  rw [f6_tickUntilStanding] at hF
  refine lv_aload_n hx hb dX6_tickUntilStanding_0 rfl (lv_at hl 0 rfl) ?_
  refine lv_iload_n hx hb dX6_tickUntilStanding_1 rfl (lv_at hl 1 rfl) ?_
  refine vx_callv (vx_runV (As := [.int a]) (rest := []) ⟨hx, hb, hml, hown, hts⟩ (c6_requireBody l hl0 hA σ a hO) (cwV 1 hts gN_tickUntilStanding_X6_requireBody rfl rfl rfl hd_X6_requireBodyV ⟨Nat.le_of_ble_eq_true rfl, Nat.le_of_ble_eq_true rfl⟩) ⟨hx_blind, va_recv hK hP (ci := 8) (q0 := 270) rfl g_270, hx_pre hK hN hT hL hG hR hS hP⟩ rfl rfl hl.1 rfl (lv_room (Nat.le_of_ble_eq_true rfl)) dX6_tickUntilStanding_2 ⟨Nat.le_of_ble_eq_true rfl, Nat.le_of_ble_eq_true rfl⟩) hS (fun _ _ h => h) (fun _ h => h) (fun _ _ h => h) (fun E9 ce9 q9 z9 t9 H9 locs9 ht9 hvm9 hw9 hB9 hz9 hk9 hS9 hce9 hcv9 hcl9 => ?_) (fun u9 t H locs ht hvm hw9 hB hz1 hk1 hS => ?_)
  · obtain ⟨eqx, okx⟩ := hw9
    obtain ⟨rfl, hBx⟩ := hB9
    have hF := bndx_x eqx hF
    exact vx_out (fun x hx => (htab x hx).elim) hlocks hce9 hcv9 hcl9 (fun t8 h8 _ => ⟨z9, ⟨hF.trans hFF, okx⟩, ⟨rfl, ho_of h8 (ho_at ht9 hBx)⟩, hS9.F h8⟩) hS9.2.2 (Nat.le_of_ble_eq_true rfl) (Nat.le_of_ble_eq_true rfl)
  have hP := ho_at ht hB
  obtain ⟨eq2, ok9⟩ := hw9
  obtain ⟨σ2, e_σ2⟩ : ∃ z, z = u9 := ⟨_, rfl⟩
  rw [← e_σ2] at hP eq2 ok9
  have hO := ok9
  have hF := bndx_s eq2 hF
  have hi9 : vp_in a 4 := in_body hO eq2
  refine lv_iload_n hx hb dX6_tickUntilStanding_5 rfl (lv_at hl 2 rfl) ?_
  refine lv_iconst (v := 1) hx hb dX6_tickUntilStanding_6 (by decide) ?_
  refine lv_bipush (v := 100) hx hb dX6_tickUntilStanding_7 (by decide) ?_
  refine va_calli (va_runS (As := [.int b, .int 1, .int 100]) (rest := []) ⟨hx, hb, hml, hown, hts⟩ (c6_isWithin l hA σ2 b 1 100 ) (va_cwS 3 hts gN_tickUntilStanding_X6_isWithin rfl rfl rfl hd_X6_isWithinS ⟨Nat.le_of_ble_eq_true rfl, Nat.le_of_ble_eq_true rfl⟩) ⟨hp_blind, hp_pre hK hN hP⟩ rfl rfl hl.1 rfl (lv_room (Nat.le_of_ble_eq_true rfl)) dX6_tickUntilStanding_9 ⟨Nat.le_of_ble_eq_true rfl, Nat.le_of_ble_eq_true rfl⟩) hS (fun _ _ h => h) (fun _ h => h) (fun r9 _ t H locs ht hvm hw9 hB hz1 hk1 hS => ?_)
  have hP := ho_at ht hB
  obtain ⟨eq9, hb_r9⟩ := hw9
  have hF := bnd_s eq9 hF
  refine vx_callv (vx_runS (As := [.int r9]) (rest := []) ⟨hx, hb, hml, hown, hts⟩ (c6_require l hl0 hA σ2 r9 hO hb_r9) (va_cwS 1 hts gN_tickUntilStanding_X6_require rfl rfl rfl hd_X6_requireS ⟨Nat.le_of_ble_eq_true rfl, Nat.le_of_ble_eq_true rfl⟩) ⟨hx_blind, hx_pre hK hN hT hL hG hR hS hP⟩ rfl rfl hl.1 rfl (lv_room (Nat.le_of_ble_eq_true rfl)) dX6_tickUntilStanding_12 ⟨Nat.le_of_ble_eq_true rfl, Nat.le_of_ble_eq_true rfl⟩) hS (fun _ _ h => h) (fun _ h => h) (fun _ _ h => h) (fun E9 ce9 q9 z9 t9 H9 locs9 ht9 hvm9 hw9 hB9 hz9 hk9 hS9 hce9 hcv9 hcl9 => ?_) (fun u9 t H locs ht hvm hw9 hB hz1 hk1 hS => ?_)
  · obtain ⟨eqx, okx⟩ := hw9
    obtain ⟨rfl, hBx⟩ := hB9
    have hF := bndx_x eqx hF
    exact vx_out (fun x hx => (htab x hx).elim) hlocks hce9 hcv9 hcl9 (fun t8 h8 _ => ⟨z9, ⟨hF.trans hFF, okx⟩, ⟨rfl, ho_of h8 (ho_at ht9 hBx)⟩, hS9.F h8⟩) hS9.2.2 (Nat.le_of_ble_eq_true rfl) (Nat.le_of_ble_eq_true rfl)
  have hP := ho_at ht hB
  obtain ⟨eq12, ok9⟩ := hw9
  obtain ⟨σ12, e_σ12⟩ : ∃ z, z = u9 := ⟨_, rfl⟩
  rw [← e_σ12] at hP eq12 ok9
  have hO := ok9
  have hF := bndx_s eq12 hF
  refine lv_iconst (v := 0) hx hb dX6_tickUntilStanding_15 (by decide) ?_
  refine lv_istore_n (lv' := [(3, .int 0), (0, .ref (ad (270))), (1, .int a), (2, .int b)]) hx hb dX6_tickUntilStanding_16 rfl hl (by decide) rfl (fun ls hl => ?_)
  have L17 : ∀ (n17 : Nat) (w3_17 : Int32) (σ_17 : (Nat → Nat → Int32)) (H : Heap) (locs : List Loc) (ls : Array Slot), (b.toInt - w3_17.toInt).toNat < n17 → okS σ_17 → va_P D vwCl (pool G ad σ_17) H → va_S (AA B0) s.heap H locs → lv_has ls 4 [(3, .int w3_17), (0, .ref (ad (270))), (1, .int a), (2, .int b)] → f6_tickUntilStanding_L17 a b n17 w3_17 σ_17 = FF → W p l e (headSpec wsN_tickUntilStanding { frames := 7, cells := 3, slots := 18, locals := 173 }).room s m ([.ref (ad (270)), .int a, .int b] : List Value).toArray below meth c H locs 2 12 (vx_MQ below (va_Qi (fun (r : Int32) (z : Nat → Nat → Int32) => ((Sum.inl r, z) : RT) = f6_tickUntilStanding σ a b ∧ okS z) (fun (z : Nat → Nat → Int32) => Ho D G ad z) (AA B0)) (XX D G ad B0 (fun E z => ((Sum.inr E, z) : RT) = f6_tickUntilStanding σ a b ∧ okS z)) ([.ref (ad (270)), .int a, .int b] : List Value).toArray s 3 18 (AA B0)) (F0 m 17 ls []) := by
    intro n17
    induction n17 with
    | zero => intro w3_17 σ_17 H locs ls hm; exact absurd hm (Nat.not_lt_zero _)
    | succ n17 ih17 =>
      intro w3_17 σ_17 H locs ls hm17 hO hP hS hl hF
      rw [f6_tickUntilStanding_L17] at hF
      refine lv_iload_n hx hb dX6_tickUntilStanding_17 rfl (lv_at hl 0 rfl) ?_
      refine lv_iload_n hx hb dX6_tickUntilStanding_18 rfl (lv_at hl 3 rfl) ?_
      have J69 : ∀  (H : Heap) (locs : List Loc) (ls : Array Slot), va_P D vwCl (pool G ad σ_17) H → va_S (AA B0) s.heap H locs → lv_has ls 4 [(3, .int w3_17), (0, .ref (ad (270))), (1, .int a)] → f6_tickUntilStanding_b69 a w3_17 σ_17  = FF → W p l e (headSpec wsN_tickUntilStanding { frames := 7, cells := 3, slots := 18, locals := 173 }).room s m ([.ref (ad (270)), .int a, .int b] : List Value).toArray below meth c H locs 2 12 (vx_MQ below (va_Qi (fun (r : Int32) (z : Nat → Nat → Int32) => ((Sum.inl r, z) : RT) = f6_tickUntilStanding σ a b ∧ okS z) (fun (z : Nat → Nat → Int32) => Ho D G ad z) (AA B0)) (XX D G ad B0 (fun E z => ((Sum.inr E, z) : RT) = f6_tickUntilStanding σ a b ∧ okS z)) ([.ref (ad (270)), .int a, .int b] : List Value).toArray s 3 18 (AA B0)) (F0 m 69 ls []) := by
        intro  H locs ls hP hS hl hF
        rw [f6_tickUntilStanding_b69] at hF
        refine lv_aload_n hx hb dX6_tickUntilStanding_69 rfl (lv_at hl 1 rfl) ?_
        refine va_get (D := D) (ci := 8) (C := RX6) (T := TX6) (N := 9) hx hb hts inX6 hown hK hP (270) g_270 rfl 0 (by decide) (hts (.fieldLink RX6 12 "TileRunners" "world" "LTileRunners$World;") (List.mem_of_getElem? (i := 3) rfl)) (fun _ h9 => h9) rfl dX6_tickUntilStanding_70 ?_
        refine lv_aload_n hx hb dX6_tickUntilStanding_73 rfl (lv_at hl 1 rfl) ?_
        refine va_get (D := D) (ci := 8) (C := RX6) (T := TX6) (N := 9) hx hb hts inX6 hown hK hP (270) g_270 rfl 0 (by decide) (hts (.fieldLink RX6 12 "TileRunners" "world" "LTileRunners$World;") (List.mem_of_getElem? (i := 3) rfl)) (fun _ h9 => h9) rfl dX6_tickUntilStanding_74 ?_
        refine va_get (D := D) (ci := 7) (C := RX5) (T := TX5) (N := 7) hx hb hts inX5 hown hK hP (18*0+0) (g_o (by decide)) rfl 1 (by decide) (hts (.fieldLink RX6 102 "TileRunners$World" "bodies" "[LTileRunners$Body;") (List.mem_of_getElem? (i := 4) rfl)) (fun _ h9 => h9) rfl dX6_tickUntilStanding_77 ?_
        refine lv_iload_n hx hb dX6_tickUntilStanding_80 rfl (lv_at hl 2 rfl) ?_
        have hi_81 : a.toNatClampNeg < 4 := in_lt (i := a) hi9
        refine pqald (t0 := 2) (i := a) hx hb hK hP (c_bs (by decide)) rfl hi9 dX6_tickUntilStanding_81 ?_
        have hP := f_eta 0 hP
        refine va_calli (va_runV (As := [.ref (ad (18*0+(6+2*a.toNatClampNeg)))]) (rest := []) ⟨hx, hb, hml, hown, hts⟩ (c5_isStanding l hA σ_17 (σ_17 0) 0 (by decide) a.toNatClampNeg hi_81 (hO.1 0 (by decide))) (cwV 1 hts gN_tickUntilStanding_X5_isStanding rfl rfl rfl hd_X5_isStandingV ⟨Nat.le_of_ble_eq_true rfl, Nat.le_of_ble_eq_true rfl⟩) ⟨hp_blind, va_recv hK hP (ci := 7) (q0 := 18*0+0) rfl (c_o (by decide)), hp_pre hK hN hP⟩ rfl rfl hl.1 rfl (lv_room (Nat.le_of_ble_eq_true rfl)) dX6_tickUntilStanding_82 ⟨Nat.le_of_ble_eq_true rfl, Nat.le_of_ble_eq_true rfl⟩) hS (fun _ _ h => h) (fun _ h => h) (fun r82 _ t H locs ht hvm hw9 hB hz1 hk1 hS => ?_)
        have hP := ho_at ht hB
        obtain ⟨eq82, hb_r82⟩ := hw9
        rw [up_eta] at hP
        have hF := bnd_s eq82 hF
        refine lv_if_ne (tgt := 98) hx hb dX6_tickUntilStanding_85 (by decide) (fun c85 => ?_) (fun c85 => ?_)
        · have hF := iff_ c85 hF
          refine lv_iload_n hx hb dX6_tickUntilStanding_98 rfl (lv_at hl 0 rfl) ?_
          exact vx_ret (W.widen (Nat.le_of_ble_eq_true rfl) (Nat.le_of_ble_eq_true rfl) (W.iret (v := w3_17) hx hb hr (fun t ht hW => ⟨⟨w3_17, σ_17, rfl, ⟨hF.trans hFF, hO⟩, ho_of ht hP⟩, hS.F ht⟩) hS.2.2 dX6_tickUntilStanding_99))
        · have hF := ift c85 hF
          obtain ⟨sa9, hsa9⟩ := hL.1 (195, "the body does not stand yet") (by decide)
          exact nx_throw (own := RX6) (cls := "java/util/NoSuchElementException") (Y := "java/lang/RuntimeException") (r := ["java/lang/Exception"]) (ik := 193) (is := 195) (ic := 197) (text := "the body does not stand yet") (sa := sa9) hx hb hl0 nxB_0 nxB_1 nxB_2 nxB_5 hown (by decide) (by decide) (by decide) (hts (.classLink RX6 193 "java/util/NoSuchElementException") (List.mem_of_getElem? (i := 1) rfl)) (hts (.initialized "java/util/NoSuchElementException") (List.mem_of_getElem? (i := 2) rfl)) hsa9 (hx_hat hL (by decide) (fun w h => hts w ((fun w h => List.mem_cons_of_mem _ (List.mem_append_left _ (List.mem_append_left _ (List.mem_append_left _ (List.mem_append_right _ h))))) w h)) xa_199) xg_199 hT.1 hT.2 hS (hl.1.trans hml.symm) dX6_tickUntilStanding_88 dX6_tickUntilStanding_91 dX6_tickUntilStanding_92 dX6_tickUntilStanding_94 dX6_tickUntilStanding_97 (fun x hx => (htab x hx).elim) (Nat.le_of_ble_eq_true rfl) (Nat.le_of_ble_eq_true rfl) (Nat.le_of_ble_eq_true rfl) (Nat.le_of_ble_eq_true rfl) hlocks (fun t9 a9 h1 h2 => ⟨("java/util/NoSuchElementException", σ_17), ⟨hF.trans hFF, hO⟩, ⟨rfl, (hx_out hP hS h1 h2).1⟩, (hx_out hP hS h1 h2).2⟩) hS.2.2 (Nat.le_of_ble_eq_true rfl) (Nat.le_of_ble_eq_true rfl)
      refine lv_icmp_ge (tgt := 69) hx hb dX6_tickUntilStanding_19 (by decide) (fun c19 => ?_) (fun c19 => ?_)
      · have hF := ift c19 hF
        exact J69  _ _ ls hP hS (lv_sub hl [0, 1, 2] rfl) hF
      · have hF := iff_ c19 hF
        refine lv_aload_n hx hb dX6_tickUntilStanding_22 rfl (lv_at hl 1 rfl) ?_
        refine va_get (D := D) (ci := 8) (C := RX6) (T := TX6) (N := 9) hx hb hts inX6 hown hK hP (270) g_270 rfl 0 (by decide) (hts (.fieldLink RX6 12 "TileRunners" "world" "LTileRunners$World;") (List.mem_of_getElem? (i := 3) rfl)) (fun _ h9 => h9) rfl dX6_tickUntilStanding_23 ?_
        refine lv_aload_n hx hb dX6_tickUntilStanding_26 rfl (lv_at hl 1 rfl) ?_
        refine va_get (D := D) (ci := 8) (C := RX6) (T := TX6) (N := 9) hx hb hts inX6 hown hK hP (270) g_270 rfl 0 (by decide) (hts (.fieldLink RX6 12 "TileRunners" "world" "LTileRunners$World;") (List.mem_of_getElem? (i := 3) rfl)) (fun _ h9 => h9) rfl dX6_tickUntilStanding_27 ?_
        refine va_get (D := D) (ci := 7) (C := RX5) (T := TX5) (N := 7) hx hb hts inX5 hown hK hP (18*0+0) (g_o (by decide)) rfl 1 (by decide) (hts (.fieldLink RX6 102 "TileRunners$World" "bodies" "[LTileRunners$Body;") (List.mem_of_getElem? (i := 4) rfl)) (fun _ h9 => h9) rfl dX6_tickUntilStanding_30 ?_
        refine lv_iload_n hx hb dX6_tickUntilStanding_33 rfl (lv_at hl 2 rfl) ?_
        have hi_34 : a.toNatClampNeg < 4 := in_lt (i := a) hi9
        refine pqald (t0 := 2) (i := a) hx hb hK hP (c_bs (by decide)) rfl hi9 dX6_tickUntilStanding_34 ?_
        have hP := f_eta 0 hP
        refine va_calli (va_runV (As := [.ref (ad (18*0+(6+2*a.toNatClampNeg)))]) (rest := []) ⟨hx, hb, hml, hown, hts⟩ (c5_isStanding l hA σ_17 (σ_17 0) 0 (by decide) a.toNatClampNeg hi_34 (hO.1 0 (by decide))) (cwV 1 hts gN_tickUntilStanding_X5_isStanding rfl rfl rfl hd_X5_isStandingV ⟨Nat.le_of_ble_eq_true rfl, Nat.le_of_ble_eq_true rfl⟩) ⟨hp_blind, va_recv hK hP (ci := 7) (q0 := 18*0+0) rfl (c_o (by decide)), hp_pre hK hN hP⟩ rfl rfl hl.1 rfl (lv_room (Nat.le_of_ble_eq_true rfl)) dX6_tickUntilStanding_35 ⟨Nat.le_of_ble_eq_true rfl, Nat.le_of_ble_eq_true rfl⟩) hS (fun _ _ h => h) (fun _ h => h) (fun r35 _ t H locs ht hvm hw9 hB hz1 hk1 hS => ?_)
        have hP := ho_at ht hB
        obtain ⟨eq35, hb_r35⟩ := hw9
        rw [up_eta] at hP
        have hF := bnd_s eq35 hF
        refine lv_if_ne (tgt := 69) hx hb dX6_tickUntilStanding_38 (by decide) (fun c38 => ?_) (fun c38 => ?_)
        · have hF := iff_ c38 hF
          exact J69  _ _ ls hP hS (lv_sub hl [0, 1, 2] rfl) hF
        · have hF := ift c38 hF
          refine lv_aload_n hx hb dX6_tickUntilStanding_41 rfl (lv_at hl 1 rfl) ?_
          refine va_get (D := D) (ci := 8) (C := RX6) (T := TX6) (N := 9) hx hb hts inX6 hown hK hP (270) g_270 rfl 5 (by decide) (hts (.fieldLink RX6 40 "TileRunners" "history" "LTileRunners$History;") (List.mem_of_getElem? (i := 5) rfl)) (fun _ h9 => h9) rfl dX6_tickUntilStanding_42 ?_
          refine lv_aload_n hx hb dX6_tickUntilStanding_45 rfl (lv_at hl 1 rfl) ?_
          refine va_get (D := D) (ci := 8) (C := RX6) (T := TX6) (N := 9) hx hb hts inX6 hown hK hP (270) g_270 rfl 0 (by decide) (hts (.fieldLink RX6 12 "TileRunners" "world" "LTileRunners$World;") (List.mem_of_getElem? (i := 3) rfl)) (fun _ h9 => h9) rfl dX6_tickUntilStanding_46 ?_
          refine va_callv (va_runV (As := [.ref (ad (18*0+0))]) (rest := []) ⟨hx, hb, hml, hown, hts⟩ (c1_keep l hA σ_17 0 (by decide) hO) (cwV 1 hts gN_tickUntilStanding_X1_keep rfl rfl rfl hd_X1_keepV ⟨Nat.le_of_ble_eq_true rfl, Nat.le_of_ble_eq_true rfl⟩) ⟨hp_blind, va_recv hK hP (ci := 3) (q0 := 273) rfl g_273, hp_pre hK hN hP⟩ rfl rfl hl.1 rfl (lv_room (Nat.le_of_ble_eq_true rfl)) dX6_tickUntilStanding_49 ⟨Nat.le_of_ble_eq_true rfl, Nat.le_of_ble_eq_true rfl⟩) hS (fun _ _ h => h) (fun _ h => h) (fun u9 t H locs ht hvm hw9 hB hz1 hk1 hS => ?_)
          have hP := ho_at ht hB
          obtain ⟨eq49, ok9⟩ := hw9
          obtain ⟨σ49, e_σ49⟩ : ∃ z, z = u9 := ⟨_, rfl⟩
          rw [← e_σ49] at hP eq49 ok9
          have hO := ok9
          have hF := bnd_s eq49 hF
          refine lv_aload_n hx hb dX6_tickUntilStanding_52 rfl (lv_at hl 1 rfl) ?_
          refine va_get (D := D) (ci := 8) (C := RX6) (T := TX6) (N := 9) hx hb hts inX6 hown hK hP (270) g_270 rfl 0 (by decide) (hts (.fieldLink RX6 12 "TileRunners" "world" "LTileRunners$World;") (List.mem_of_getElem? (i := 3) rfl)) (fun _ h9 => h9) rfl dX6_tickUntilStanding_53 ?_
          refine lv_aload_n hx hb dX6_tickUntilStanding_56 rfl (lv_at hl 1 rfl) ?_
          refine va_get (D := D) (ci := 8) (C := RX6) (T := TX6) (N := 9) hx hb hts inX6 hown hK hP (270) g_270 rfl 3 (by decide) (hts (.fieldLink RX6 31 "TileRunners" "settings" "[I") (List.mem_of_getElem? (i := 6) rfl)) (fun _ h9 => h9) rfl dX6_tickUntilStanding_57 ?_
          have hP := f_eta 0 hP
          refine va_callv (va_runV (As := [.ref (ad (271))]) (rest := []) ⟨hx, hb, hml, hown, hts⟩ (c5_advance l hA σ49 (σ49 0) 0 (by decide) (hO.1 0 (by decide))) (cwV 1 hts gN_tickUntilStanding_X5_advance rfl rfl rfl hd_X5_advanceV ⟨Nat.le_of_ble_eq_true rfl, Nat.le_of_ble_eq_true rfl⟩) ⟨hp_blind, va_recv hK hP (ci := 7) (q0 := 18*0+0) rfl (c_o (by decide)), hp_pre hK hN hP⟩ rfl rfl hl.1 rfl (lv_room (Nat.le_of_ble_eq_true rfl)) dX6_tickUntilStanding_60 ⟨Nat.le_of_ble_eq_true rfl, Nat.le_of_ble_eq_true rfl⟩) hS (fun _ _ h => h) (fun _ h => h) (fun u9 t H locs ht hvm hw9 hB hz1 hk1 hS => ?_)
          have hP := ho_at ht hB
          obtain ⟨eq60, ok9⟩ := hw9
          obtain ⟨σ60, e_σ60⟩ : ∃ z, z = va_up σ49 0 u9 := ⟨_, rfl⟩
          rw [← e_σ60] at hP
          have hF := bnd_s eq60 hF
          have hF := bnd_s e_σ60 hF
          have hO := okS_row e_σ60 hO (by decide) ok9
          obtain ⟨v3_63, e_v3_63⟩ : ∃ z : Int32, z = w3_17 + 1 := ⟨_, rfl⟩
          have hF := bnd_s e_v3_63 hF
          refine lv_iinc (v := v3_63) (lv' := [(3, .int v3_63), (0, .ref (ad (270))), (1, .int a), (2, .int b)]) hx hb dX6_tickUntilStanding_63 hl (k := 0) rfl (by rw [e_v3_63]; rfl) (by decide) rfl (fun ls hl => ?_)
          refine lv_goto (tgt := 17) hx hb dX6_tickUntilStanding_66 (by decide) ?_
          exact ih17 v3_63 σ60 _ _ ls (ms_s (dec_up (nle_lt c19) e_v3_63) hm17) hO hP hS (lv_sub hl [0, 1, 2, 3] rfl) hF
  exact L17 BIG 0 σ12 _ _ ls (big_up _ _) hO hP hS (lv_sub hl [0, 1, 2, 3] rfl) hF
theorem hd_X6_tickUntilStandingV : yX6_tickUntilStanding.cls = RX6 ∧ yX6_tickUntilStanding.cls ≠ "java/lang/invoke/MethodHandle" ∧ yX6_tickUntilStanding.cls ≠ "java/lang/invoke/VarHandle" ∧ (parseMethodDescriptor yX6_tickUntilStanding.desc).map (fun d => d.parameters.length) = some 2 := by decide +kernel
