/-! PURE: the class's readings are the reference's, on what both hold alike -/
theorem bnd_e {α β : Type} (x : α) (f : α → β) : bnd x f = f x := (Eq.refl (f x)).trans (Eq.refl (f x))
theorem o_0 {u : Nat → Int32} {i : Nat} (hi : i < 4) : f7_of u (nI i) 0 = u (336+24*i+0) := of_nI (k := 0) hi (by decide)
theorem s_0 {u : Nat → Int32} {i : Nat} {x : Int32} (hi : i < 4) : f7_sets u (nI i) 0 x = va_up u (336+24*i+0) x := by have h := sets_c (u := u) (c := x) (k := 0) (vp_in_nI hi (by decide)) (by decide); rw [nI_clamp (by omega)] at h; exact h
theorem a_0 {u : Nat → Int32} {i : Nat} {x : Int32} (hi : i < 4) : f7_adds u (nI i) 0 x = va_up u (336+24*i+0) (u (336+24*i+0) + x) := by have h := adds_c (u := u) (c := x) (k := 0) (vp_in_nI hi (by decide)) (by decide); rw [nI_clamp (by omega)] at h; exact h
theorem o_1 {u : Nat → Int32} {i : Nat} (hi : i < 4) : f7_of u (nI i) 1 = u (336+24*i+1) := of_nI (k := 1) hi (by decide)
theorem s_1 {u : Nat → Int32} {i : Nat} {x : Int32} (hi : i < 4) : f7_sets u (nI i) 1 x = va_up u (336+24*i+1) x := by have h := sets_c (u := u) (c := x) (k := 1) (vp_in_nI hi (by decide)) (by decide); rw [nI_clamp (by omega)] at h; exact h
theorem a_1 {u : Nat → Int32} {i : Nat} {x : Int32} (hi : i < 4) : f7_adds u (nI i) 1 x = va_up u (336+24*i+1) (u (336+24*i+1) + x) := by have h := adds_c (u := u) (c := x) (k := 1) (vp_in_nI hi (by decide)) (by decide); rw [nI_clamp (by omega)] at h; exact h
theorem o_2 {u : Nat → Int32} {i : Nat} (hi : i < 4) : f7_of u (nI i) 2 = u (336+24*i+2) := of_nI (k := 2) hi (by decide)
theorem s_2 {u : Nat → Int32} {i : Nat} {x : Int32} (hi : i < 4) : f7_sets u (nI i) 2 x = va_up u (336+24*i+2) x := by have h := sets_c (u := u) (c := x) (k := 2) (vp_in_nI hi (by decide)) (by decide); rw [nI_clamp (by omega)] at h; exact h
theorem a_2 {u : Nat → Int32} {i : Nat} {x : Int32} (hi : i < 4) : f7_adds u (nI i) 2 x = va_up u (336+24*i+2) (u (336+24*i+2) + x) := by have h := adds_c (u := u) (c := x) (k := 2) (vp_in_nI hi (by decide)) (by decide); rw [nI_clamp (by omega)] at h; exact h
theorem o_3 {u : Nat → Int32} {i : Nat} (hi : i < 4) : f7_of u (nI i) 3 = u (336+24*i+3) := of_nI (k := 3) hi (by decide)
theorem s_3 {u : Nat → Int32} {i : Nat} {x : Int32} (hi : i < 4) : f7_sets u (nI i) 3 x = va_up u (336+24*i+3) x := by have h := sets_c (u := u) (c := x) (k := 3) (vp_in_nI hi (by decide)) (by decide); rw [nI_clamp (by omega)] at h; exact h
theorem a_3 {u : Nat → Int32} {i : Nat} {x : Int32} (hi : i < 4) : f7_adds u (nI i) 3 x = va_up u (336+24*i+3) (u (336+24*i+3) + x) := by have h := adds_c (u := u) (c := x) (k := 3) (vp_in_nI hi (by decide)) (by decide); rw [nI_clamp (by omega)] at h; exact h
theorem o_4 {u : Nat → Int32} {i : Nat} (hi : i < 4) : f7_of u (nI i) 4 = u (336+24*i+4) := of_nI (k := 4) hi (by decide)
theorem s_4 {u : Nat → Int32} {i : Nat} {x : Int32} (hi : i < 4) : f7_sets u (nI i) 4 x = va_up u (336+24*i+4) x := by have h := sets_c (u := u) (c := x) (k := 4) (vp_in_nI hi (by decide)) (by decide); rw [nI_clamp (by omega)] at h; exact h
theorem a_4 {u : Nat → Int32} {i : Nat} {x : Int32} (hi : i < 4) : f7_adds u (nI i) 4 x = va_up u (336+24*i+4) (u (336+24*i+4) + x) := by have h := adds_c (u := u) (c := x) (k := 4) (vp_in_nI hi (by decide)) (by decide); rw [nI_clamp (by omega)] at h; exact h
theorem o_5 {u : Nat → Int32} {i : Nat} (hi : i < 4) : f7_of u (nI i) 5 = u (336+24*i+5) := of_nI (k := 5) hi (by decide)
theorem s_5 {u : Nat → Int32} {i : Nat} {x : Int32} (hi : i < 4) : f7_sets u (nI i) 5 x = va_up u (336+24*i+5) x := by have h := sets_c (u := u) (c := x) (k := 5) (vp_in_nI hi (by decide)) (by decide); rw [nI_clamp (by omega)] at h; exact h
theorem a_5 {u : Nat → Int32} {i : Nat} {x : Int32} (hi : i < 4) : f7_adds u (nI i) 5 x = va_up u (336+24*i+5) (u (336+24*i+5) + x) := by have h := adds_c (u := u) (c := x) (k := 5) (vp_in_nI hi (by decide)) (by decide); rw [nI_clamp (by omega)] at h; exact h
theorem o_6 {u : Nat → Int32} {i : Nat} (hi : i < 4) : f7_of u (nI i) 6 = u (336+24*i+6) := of_nI (k := 6) hi (by decide)
theorem s_6 {u : Nat → Int32} {i : Nat} {x : Int32} (hi : i < 4) : f7_sets u (nI i) 6 x = va_up u (336+24*i+6) x := by have h := sets_c (u := u) (c := x) (k := 6) (vp_in_nI hi (by decide)) (by decide); rw [nI_clamp (by omega)] at h; exact h
theorem a_6 {u : Nat → Int32} {i : Nat} {x : Int32} (hi : i < 4) : f7_adds u (nI i) 6 x = va_up u (336+24*i+6) (u (336+24*i+6) + x) := by have h := adds_c (u := u) (c := x) (k := 6) (vp_in_nI hi (by decide)) (by decide); rw [nI_clamp (by omega)] at h; exact h
theorem o_7 {u : Nat → Int32} {i : Nat} (hi : i < 4) : f7_of u (nI i) 7 = u (336+24*i+7) := of_nI (k := 7) hi (by decide)
theorem s_7 {u : Nat → Int32} {i : Nat} {x : Int32} (hi : i < 4) : f7_sets u (nI i) 7 x = va_up u (336+24*i+7) x := by have h := sets_c (u := u) (c := x) (k := 7) (vp_in_nI hi (by decide)) (by decide); rw [nI_clamp (by omega)] at h; exact h
theorem a_7 {u : Nat → Int32} {i : Nat} {x : Int32} (hi : i < 4) : f7_adds u (nI i) 7 x = va_up u (336+24*i+7) (u (336+24*i+7) + x) := by have h := adds_c (u := u) (c := x) (k := 7) (vp_in_nI hi (by decide)) (by decide); rw [nI_clamp (by omega)] at h; exact h
theorem o_8 {u : Nat → Int32} {i : Nat} (hi : i < 4) : f7_of u (nI i) 8 = u (336+24*i+8) := of_nI (k := 8) hi (by decide)
theorem s_8 {u : Nat → Int32} {i : Nat} {x : Int32} (hi : i < 4) : f7_sets u (nI i) 8 x = va_up u (336+24*i+8) x := by have h := sets_c (u := u) (c := x) (k := 8) (vp_in_nI hi (by decide)) (by decide); rw [nI_clamp (by omega)] at h; exact h
theorem a_8 {u : Nat → Int32} {i : Nat} {x : Int32} (hi : i < 4) : f7_adds u (nI i) 8 x = va_up u (336+24*i+8) (u (336+24*i+8) + x) := by have h := adds_c (u := u) (c := x) (k := 8) (vp_in_nI hi (by decide)) (by decide); rw [nI_clamp (by omega)] at h; exact h
theorem o_9 {u : Nat → Int32} {i : Nat} (hi : i < 4) : f7_of u (nI i) 9 = u (336+24*i+9) := of_nI (k := 9) hi (by decide)
theorem s_9 {u : Nat → Int32} {i : Nat} {x : Int32} (hi : i < 4) : f7_sets u (nI i) 9 x = va_up u (336+24*i+9) x := by have h := sets_c (u := u) (c := x) (k := 9) (vp_in_nI hi (by decide)) (by decide); rw [nI_clamp (by omega)] at h; exact h
theorem a_9 {u : Nat → Int32} {i : Nat} {x : Int32} (hi : i < 4) : f7_adds u (nI i) 9 x = va_up u (336+24*i+9) (u (336+24*i+9) + x) := by have h := adds_c (u := u) (c := x) (k := 9) (vp_in_nI hi (by decide)) (by decide); rw [nI_clamp (by omega)] at h; exact h
theorem o_10 {u : Nat → Int32} {i : Nat} (hi : i < 4) : f7_of u (nI i) 10 = u (336+24*i+10) := of_nI (k := 10) hi (by decide)
theorem s_10 {u : Nat → Int32} {i : Nat} {x : Int32} (hi : i < 4) : f7_sets u (nI i) 10 x = va_up u (336+24*i+10) x := by have h := sets_c (u := u) (c := x) (k := 10) (vp_in_nI hi (by decide)) (by decide); rw [nI_clamp (by omega)] at h; exact h
theorem a_10 {u : Nat → Int32} {i : Nat} {x : Int32} (hi : i < 4) : f7_adds u (nI i) 10 x = va_up u (336+24*i+10) (u (336+24*i+10) + x) := by have h := adds_c (u := u) (c := x) (k := 10) (vp_in_nI hi (by decide)) (by decide); rw [nI_clamp (by omega)] at h; exact h
theorem o_11 {u : Nat → Int32} {i : Nat} (hi : i < 4) : f7_of u (nI i) 11 = u (336+24*i+11) := of_nI (k := 11) hi (by decide)
theorem s_11 {u : Nat → Int32} {i : Nat} {x : Int32} (hi : i < 4) : f7_sets u (nI i) 11 x = va_up u (336+24*i+11) x := by have h := sets_c (u := u) (c := x) (k := 11) (vp_in_nI hi (by decide)) (by decide); rw [nI_clamp (by omega)] at h; exact h
theorem a_11 {u : Nat → Int32} {i : Nat} {x : Int32} (hi : i < 4) : f7_adds u (nI i) 11 x = va_up u (336+24*i+11) (u (336+24*i+11) + x) := by have h := adds_c (u := u) (c := x) (k := 11) (vp_in_nI hi (by decide)) (by decide); rw [nI_clamp (by omega)] at h; exact h
theorem o_12 {u : Nat → Int32} {i : Nat} (hi : i < 4) : f7_of u (nI i) 12 = u (336+24*i+12) := of_nI (k := 12) hi (by decide)
theorem s_12 {u : Nat → Int32} {i : Nat} {x : Int32} (hi : i < 4) : f7_sets u (nI i) 12 x = va_up u (336+24*i+12) x := by have h := sets_c (u := u) (c := x) (k := 12) (vp_in_nI hi (by decide)) (by decide); rw [nI_clamp (by omega)] at h; exact h
theorem a_12 {u : Nat → Int32} {i : Nat} {x : Int32} (hi : i < 4) : f7_adds u (nI i) 12 x = va_up u (336+24*i+12) (u (336+24*i+12) + x) := by have h := adds_c (u := u) (c := x) (k := 12) (vp_in_nI hi (by decide)) (by decide); rw [nI_clamp (by omega)] at h; exact h
theorem o_13 {u : Nat → Int32} {i : Nat} (hi : i < 4) : f7_of u (nI i) 13 = u (336+24*i+13) := of_nI (k := 13) hi (by decide)
theorem s_13 {u : Nat → Int32} {i : Nat} {x : Int32} (hi : i < 4) : f7_sets u (nI i) 13 x = va_up u (336+24*i+13) x := by have h := sets_c (u := u) (c := x) (k := 13) (vp_in_nI hi (by decide)) (by decide); rw [nI_clamp (by omega)] at h; exact h
theorem a_13 {u : Nat → Int32} {i : Nat} {x : Int32} (hi : i < 4) : f7_adds u (nI i) 13 x = va_up u (336+24*i+13) (u (336+24*i+13) + x) := by have h := adds_c (u := u) (c := x) (k := 13) (vp_in_nI hi (by decide)) (by decide); rw [nI_clamp (by omega)] at h; exact h
theorem o_14 {u : Nat → Int32} {i : Nat} (hi : i < 4) : f7_of u (nI i) 14 = u (336+24*i+14) := of_nI (k := 14) hi (by decide)
theorem s_14 {u : Nat → Int32} {i : Nat} {x : Int32} (hi : i < 4) : f7_sets u (nI i) 14 x = va_up u (336+24*i+14) x := by have h := sets_c (u := u) (c := x) (k := 14) (vp_in_nI hi (by decide)) (by decide); rw [nI_clamp (by omega)] at h; exact h
theorem a_14 {u : Nat → Int32} {i : Nat} {x : Int32} (hi : i < 4) : f7_adds u (nI i) 14 x = va_up u (336+24*i+14) (u (336+24*i+14) + x) := by have h := adds_c (u := u) (c := x) (k := 14) (vp_in_nI hi (by decide)) (by decide); rw [nI_clamp (by omega)] at h; exact h
theorem o_15 {u : Nat → Int32} {i : Nat} (hi : i < 4) : f7_of u (nI i) 15 = u (336+24*i+15) := of_nI (k := 15) hi (by decide)
theorem s_15 {u : Nat → Int32} {i : Nat} {x : Int32} (hi : i < 4) : f7_sets u (nI i) 15 x = va_up u (336+24*i+15) x := by have h := sets_c (u := u) (c := x) (k := 15) (vp_in_nI hi (by decide)) (by decide); rw [nI_clamp (by omega)] at h; exact h
theorem a_15 {u : Nat → Int32} {i : Nat} {x : Int32} (hi : i < 4) : f7_adds u (nI i) 15 x = va_up u (336+24*i+15) (u (336+24*i+15) + x) := by have h := adds_c (u := u) (c := x) (k := 15) (vp_in_nI hi (by decide)) (by decide); rw [nI_clamp (by omega)] at h; exact h
theorem o_16 {u : Nat → Int32} {i : Nat} (hi : i < 4) : f7_of u (nI i) 16 = u (336+24*i+16) := of_nI (k := 16) hi (by decide)
theorem s_16 {u : Nat → Int32} {i : Nat} {x : Int32} (hi : i < 4) : f7_sets u (nI i) 16 x = va_up u (336+24*i+16) x := by have h := sets_c (u := u) (c := x) (k := 16) (vp_in_nI hi (by decide)) (by decide); rw [nI_clamp (by omega)] at h; exact h
theorem a_16 {u : Nat → Int32} {i : Nat} {x : Int32} (hi : i < 4) : f7_adds u (nI i) 16 x = va_up u (336+24*i+16) (u (336+24*i+16) + x) := by have h := adds_c (u := u) (c := x) (k := 16) (vp_in_nI hi (by decide)) (by decide); rw [nI_clamp (by omega)] at h; exact h
theorem o_17 {u : Nat → Int32} {i : Nat} (hi : i < 4) : f7_of u (nI i) 17 = u (336+24*i+17) := of_nI (k := 17) hi (by decide)
theorem s_17 {u : Nat → Int32} {i : Nat} {x : Int32} (hi : i < 4) : f7_sets u (nI i) 17 x = va_up u (336+24*i+17) x := by have h := sets_c (u := u) (c := x) (k := 17) (vp_in_nI hi (by decide)) (by decide); rw [nI_clamp (by omega)] at h; exact h
theorem a_17 {u : Nat → Int32} {i : Nat} {x : Int32} (hi : i < 4) : f7_adds u (nI i) 17 x = va_up u (336+24*i+17) (u (336+24*i+17) + x) := by have h := adds_c (u := u) (c := x) (k := 17) (vp_in_nI hi (by decide)) (by decide); rw [nI_clamp (by omega)] at h; exact h
theorem o_18 {u : Nat → Int32} {i : Nat} (hi : i < 4) : f7_of u (nI i) 18 = u (336+24*i+18) := of_nI (k := 18) hi (by decide)
theorem s_18 {u : Nat → Int32} {i : Nat} {x : Int32} (hi : i < 4) : f7_sets u (nI i) 18 x = va_up u (336+24*i+18) x := by have h := sets_c (u := u) (c := x) (k := 18) (vp_in_nI hi (by decide)) (by decide); rw [nI_clamp (by omega)] at h; exact h
theorem a_18 {u : Nat → Int32} {i : Nat} {x : Int32} (hi : i < 4) : f7_adds u (nI i) 18 x = va_up u (336+24*i+18) (u (336+24*i+18) + x) := by have h := adds_c (u := u) (c := x) (k := 18) (vp_in_nI hi (by decide)) (by decide); rw [nI_clamp (by omega)] at h; exact h
theorem o_19 {u : Nat → Int32} {i : Nat} (hi : i < 4) : f7_of u (nI i) 19 = u (336+24*i+19) := of_nI (k := 19) hi (by decide)
theorem s_19 {u : Nat → Int32} {i : Nat} {x : Int32} (hi : i < 4) : f7_sets u (nI i) 19 x = va_up u (336+24*i+19) x := by have h := sets_c (u := u) (c := x) (k := 19) (vp_in_nI hi (by decide)) (by decide); rw [nI_clamp (by omega)] at h; exact h
theorem a_19 {u : Nat → Int32} {i : Nat} {x : Int32} (hi : i < 4) : f7_adds u (nI i) 19 x = va_up u (336+24*i+19) (u (336+24*i+19) + x) := by have h := adds_c (u := u) (c := x) (k := 19) (vp_in_nI hi (by decide)) (by decide); rw [nI_clamp (by omega)] at h; exact h
theorem o_20 {u : Nat → Int32} {i : Nat} (hi : i < 4) : f7_of u (nI i) 20 = u (336+24*i+20) := of_nI (k := 20) hi (by decide)
theorem s_20 {u : Nat → Int32} {i : Nat} {x : Int32} (hi : i < 4) : f7_sets u (nI i) 20 x = va_up u (336+24*i+20) x := by have h := sets_c (u := u) (c := x) (k := 20) (vp_in_nI hi (by decide)) (by decide); rw [nI_clamp (by omega)] at h; exact h
theorem a_20 {u : Nat → Int32} {i : Nat} {x : Int32} (hi : i < 4) : f7_adds u (nI i) 20 x = va_up u (336+24*i+20) (u (336+24*i+20) + x) := by have h := adds_c (u := u) (c := x) (k := 20) (vp_in_nI hi (by decide)) (by decide); rw [nI_clamp (by omega)] at h; exact h
theorem o_21 {u : Nat → Int32} {i : Nat} (hi : i < 4) : f7_of u (nI i) 21 = u (336+24*i+21) := of_nI (k := 21) hi (by decide)
theorem s_21 {u : Nat → Int32} {i : Nat} {x : Int32} (hi : i < 4) : f7_sets u (nI i) 21 x = va_up u (336+24*i+21) x := by have h := sets_c (u := u) (c := x) (k := 21) (vp_in_nI hi (by decide)) (by decide); rw [nI_clamp (by omega)] at h; exact h
theorem a_21 {u : Nat → Int32} {i : Nat} {x : Int32} (hi : i < 4) : f7_adds u (nI i) 21 x = va_up u (336+24*i+21) (u (336+24*i+21) + x) := by have h := adds_c (u := u) (c := x) (k := 21) (vp_in_nI hi (by decide)) (by decide); rw [nI_clamp (by omega)] at h; exact h
theorem plate_nI {u : Nat → Int32} {p k : Nat} (hp : p < 4) (hk : k < 8) : f7_plate u (nI p) (nI k) = u (432+8*p+k) := by
  show u (((432 + (8 * nI p)) + nI k).toNatClampNeg) = _
  rw [pl_ix (vp_in_nI hp (by decide)) (vp_in_nI hk (by decide)), nI_clamp (by omega), nI_clamp (by omega)]
theorem setsP_nI {u : Nat → Int32} {p k : Nat} {x : Int32} (hp : p < 4) (hk : k < 8) : f7_setsPlate u (nI p) (nI k) x = va_up u (432+8*p+k) x := by
  show va_up u (((432 + (8 * nI p)) + nI k).toNatClampNeg) x = _
  rw [pl_ix (vp_in_nI hp (by decide)) (vp_in_nI hk (by decide)), nI_clamp (by omega), nI_clamp (by omega)]
theorem p_0 {u : Nat → Int32} {p : Nat} (hp : p < 4) : f7_plate u (nI p) 0 = u (432+8*p+0) := plate_nI (k := 0) hp (by decide)
theorem q_0 {u : Nat → Int32} {p : Nat} {x : Int32} (hp : p < 4) : f7_setsPlate u (nI p) 0 x = va_up u (432+8*p+0) x := setsP_nI (k := 0) hp (by decide)
theorem p_1 {u : Nat → Int32} {p : Nat} (hp : p < 4) : f7_plate u (nI p) 1 = u (432+8*p+1) := plate_nI (k := 1) hp (by decide)
theorem q_1 {u : Nat → Int32} {p : Nat} {x : Int32} (hp : p < 4) : f7_setsPlate u (nI p) 1 x = va_up u (432+8*p+1) x := setsP_nI (k := 1) hp (by decide)
theorem p_2 {u : Nat → Int32} {p : Nat} (hp : p < 4) : f7_plate u (nI p) 2 = u (432+8*p+2) := plate_nI (k := 2) hp (by decide)
theorem q_2 {u : Nat → Int32} {p : Nat} {x : Int32} (hp : p < 4) : f7_setsPlate u (nI p) 2 x = va_up u (432+8*p+2) x := setsP_nI (k := 2) hp (by decide)
theorem p_3 {u : Nat → Int32} {p : Nat} (hp : p < 4) : f7_plate u (nI p) 3 = u (432+8*p+3) := plate_nI (k := 3) hp (by decide)
theorem q_3 {u : Nat → Int32} {p : Nat} {x : Int32} (hp : p < 4) : f7_setsPlate u (nI p) 3 x = va_up u (432+8*p+3) x := setsP_nI (k := 3) hp (by decide)
theorem p_4 {u : Nat → Int32} {p : Nat} (hp : p < 4) : f7_plate u (nI p) 4 = u (432+8*p+4) := plate_nI (k := 4) hp (by decide)
theorem q_4 {u : Nat → Int32} {p : Nat} {x : Int32} (hp : p < 4) : f7_setsPlate u (nI p) 4 x = va_up u (432+8*p+4) x := setsP_nI (k := 4) hp (by decide)
theorem p_5 {u : Nat → Int32} {p : Nat} (hp : p < 4) : f7_plate u (nI p) 5 = u (432+8*p+5) := plate_nI (k := 5) hp (by decide)
theorem q_5 {u : Nat → Int32} {p : Nat} {x : Int32} (hp : p < 4) : f7_setsPlate u (nI p) 5 x = va_up u (432+8*p+5) x := setsP_nI (k := 5) hp (by decide)
theorem p_6 {u : Nat → Int32} {p : Nat} (hp : p < 4) : f7_plate u (nI p) 6 = u (432+8*p+6) := plate_nI (k := 6) hp (by decide)
theorem q_6 {u : Nat → Int32} {p : Nat} {x : Int32} (hp : p < 4) : f7_setsPlate u (nI p) 6 x = va_up u (432+8*p+6) x := setsP_nI (k := 6) hp (by decide)
def ET (u m : Nat → Int32) : Prop := ∀ t, t < 336 → u t = m t
def EI (u m : Nat → Int32) (i : Nat) : Prop := ∀ k, k < 22 → u (336+24*i+k) = m (336+24*i+k)
def ED (u m : Nat → Int32) (i : Nat) : Prop := ∀ k, 7 ≤ k ∧ k < 9 → u (336+24*i+k) = m (336+24*i+k)
theorem EI.D {u m : Nat → Int32} {i : Nat} (h : EI u m i) : ED u m i := fun k hk => h k (Nat.lt_trans hk.2 (by decide))
def EG (u m : Nat → Int32) (i : Nat) : Prop := ∀ k, 6 ≤ k ∧ k < 9 → u (336+24*i+k) = m (336+24*i+k)
theorem EI.G {u m : Nat → Int32} {i : Nat} (h : EI u m i) : EG u m i := fun k hk => h k (Nat.lt_trans hk.2 (by decide))
theorem EG.D {u m : Nat → Int32} {i : Nat} (h : EG u m i) : ED u m i := fun k hk => h k ⟨Nat.le_trans (by decide) hk.1, hk.2⟩
def EP (u m : Nat → Int32) : Prop := u 465 = m 465 ∧ ∀ p : Nat, p < 4 → (p : Int) < (m 465).toInt → ∀ k : Nat, k < 7 → u (432+8*p+k) = m (432+8*p+k)
theorem e_kind {u m : Nat → Int32} {a b : Int32} (hT : ET u m) : f4_kindAt u a b = f7_kindIn m a b := by
  unfold f4_kindAt f7_kindIn
  by_cases h1 : a < 0
  · rw [if_pos h1, if_pos h1]
  · rw [if_neg h1, if_neg h1]
    by_cases h2 : a < 24
    · rw [if_pos h2, if_pos h2]
      by_cases h3 : b < 0
      · rw [if_pos h3, if_pos h3]
      · rw [if_neg h3, if_neg h3]
        by_cases h4 : b < 14
        · rw [if_pos h4, if_pos h4, Int32.mul_comm b 24]
          exact hT _ (kindIn_in (u := u) h1 h2 h3 h4)
        · rw [if_neg h4, if_neg h4]
    · rw [if_neg h2, if_neg h2]
theorem e_row (y : Int32) : f7_rowOf y = y >>> ((4 : Int32) &&& 31) := fd16 y
theorem e_kindAt {m : Nat → Int32} {x y : Int32} : f7_kindAt m x y = f7_kindIn m (x >>> ((4 : Int32) &&& 31)) (y >>> ((4 : Int32) &&& 31)) := by
  show f7_kindIn m (fJ9_floorDiv x 16) (f7_rowOf y) = _
  rw [fd16, e_row]
theorem e_firm (k : Int32) : f7_isFirm k = f6_isFirm k := by
  unfold f7_isFirm f6_isFirm f7_isBetween bnd
  by_cases h1 : k = 1
  · rw [if_pos h1, if_pos h1]
  · rw [if_neg h1, if_neg h1]
    by_cases h2 : k < 5
    · rw [if_pos h2]; rfl
    · rw [if_neg h2]
      by_cases h3 : 8 < k
      · rw [if_pos h3]; rfl
      · rw [if_neg h3]; rfl
theorem e_slope (k : Int32) : f7_isSlope k = f6_isSlope k := rfl
theorem e_foot {u m : Nat → Int32} {i : Nat} {x : Int32} (hi : i < 4) (hB : ED u m i) : f7_foot m (nI i) x = f0_footAt u i x := by
  show x + f7_of m (nI i) 7 / 2 = x + u (336+24*i+7) / 2
  rw [o_7 hi, hB 7 (by decide)]
theorem e_lastC {u m : Nat → Int32} {i : Nat} {x : Int32} (hi : i < 4) (hB : ED u m i) : fJ9_floorDiv ((x + f7_of m (nI i) 7) - 1) 16 = f0_lastColumnAt u i x := by
  rw [fd16, o_7 hi, ← hB 7 (by decide)]; rfl
theorem e_lastR {u m : Nat → Int32} {i : Nat} {y : Int32} (hi : i < 4) (hB : ED u m i) : f7_rowOf ((y + f7_of m (nI i) 8) - 1) = f0_lastRowAt u i y := by
  rw [e_row, o_8 hi, ← hB 8 (by decide)]; rfl
theorem shr4k (x : Int32) : (x >>> ((4 : Int32) &&& 31)).toInt ≤ 134217727 := by
  rw [← fd16]; exact fd16_le x
theorem e_out {u m : Nat → Int32} {i : Nat} {x y : Int32} (hi : i < 4) (hT : ET u m) (hB : ED u m i) : f7_rowLeftOut m (nI i) x y = if f6_isSlope (f4_kindAt u (f0_footAt u i x >>> ((4 : Int32) &&& 31)) (y >>> ((4 : Int32) &&& 31))) = 0 then -1000 else y >>> ((4 : Int32) &&& 31) := by
  unfold f7_rowLeftOut bnd
  show (if f7_isSlope (f7_kindAt m (f7_foot m (nI i) x) y) = 0 then (-1000 : Int32) else f7_rowOf y) = _
  rw [e_foot hi hB, e_kindAt, ← e_kind hT, e_slope, e_row]
theorem firm0 {m : Nat → Int32} {c r : Int32} (h1 : ¬ c < 0) (h2 : c < 24) (h3 : r < 0) : f6_isFirm (f7_kindIn m c r) = 0 := by
  unfold f7_kindIn
  rw [if_neg h1, if_pos h2, if_pos h3]; rfl
theorem e_ign {m : Nat → Int32} {c r t0 out : Int32} (hx : (t0 = -1 ∧ out = -1000) ∨ t0 = out) (hf : ¬ f6_isFirm (f7_kindIn m c r) = 0) : (f4_isIgnored c r t0 = 0) ↔ (¬ r = out ∨ ¬ f7_isBeside c = 0) := by
  unfold f4_isIgnored f7_isBeside
  by_cases h1 : c < 0
  · rw [if_pos h1, if_pos h1]
    constructor
    · intro _; exact Or.inr (by decide)
    · intro _; split <;> rfl
  · rw [if_neg h1, if_neg h1]
    by_cases h2 : c < 24
    · rw [if_pos h2]
      have h24 : ¬ (24 : Int32) ≤ c := fun q => by rw [Int32.lt_iff_toInt_lt] at h2; rw [Int32.le_iff_toInt_le] at q; omega
      rw [if_neg h24]
      have hneg : ∀ z : Int32, z < 0 → ¬ r = z := fun z hz q => hf (by rw [q]; exact firm0 h1 h2 hz)
      rcases hx with ⟨rfl, rfl⟩ | rfl
      · rw [if_neg (hneg (-1) (by decide))]
        exact ⟨fun _ => Or.inl (hneg (-1000) (by decide)), fun _ => rfl⟩
      · by_cases h3 : r = t0
        · rw [if_pos h3]
          constructor
          · intro q; exact absurd q (by decide)
          · intro q; rcases q with q | q
            · exact absurd h3 q
            · exact absurd rfl q
        · rw [if_neg h3]
          exact ⟨fun _ => Or.inl h3, fun _ => rfl⟩
    · rw [if_neg h2]
      have h24 : (24 : Int32) ≤ c := by
        rw [Int32.lt_iff_toInt_lt] at h2; rw [Int32.le_iff_toInt_le]; omega
      rw [if_pos h24]
      constructor
      · intro _; exact Or.inr (by decide)
      · intro _; split <;> rfl
theorem t0_out {S Y : Int32} : ((if S = 0 then (-1 : Int32) else Y) = -1 ∧ (if S = 0 then (-1000 : Int32) else Y) = -1000) ∨ (if S = 0 then (-1 : Int32) else Y) = (if S = 0 then (-1000 : Int32) else Y) := by
  by_cases h : S = 0
  · left; rw [if_pos h, if_pos h]; exact ⟨rfl, rfl⟩
  · right; rw [if_neg h, if_neg h]
theorem e_bl62 {u m : Nat → Int32} {i : Nat} {y t0 out c : Int32} {k51 k17 : Int32 → Int32} (hi : i < 4) (hT : ET u m) (hB : ED u m i) (hx : (t0 = -1 ∧ out = -1000) ∨ t0 = out) (hk : k51 (c + 1) = k17 (c + 1)) :
    ∀ (n n2 : Nat) (r : Int32), (134217728 - r.toInt).toNat < n → (134217728 - r.toInt).toNat < n2 → f4_block_L62 k51 u (f0_lastRowAt u i y) t0 c n r = f7_blocks_L44 k17 m (nI i) y out c n2 r := by
  intro n
  induction n with
  | zero => intro n2 r h; omega
  | succ n ih =>
    intro n2 r h1 h2
    cases n2 with
    | zero => omega
    | succ n2 =>
      rw [f4_block_L62, f7_blocks_L44]
      simp only [bnd_e]
      rw [e_lastR hi hB]
      by_cases hl : f0_lastRowAt u i y < r
      · rw [if_pos hl, if_pos hl]; exact hk
      · rw [if_neg hl, if_neg hl, e_firm, e_kind hT]
        have hd := dec_k hl (shr4k _) (rfl : r + 1 = r + 1)
        have hn := ih n2 (r + 1) (by omega) (by omega)
        by_cases hf : f6_isFirm (f7_kindIn m c r) = 0
        · rw [if_pos hf, if_pos hf]; exact hn
        · rw [if_neg hf, if_neg hf]
          have hg := e_ign hx hf
          by_cases ho : r = out
          · rw [if_pos ho]
            by_cases hb : f7_isBeside c = 0
            · rw [if_pos hb, if_neg (fun q => (hg.mp q).elim (fun z => z ho) (fun z => z hb))]; exact hn
            · rw [if_neg hb, if_pos (hg.mpr (Or.inr hb))]
          · rw [if_neg ho, if_pos (hg.mpr (Or.inl ho))]
theorem e_bl51 {u m : Nat → Int32} {i : Nat} {x y t0 out : Int32} (hi : i < 4) (hT : ET u m) (hB : ED u m i) (hx : (t0 = -1 ∧ out = -1000) ∨ t0 = out) :
    ∀ (n n2 : Nat) (c : Int32), (134217728 - c.toInt).toNat < n → (134217728 - c.toInt).toNat < n2 → f4_block_L51 u (f0_lastColumnAt u i x) (f0_lastRowAt u i y) (y >>> ((4 : Int32) &&& 31)) t0 n c = f7_blocks_L17 m (nI i) x y out n2 c := by
  intro n
  induction n with
  | zero => intro n2 r h; omega
  | succ n ih =>
    intro n2 c h1 h2
    cases n2 with
    | zero => omega
    | succ n2 =>
      rw [f4_block_L51, f7_blocks_L17]
      simp only [bnd_e]
      rw [e_lastC hi hB, e_row]
      by_cases hl : f0_lastColumnAt u i x < c
      · rw [if_pos hl, if_pos hl]
      · rw [if_neg hl, if_neg hl]
        have hd := dec_k hl (shr4k _) (rfl : c + 1 = c + 1)
        exact e_bl62 hi hT hB hx (ih n2 (c + 1) (by omega) (by omega)) BIG BIG _ (big_k _) (big_k _)
theorem e_block {u m : Nat → Int32} {i : Nat} {x y : Int32} (hi : i < 4) (hT : ET u m) (hB : ED u m i) : f4_block u i x y = f7_blocks m (nI i) x y := by
  unfold f4_block f7_blocks
  simp only [bnd_e]
  rw [fd16, e_out hi hT hB]
  have h := fun t0 out hx => e_bl51 (x := x) (y := y) (t0 := t0) (out := out) hi hT hB hx BIG BIG (x >>> ((4 : Int32) &&& 31)) (big_k _) (big_k _)
  by_cases hs : f6_isSlope (f4_kindAt u (f0_footAt u i x >>> ((4 : Int32) &&& 31)) (y >>> ((4 : Int32) &&& 31))) = 0
  · rw [if_pos hs, if_pos hs]; exact h (-1) (-1000) (Or.inl ⟨rfl, rfl⟩)
  · rw [if_neg hs, if_neg hs]; exact h _ _ (Or.inr rfl)
theorem e_fb {u m : Nat → Int32} {i : Nat} {x r t0 out : Int32} (hi : i < 4) (hT : ET u m) (hB : ED u m i) (hx : (t0 = -1 ∧ out = -1000) ∨ t0 = out) :
    ∀ (n n2 : Nat) (c s : Int32), (134217728 - c.toInt).toNat < n → (134217728 - c.toInt).toNat < n2 → f4_firmKindsBelow_L54 u (f0_lastColumnAt u i x) r t0 n c s = f7_firmBelow_L28 m (nI i) x out r n2 c s := by
  intro n
  induction n with
  | zero => intro n2 c s h; omega
  | succ n ih =>
    intro n2 c s h1 h2
    cases n2 with
    | zero => omega
    | succ n2 =>
      rw [f4_firmKindsBelow_L54, f7_firmBelow_L28]
      simp only [bnd_e]
      rw [e_lastC hi hB]
      by_cases hl : f0_lastColumnAt u i x < c
      · rw [if_pos hl, if_pos hl]
      · rw [if_neg hl, if_neg hl, e_firm, e_kind hT]
        have hd := dec_k hl (shr4k _) (rfl : c + 1 = c + 1)
        have hn := fun s => ih n2 (c + 1) s (by omega) (by omega)
        by_cases hf : f6_isFirm (f7_kindIn m c r) = 0
        · rw [if_pos hf, if_pos hf]; exact hn s
        · rw [if_neg hf, if_neg hf]
          have hg := e_ign hx hf
          by_cases ho : r = out
          · rw [if_pos ho]
            by_cases hb : f7_isBeside c = 0
            · rw [if_pos hb, if_neg (fun q => (hg.mp q).elim (fun z => z ho) (fun z => z hb))]; exact hn s
            · rw [if_neg hb, if_pos (hg.mpr (Or.inr hb))]; exact hn _
          · rw [if_neg ho, if_pos (hg.mpr (Or.inl ho))]; exact hn _
theorem e_firmBelow {u m : Nat → Int32} {i : Nat} {x y : Int32} (hi : i < 4) (hT : ET u m) (hB : ED u m i) : f4_firmKindsBelow u i x y = f7_firmBelow m (nI i) x y := by
  unfold f4_firmKindsBelow f7_firmBelow
  simp only [bnd_e]
  rw [fd16, e_out hi hT hB, e_row]
  have h := fun t0 out hx => e_fb (x := x) (r := (y - 1) >>> ((4 : Int32) &&& 31)) (t0 := t0) (out := out) hi hT hB hx BIG BIG (x >>> ((4 : Int32) &&& 31)) 0 (big_k _) (big_k _)
  by_cases hs : f6_isSlope (f4_kindAt u (f0_footAt u i x >>> ((4 : Int32) &&& 31)) (y >>> ((4 : Int32) &&& 31))) = 0
  · rw [if_pos hs, if_pos hs]; exact h (-1) (-1000) (Or.inl ⟨rfl, rfl⟩)
  · rw [if_neg hs, if_neg hs]; exact h _ _ (Or.inr rfl)
theorem e_ow {u m : Nat → Int32} {i : Nat} {x y : Int32} (hi : i < 4) (hT : ET u m) (hB : ED u m i) :
    ∀ (n n2 : Nat) (c : Int32), (134217728 - c.toInt).toNat < n → (134217728 - c.toInt).toNat < n2 → f4_haveFloorBelow_L21 u y (f0_lastColumnAt u i x) n c = f7_hasOneWay_L19 m (nI i) x y n2 c := by
  intro n
  induction n with
  | zero => intro n2 c h; omega
  | succ n ih =>
    intro n2 c h1 h2
    cases n2 with
    | zero => omega
    | succ n2 =>
      rw [f4_haveFloorBelow_L21, f7_hasOneWay_L19]
      simp only [bnd_e]
      rw [e_lastC hi hB, e_row]
      by_cases hl : f0_lastColumnAt u i x < c
      · rw [if_pos hl, if_pos hl]
      · rw [if_neg hl, if_neg hl, e_kind hT]
        have hd := dec_k hl (shr4k _) (rfl : c + 1 = c + 1)
        by_cases h3 : f7_kindIn m c ((y - 1) >>> ((4 : Int32) &&& 31)) = 2
        · rw [if_pos h3, if_pos h3]
        · rw [if_neg h3, if_neg h3]; exact ih n2 (c + 1) (by omega) (by omega)
theorem e_mod (y : Int32) : fJ9_floorMod y 16 = 0 ↔ y - y / 16 * 16 = 0 := by
  show (if 0 ≤ (y ^^^ 16) then (y - y / 16 * 16) else if y - y / 16 * 16 = 0 then y - y / 16 * 16 else y - y / 16 * 16 + 16) = 0 ↔ _
  by_cases h0 : 0 ≤ y ^^^ 16
  · rw [if_pos h0]
  · rw [if_neg h0]
    by_cases h1 : y - y / 16 * 16 = 0
    · rw [if_pos h1]
    · rw [if_neg h1]
      refine ⟨fun q => ?_, fun q => absurd q h1⟩
      exfalso
      have h3 := y.le_toInt
      have h4 := y.toInt_lt
      have hd : (y / 16).toInt = y.toInt.tdiv 16 := Int32.toInt_div_of_ne_right y 16 (by decide)
      have hy : ¬ 0 ≤ y.toInt := fun z => h0 ((xor16 y).mpr (by rw [Int32.le_iff_toInt_le]; exact z))
      have hq : y.toInt.tdiv 16 = -((-y.toInt) / 16) := by
        rw [← Int.neg_neg y.toInt, Int.neg_tdiv, Int.neg_neg, Int.tdiv_eq_ediv_of_nonneg (by omega)]
      have hm : (y / 16 * 16).toInt = -((-y.toInt) / 16) * 16 := by
        rw [Int32.toInt_mul, hd, show (16 : Int32).toInt = 16 from rfl, hq, Int.bmod_def]
        split <;> omega
      have hr : (y - y / 16 * 16).toInt = y.toInt + (-y.toInt) / 16 * 16 := by
        rw [Int32.toInt_sub, hm, Int.bmod_def]
        split <;> omega
      have hz := congrArg Int32.toInt q
      rw [Int32.toInt_add, hr, show (16 : Int32).toInt = 16 from rfl, show (0 : Int32).toInt = 0 from rfl, Int.bmod_def] at hz
      split at hz <;> omega
theorem e_floor {u m : Nat → Int32} {i : Nat} {x y : Int32} (hi : i < 4) (hT : ET u m) (hB : ED u m i) : f4_haveFloorBelow u i x y = f7_hasOneWay m (nI i) x y := by
  unfold f4_haveFloorBelow f7_hasOneWay
  simp only [bnd_e]
  by_cases h : y - y / 16 * 16 = 0
  · rw [if_pos h, if_pos ((e_mod y).mpr h), fd16]
    exact e_ow hi hT hB BIG BIG _ (big_k _) (big_k _)
  · rw [if_neg h, if_neg (fun q => h ((e_mod y).mp q))]
theorem e_surf {u m : Nat → Int32} {x y : Int32} (hT : ET u m) : f4_surfaceAt u x y = if f7_isSlope (f7_kindAt m x y) = 0 then -1000000 else f7_surfaceAt m x y := by
  unfold f4_surfaceAt f7_surfaceAt
  simp only [bnd_e]
  rw [e_row, e_kindAt, e_kind hT]
  generalize f7_kindIn m (x >>> ((4 : Int32) &&& 31)) (y >>> ((4 : Int32) &&& 31)) = k
  unfold f7_isSlope
  by_cases h3 : k = 3
  · rw [if_pos h3, if_pos h3, if_pos h3, if_neg (by decide), Int32.add_assoc]
  · rw [if_neg h3, if_neg h3, if_neg h3]
    by_cases h4 : k = 4
    · rw [if_pos h4, if_pos h4, if_neg (by decide)]
      simp only [Int32.sub_eq_add_neg, Int32.add_assoc]
    · rw [if_neg h4, if_neg h4, if_pos rfl]
theorem e_onSlope {u m : Nat → Int32} {i : Nat} {x y : Int32} (hi : i < 4) (hT : ET u m) (hB : ED u m i) (hy : ¬ y = -1000000) : (f4_surfaceAt u (f0_footAt u i x) (y - 1) = y) ↔ ¬ f7_isOnSlope m (nI i) x y = 0 := by
  rw [e_surf hT]
  unfold f7_isOnSlope
  simp only [bnd_e]
  rw [e_foot hi hB]
  by_cases h : f7_isSlope (f7_kindAt m (f0_footAt u i x) (y - 1)) = 0
  · rw [if_pos h, if_pos h]
    exact ⟨fun q => absurd q.symm hy, fun q => absurd rfl q⟩
  · rw [if_neg h, if_neg h]
    by_cases h2 : f7_surfaceAt m (f0_footAt u i x) (y - 1) = y
    · rw [if_pos h2]; exact ⟨fun _ => by decide, fun _ => h2⟩
    · rw [if_neg h2]; exact ⟨fun q => absurd q h2, fun q => absurd rfl q⟩
theorem e_under {u m : Nat → Int32} {i p : Nat} {x y : Int32} (hi : i < 4) (hp : p < 4) (hB : ED u m i) (hP : ∀ k, k < 7 → u (432+8*p+k) = m (432+8*p+k)) : f2_isUnder u p i x y = f7_isOn m (nI i) (nI p) x y := by
  unfold f2_isUnder f7_isOn
  simp only [bnd_e]
  rw [p_0 hp, p_1 hp, p_2 hp, o_7 hi, hP 0 (by decide), hP 1 (by decide), hP 2 (by decide), hB 7 (by decide)]
theorem e_pu {u m : Nat → Int32} {i : Nat} {x y d : Int32} (hi : i < 4) (hB : EG u m i) (hO : okW m) (hP : EP u m) :
    ∀ (n n2 : Nat) (p : Int32), 0 ≤ p → (4 - p.toInt).toNat < n → (4 - p.toInt).toNat < n2 → f5_platformUnder_L3 u i x y d n p = f7_platformBelow_L3 m (nI i) x y d n2 p ∧ (f7_platformBelow_L3 m (nI i) x y d n2 p = -1 ∨ (0 ≤ f7_platformBelow_L3 m (nI i) x y d n2 p ∧ (f7_platformBelow_L3 m (nI i) x y d n2 p).toInt < (m 465).toInt)) := by
  intro n
  induction n with
  | zero => intro n2 p h0 h; omega
  | succ n ih =>
    intro n2 p h0 h1 h2
    cases n2 with
    | zero => omega
    | succ n2 =>
      rw [f5_platformUnder_L3, f7_platformBelow_L3]
      simp only [bnd_e]
      rw [hP.1]
      by_cases hl : m 465 ≤ p
      · rw [if_pos hl, if_pos hl]; exact ⟨rfl, Or.inl rfl⟩
      · rw [if_neg hl, if_neg hl]
        have hv : vp_in p 4 := in_n h0 (nle_lt hl) hO.2.2.2
        have hd := dec_i4 hv (rfl : p + 1 = p + 1)
        have hn := ih n2 (p + 1) (ge0_i4 hv rfl) (by omega) (by omega)
        have hlt := Int32.lt_iff_toInt_lt.mp (nle_lt hl)
        by_cases hd2 : p = d
        · rw [if_pos hd2, if_pos hd2]; exact hn
        · rw [if_neg hd2, if_neg hd2]
          obtain ⟨q, hq, rfl⟩ := vp_in_of hv (by decide)
          have hqt := nI_toInt (n := q) (by omega)
          rw [nI_clamp (by omega), e_under hi hq hB.D (hP.2 q hq (by omega))]
          by_cases hz : f7_isOn m (nI i) (nI q) x y = 0
          · rw [if_pos hz, if_pos hz]; exact hn
          · rw [if_neg hz, if_neg hz]; exact ⟨rfl, Or.inr ⟨h0, hlt⟩⟩
theorem e_platformUnder {u m : Nat → Int32} {i : Nat} {x y d : Int32} (hi : i < 4) (hB : EG u m i) (hO : okW m) (hP : EP u m) : f5_platformUnder u i x y d = f7_platformBelow m (nI i) x y d := (e_pu hi hB hO hP BIG BIG 0 le0 (big_i4 _) (big_i4 _)).1
theorem e_puR {u m : Nat → Int32} {i : Nat} {x y d : Int32} (hi : i < 4) (hB : EG u m i) (hO : okW m) (hP : EP u m) : f7_platformBelow m (nI i) x y d = -1 ∨ (0 ≤ f7_platformBelow m (nI i) x y d ∧ (f7_platformBelow m (nI i) x y d).toInt < (m 465).toInt) := (e_pu hi hB hO hP BIG BIG 0 le0 (big_i4 _) (big_i4 _)).2
theorem e_support {u m : Nat → Int32} {i : Nat} {x y d : Int32} (hi : i < 4) (hT : ET u m) (hB : EG u m i) (hO : okW m) (hP : EP u m) (hy : ¬ y = -1000000) : f5_supportAt u i x y d = f7_supportBut m (nI i) x y d := by
  have hsl := e_onSlope (x := x) hi hT hB.D hy
  have hpu := e_platformUnder (x := x) (y := y) (d := d) hi hB hO hP
  have hpr := e_puR (x := x) (y := y) (d := d) hi hB hO hP
  have hp0 : (f7_platformBelow m (nI i) x y d = -1) ↔ f7_platformBelow m (nI i) x y d < 0 := by
    constructor
    · intro q; rw [q]; decide
    · intro q
      rcases hpr with h | ⟨h, -⟩
      · exact h
      · rw [Int32.lt_iff_toInt_lt] at q; rw [Int32.le_iff_toInt_le] at h; omega
  unfold f5_supportAt f7_supportBut f5_supportAt_b22 f7_supportBut_b15 f5_supportAt_b47 f7_supportBut_b30 f5_supportAt_b76 f7_supportBut_b63
  simp only [bnd_e]
  rw [e_firmBelow hi hT hB.D, o_6 hi, hB 6 (by decide), e_floor hi hT hB.D, hpu]
  by_cases h1 : f7_firmBelow m (nI i) x y = 0 <;> by_cases h2 : f7_isOnSlope m (nI i) x y = 0 <;> by_cases h3 : m (336+24*i+6) ≤ 0 <;> by_cases h4 : f7_hasOneWay m (nI i) x y = 0 <;> by_cases h5 : f7_platformBelow m (nI i) x y d < 0 <;>
    simp only [h1, h2, h3, h4, h5, hsl, hp0, if_true, if_false, not_true_eq_false, not_false_eq_true] <;> rfl
