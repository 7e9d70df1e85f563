/-! PURE, part B: what the copies leave -/
def CP (σ : Nat → Nat → Int32) (w b : Nat) (val : Nat → Int32) (L : List Nat) (s : Nat → Nat → Int32) : Prop := (∀ r t, (¬ r = w ∨ ∀ k ∈ L, t ≠ b + k) → s r t = σ r t) ∧ ∀ k ∈ L, s w (b + k) = val k
theorem CP_nil {σ : Nat → Nat → Int32} {w b : Nat} {val : Nat → Int32} : CP σ w b val [] σ := ⟨fun _ _ _ => rfl, fun _ h => nomatch h⟩
theorem CP_up {σ s : Nat → Nat → Int32} {w b k t : Nat} {val : Nat → Int32} {L : List Nat} {x : Int32} (h : CP σ w b val L s) (ht : t = b + k) (hx : x = val k) : CP σ w b val (k :: L) (va_up s w (va_up (s w) t x)) := by
  subst ht
  refine ⟨fun r t hrt => ?_, fun q hq => ?_⟩
  · by_cases hr : r = w
    · subst hr
      have h1 : ∀ q ∈ k :: L, t ≠ b + q := hrt.resolve_left (fun z => z rfl)
      rw [va_up_self, va_up_ne _ _ (h1 k List.mem_cons_self)]
      exact h.1 r t (Or.inr (fun q hq => h1 q (List.mem_cons_of_mem _ hq)))
    · rw [va_up_ne _ _ hr]
      exact h.1 r t (Or.inl hr)
  · rw [va_up_self]
    by_cases e : q = k
    · subst e
      rw [va_up_self, hx]
    · rw [va_up_ne _ _ (by omega)]
      rcases List.mem_cons.mp hq with e2 | e2
      · exact absurd e2 e
      · exact h.2 q e2
theorem CP_src {σ s : Nat → Nat → Int32} {w v i j k : Nat} {val : Nat → Int32} {L : List Nat} (h : CP σ w (336+24*i) val L s) (hL : ∀ q ∈ L, q < 24) (hk : k < 24) (hne : ¬ (w = v ∧ i = j)) : s v (336+24*j+k) = σ v (336+24*j+k) := by
  refine h.1 v _ ?_
  by_cases hv : v = w
  · refine Or.inr (fun q hq => ?_)
    have h1 := hL q hq
    have h2 : ¬ i = j := fun z => hne ⟨hv.symm, z⟩
    omega
  · exact Or.inl hv
theorem CP_srcP {σ s : Nat → Nat → Int32} {w v i j k : Nat} {val : Nat → Int32} {L : List Nat} (h : CP σ w (432+8*i) val L s) (hL : ∀ q ∈ L, q < 8) (hk : k < 8) (hne : ¬ (w = v ∧ i = j)) : s v (432+8*j+k) = σ v (432+8*j+k) := by
  refine h.1 v _ ?_
  by_cases hv : v = w
  · refine Or.inr (fun q hq => ?_)
    have h1 := hL q hq
    have h2 : ¬ i = j := fun z => hne ⟨hv.symm, z⟩
    omega
  · exact Or.inl hv
def bval (σ : Nat → Nat → Int32) (v j k : Nat) : Int32 := if k = 11 then nb (σ v (336+24*j+11)) else σ v (336+24*j+k)
theorem ch_copyB {σ : Nat → Nat → Int32} {w i v j : Nat} (hne : ¬ (w = v ∧ i = j)) : ∃ s, f0_copyFrom σ w i v j = va_up s w (cpw (s v) (336+24*i+14) (336+24*j+14) 7 (s w)) ∧ CP σ w (336+24*i) (bval σ v j) [21, 11, 10, 9, 6, 5, 4, 3, 2, 13, 12, 8, 7, 1, 0] s := by
  unfold f0_copyFrom
  refine bnd_p (P := fun (z : Nat → Nat → Int32) => ∃ s, z = va_up s w (cpw (s v) (336+24*i+14) (336+24*j+14) 7 (s w)) ∧ CP σ w (336+24*i) (bval σ v j) [21, 11, 10, 9, 6, 5, 4, 3, 2, 13, 12, 8, 7, 1, 0] s) (fun (s : Nat → Nat → Int32) => CP σ w (336+24*i) (bval σ v j) [0] s) (CP_up CP_nil rfl rfl) (fun s h => ?_)
  refine bnd_p (P := fun (z : Nat → Nat → Int32) => ∃ s, z = va_up s w (cpw (s v) (336+24*i+14) (336+24*j+14) 7 (s w)) ∧ CP σ w (336+24*i) (bval σ v j) [21, 11, 10, 9, 6, 5, 4, 3, 2, 13, 12, 8, 7, 1, 0] s) (fun (s : Nat → Nat → Int32) => CP σ w (336+24*i) (bval σ v j) [1, 0] s) (CP_up h rfl (CP_src h (by decide) (by decide) hne)) (fun s h => ?_)
  refine bnd_p (P := fun (z : Nat → Nat → Int32) => ∃ s, z = va_up s w (cpw (s v) (336+24*i+14) (336+24*j+14) 7 (s w)) ∧ CP σ w (336+24*i) (bval σ v j) [21, 11, 10, 9, 6, 5, 4, 3, 2, 13, 12, 8, 7, 1, 0] s) (fun (s : Nat → Nat → Int32) => CP σ w (336+24*i) (bval σ v j) [7, 1, 0] s) (CP_up h rfl (CP_src h (by decide) (by decide) hne)) (fun s h => ?_)
  refine bnd_p (P := fun (z : Nat → Nat → Int32) => ∃ s, z = va_up s w (cpw (s v) (336+24*i+14) (336+24*j+14) 7 (s w)) ∧ CP σ w (336+24*i) (bval σ v j) [21, 11, 10, 9, 6, 5, 4, 3, 2, 13, 12, 8, 7, 1, 0] s) (fun (s : Nat → Nat → Int32) => CP σ w (336+24*i) (bval σ v j) [8, 7, 1, 0] s) (CP_up h rfl (CP_src h (by decide) (by decide) hne)) (fun s h => ?_)
  refine bnd_p (P := fun (z : Nat → Nat → Int32) => ∃ s, z = va_up s w (cpw (s v) (336+24*i+14) (336+24*j+14) 7 (s w)) ∧ CP σ w (336+24*i) (bval σ v j) [21, 11, 10, 9, 6, 5, 4, 3, 2, 13, 12, 8, 7, 1, 0] s) (fun (s : Nat → Nat → Int32) => CP σ w (336+24*i) (bval σ v j) [12, 8, 7, 1, 0] s) (CP_up h rfl (CP_src h (by decide) (by decide) hne)) (fun s h => ?_)
  refine bnd_p (P := fun (z : Nat → Nat → Int32) => ∃ s, z = va_up s w (cpw (s v) (336+24*i+14) (336+24*j+14) 7 (s w)) ∧ CP σ w (336+24*i) (bval σ v j) [21, 11, 10, 9, 6, 5, 4, 3, 2, 13, 12, 8, 7, 1, 0] s) (fun (s : Nat → Nat → Int32) => CP σ w (336+24*i) (bval σ v j) [13, 12, 8, 7, 1, 0] s) (CP_up h rfl (CP_src h (by decide) (by decide) hne)) (fun s h => ?_)
  refine bnd_p (P := fun (z : Nat → Nat → Int32) => ∃ s, z = va_up s w (cpw (s v) (336+24*i+14) (336+24*j+14) 7 (s w)) ∧ CP σ w (336+24*i) (bval σ v j) [21, 11, 10, 9, 6, 5, 4, 3, 2, 13, 12, 8, 7, 1, 0] s) (fun (s : Nat → Nat → Int32) => CP σ w (336+24*i) (bval σ v j) [2, 13, 12, 8, 7, 1, 0] s) (CP_up h rfl (CP_src h (by decide) (by decide) hne)) (fun s h => ?_)
  refine bnd_p (P := fun (z : Nat → Nat → Int32) => ∃ s, z = va_up s w (cpw (s v) (336+24*i+14) (336+24*j+14) 7 (s w)) ∧ CP σ w (336+24*i) (bval σ v j) [21, 11, 10, 9, 6, 5, 4, 3, 2, 13, 12, 8, 7, 1, 0] s) (fun (s : Nat → Nat → Int32) => CP σ w (336+24*i) (bval σ v j) [3, 2, 13, 12, 8, 7, 1, 0] s) (CP_up h rfl (CP_src h (by decide) (by decide) hne)) (fun s h => ?_)
  refine bnd_p (P := fun (z : Nat → Nat → Int32) => ∃ s, z = va_up s w (cpw (s v) (336+24*i+14) (336+24*j+14) 7 (s w)) ∧ CP σ w (336+24*i) (bval σ v j) [21, 11, 10, 9, 6, 5, 4, 3, 2, 13, 12, 8, 7, 1, 0] s) (fun (s : Nat → Nat → Int32) => CP σ w (336+24*i) (bval σ v j) [4, 3, 2, 13, 12, 8, 7, 1, 0] s) (CP_up h rfl (CP_src h (by decide) (by decide) hne)) (fun s h => ?_)
  refine bnd_p (P := fun (z : Nat → Nat → Int32) => ∃ s, z = va_up s w (cpw (s v) (336+24*i+14) (336+24*j+14) 7 (s w)) ∧ CP σ w (336+24*i) (bval σ v j) [21, 11, 10, 9, 6, 5, 4, 3, 2, 13, 12, 8, 7, 1, 0] s) (fun (s : Nat → Nat → Int32) => CP σ w (336+24*i) (bval σ v j) [5, 4, 3, 2, 13, 12, 8, 7, 1, 0] s) (CP_up h rfl (CP_src h (by decide) (by decide) hne)) (fun s h => ?_)
  refine bnd_p (P := fun (z : Nat → Nat → Int32) => ∃ s, z = va_up s w (cpw (s v) (336+24*i+14) (336+24*j+14) 7 (s w)) ∧ CP σ w (336+24*i) (bval σ v j) [21, 11, 10, 9, 6, 5, 4, 3, 2, 13, 12, 8, 7, 1, 0] s) (fun (s : Nat → Nat → Int32) => CP σ w (336+24*i) (bval σ v j) [6, 5, 4, 3, 2, 13, 12, 8, 7, 1, 0] s) (CP_up h rfl (CP_src h (by decide) (by decide) hne)) (fun s h => ?_)
  refine bnd_p (P := fun (z : Nat → Nat → Int32) => ∃ s, z = va_up s w (cpw (s v) (336+24*i+14) (336+24*j+14) 7 (s w)) ∧ CP σ w (336+24*i) (bval σ v j) [21, 11, 10, 9, 6, 5, 4, 3, 2, 13, 12, 8, 7, 1, 0] s) (fun (s : Nat → Nat → Int32) => CP σ w (336+24*i) (bval σ v j) [9, 6, 5, 4, 3, 2, 13, 12, 8, 7, 1, 0] s) (CP_up h rfl (CP_src h (by decide) (by decide) hne)) (fun s h => ?_)
  refine bnd_p (P := fun (z : Nat → Nat → Int32) => ∃ s, z = va_up s w (cpw (s v) (336+24*i+14) (336+24*j+14) 7 (s w)) ∧ CP σ w (336+24*i) (bval σ v j) [21, 11, 10, 9, 6, 5, 4, 3, 2, 13, 12, 8, 7, 1, 0] s) (fun (s : Nat → Nat → Int32) => CP σ w (336+24*i) (bval σ v j) [10, 9, 6, 5, 4, 3, 2, 13, 12, 8, 7, 1, 0] s) (CP_up h rfl (CP_src h (by decide) (by decide) hne)) (fun s h => ?_)
  refine bnd_p (P := fun (z : Nat → Nat → Int32) => ∃ s, z = va_up s w (cpw (s v) (336+24*i+14) (336+24*j+14) 7 (s w)) ∧ CP σ w (336+24*i) (bval σ v j) [21, 11, 10, 9, 6, 5, 4, 3, 2, 13, 12, 8, 7, 1, 0] s) (fun (s : Nat → Nat → Int32) => CP σ w (336+24*i) (bval σ v j) [11, 10, 9, 6, 5, 4, 3, 2, 13, 12, 8, 7, 1, 0] s) (CP_up h rfl (congrArg nb (CP_src h (by decide) (by decide) hne))) (fun s h => ?_)
  refine bnd_p (P := fun (z : Nat → Nat → Int32) => ∃ s, z = va_up s w (cpw (s v) (336+24*i+14) (336+24*j+14) 7 (s w)) ∧ CP σ w (336+24*i) (bval σ v j) [21, 11, 10, 9, 6, 5, 4, 3, 2, 13, 12, 8, 7, 1, 0] s) (fun (s : Nat → Nat → Int32) => CP σ w (336+24*i) (bval σ v j) [21, 11, 10, 9, 6, 5, 4, 3, 2, 13, 12, 8, 7, 1, 0] s) (CP_up h rfl (CP_src h (by decide) (by decide) hne)) (fun s h => ?_)
  exact ⟨s, rfl, h⟩
theorem copyB_fr {σ : Nat → Nat → Int32} {w i v j r t : Nat} (hne : ¬ (w = v ∧ i = j)) (h : ¬ r = w ∨ t < 336+24*i ∨ 336+24*i+22 ≤ t) : f0_copyFrom σ w i v j r t = σ r t := by
  obtain ⟨s, e, hs⟩ := ch_copyB (σ := σ) hne
  rw [e]
  by_cases hr : r = w
  · subst hr
    have h1 := h.resolve_left (fun z => z rfl)
    rw [va_up_self, cpw_out (by omega)]
    refine hs.1 r t (Or.inr (fun q hq => ?_))
    have h2 : q < 22 := (by decide : ∀ q ∈ [21, 11, 10, 9, 6, 5, 4, 3, 2, 13, 12, 8, 7, 1, 0], q < 22) q hq
    omega
  · rw [va_up_ne _ _ hr]
    exact hs.1 r t (Or.inl hr)
theorem copyB_in {σ : Nat → Nat → Int32} {w i v j k : Nat} (hne : ¬ (w = v ∧ i = j)) (hk : k < 22) : f0_copyFrom σ w i v j w (336+24*i+k) = bval σ v j k := by
  obtain ⟨s, e, hs⟩ := ch_copyB (σ := σ) hne
  rw [e, va_up_self]
  by_cases h1 : 14 ≤ k ∧ k < 21
  · obtain ⟨q, rfl⟩ : ∃ q, k = 14 + q := ⟨k - 14, by omega⟩
    rw [show 336+24*i+(14+q) = 336+24*i+14+q by omega, cpw_in (by omega), show 336+24*j+14+q = 336+24*j+(14+q) by omega, CP_src hs (by decide) (by omega) hne]
    unfold bval
    rw [if_neg (by omega)]
  · rw [cpw_out (by omega)]
    exact hs.2 k ((by decide : ∀ q, q < 22 → ¬ (14 ≤ q ∧ q < 21) → q ∈ [21, 11, 10, 9, 6, 5, 4, 3, 2, 13, 12, 8, 7, 1, 0]) k hk h1)
set_option maxHeartbeats 400000 in
theorem copyP_fr {σ : Nat → Nat → Int32} {w i v j r t : Nat} (h : ¬ r = w ∨ t < 432+8*i ∨ 432+8*i+7 ≤ t) : f2_copyFrom σ w i v j r t = σ r t := by
  unfold f2_copyFrom f2_begin
  simp only [bnd_e]
  by_cases hr : r = w
  · subst hr
    have h1 := h.resolve_left (fun z => z rfl)
    rw [va_up_self, va_up_ne _ _ (by omega), va_up_self, va_up_ne _ _ (by omega), va_up_ne _ _ (by omega), va_up_ne _ _ (by omega), va_up_ne _ _ (by omega), va_up_ne _ _ (by omega), va_up_ne _ _ (by omega), va_up_ne _ _ (by omega)]
  · rw [va_up_ne _ _ hr, va_up_ne _ _ hr]
theorem copyP_in {σ : Nat → Nat → Int32} {w i v j k : Nat} (hne : ¬ (w = v ∧ i = j)) (hk : k < 7) : f2_copyFrom σ w i v j w (432+8*i+k) = σ v (432+8*j+k) := by
  unfold f2_copyFrom f2_begin
  simp only [bnd_e]
  rw [va_up_self]
  rcases (show k = 0 ∨ k = 1 ∨ k = 2 ∨ k = 3 ∨ k = 4 ∨ k = 5 ∨ k = 6 by omega) with rfl | rfl | rfl | rfl | rfl | rfl | rfl
  · repeat first | rw [va_up_self] | rw [va_up_ne _ _ (by omega)]
  · repeat first | rw [va_up_self] | rw [va_up_ne _ _ (by omega)]
  · repeat first | rw [va_up_self] | rw [va_up_ne _ _ (by omega)]
  · repeat first | rw [va_up_self] | rw [va_up_ne _ _ (by omega)]
  · repeat first | rw [va_up_self] | rw [va_up_ne _ _ (by omega)]
  · rw [va_up_self]
    by_cases hv : v = w
    · subst hv
      have h2 : ¬ i = j := fun z => hne ⟨rfl, z⟩
      rw [va_up_self, va_up_ne _ _ (by omega), va_up_ne _ _ (by omega), va_up_ne _ _ (by omega), va_up_ne _ _ (by omega), va_up_ne _ _ (by omega), va_up_ne _ _ (by omega), va_up_ne _ _ (by omega)]
    · rw [va_up_ne _ _ hv]
  · repeat first | rw [va_up_self] | rw [va_up_ne _ _ (by omega)]
