/-! PURE: meanMoves -/
section
variable {sz M0 : Nat → Int32} {N Q c : Nat} {k K L : Int} {u w m u2 w2 m2 : Nat → Int32} {i j p : Nat} {σ σ2 : Nat → Nat → Int32}
theorem bndxF_l {r : Int32} {s : Nat → Nat → Int32} {f : Int32 → (Nat → Nat → Int32) → RTF} : bndxF (.inl r, s) f = f r s := (Eq.refl (f r s)).trans (Eq.refl (f r s))
theorem bndxF_r {E : String} {s : Nat → Nat → Int32} {f : Int32 → (Nat → Nat → Int32) → RTF} : bndxF (.inr E, s) f = (.inr E, s) := (Eq.refl ((.inr E, s) : RTF)).trans (Eq.refl ((.inr E, s) : RTF))
def PMf (cd : String → Int32 → Prop) (K : Int) (σ : Nat → Nat → Int32) (z : RTF) (r : UInt32 × (Nat → Int32)) : Prop := (match z.1 with | .inl a => r.2 490 = 0 ∧ a = r.1 ∧ a.toNat % 2147483648 ≤ 2139095040 | .inr E => cd E (r.2 490)) ∧ Top K z.2 r.2 ∧ z.2 16 = σ 16
theorem PMf.fl {cd : String → Int32 → Prop} {v : UInt32} {n : Int32} {E : String} (h : Top K σ m) (hc : cd E n) : PMf cd K σ (.inr E, σ) (v, va_up m 490 n) := ⟨by show cd E (va_up m 490 n 490); rw [va_up_self]; exact hc, h.m490, rfl⟩
theorem t_meanMoves {a : Int32} (h : Top K σ m) : PMf (cd2 xOB xAR) K σ (f6_meanMoves σ a) (f7_meanMoves m a) := by
  unfold f6_meanMoves f7_meanMoves
  simp only [bnd_e, fails_e]
  rcases rqB (a := a) h with ⟨e1, e2⟩ | ⟨N, Q, i, hr, hi, rfl, e1, e2⟩
  · rw [e1, bndxF_r, e2, if_pos rfl, bnd2_mk (0 : Int32)]; exact PMf.fl h (Or.inl ⟨rfl, rfl⟩)
  · have h4 := hr.i4 hi
    rw [e1, bndxF_l, e2, if_neg n10, nI_clamp (by omega), o_21 h4, o_21 h4, o_18 h4, hr.B hi 21 (by decide), hr.B hi 18 (by decide), va_up_ne (k := 490) (j := 336+24*i+21) _ _ (by omega), va_up_ne (k := 490) (j := 336+24*i+18) _ _ (by omega)]
    by_cases c1 : m (336+24*i+21) = 0
    · rw [if_pos c1, if_pos c1, bnd2_mk (0 : Int32)]; exact PMf.fl h (Or.inr ⟨rfl, rfl⟩)
    · rw [if_neg c1, if_neg c1]
      exact ⟨⟨va_up_self m 490 0, rfl, fl_div c1⟩, h.m490, rfl⟩
end
