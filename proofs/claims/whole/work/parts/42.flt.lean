/-! FLOATS: a quotient of two whole numbers, the divisor not zero, is no NaN; nor is it as a double -/
theorem fl_enc32 {d : FP.Core.Datum} (hn : d ≠ .nan) (h : ∀ s c q, d = .fin s c q → c < 16777216 ∧ -149 ≤ q ∧ q ≤ 104) : FP.Core.encode FP.Core.b32 d % 2147483648 ≤ 2139095040 ∧ FP.Core.encode FP.Core.b32 d < 4294967296 := by
  cases d with
  | nan => exact absurd rfl hn
  | inf s =>
    have e : FP.Core.encode FP.Core.b32 (.inf s) = (s.toNat * 256 + 255) * 8388608 + 0 := rfl
    have hs : s.toNat ≤ 1 := by cases s <;> decide
    rw [e]; omega
  | fin s c q =>
    obtain ⟨h1, h2, h3⟩ := h s c q rfl
    have hs : s.toNat ≤ 1 := by cases s <;> decide
    have e : FP.Core.encode FP.Core.b32 (.fin s c q) = if c < 8388608 then (s.toNat * 256 + 0) * 8388608 + c else (s.toNat * 256 + ((q - (-149)).toNat + 1)) * 8388608 + (c - 8388608) := rfl
    rw [e]
    have hq : (q - (-149)).toNat ≤ 253 := by omega
    generalize (q - (-149)).toNat = z at hq
    by_cases d : c < 8388608
    · rw [if_pos d]; omega
    · rw [if_neg d]; omega
theorem fl_enc64 {d : FP.Core.Datum} (hn : d ≠ .nan) (h : ∀ s c q, d = .fin s c q → c < 9007199254740992 ∧ -1074 ≤ q ∧ q ≤ 971) : FP.Core.encode FP.Core.b64 d % 9223372036854775808 ≤ 9218868437227405312 ∧ FP.Core.encode FP.Core.b64 d < 18446744073709551616 := by
  cases d with
  | nan => exact absurd rfl hn
  | inf s =>
    have e : FP.Core.encode FP.Core.b64 (.inf s) = (s.toNat * 2048 + 2047) * 4503599627370496 + 0 := rfl
    have hs : s.toNat ≤ 1 := by cases s <;> decide
    rw [e]; omega
  | fin s c q =>
    obtain ⟨h1, h2, h3⟩ := h s c q rfl
    have hs : s.toNat ≤ 1 := by cases s <;> decide
    have e : FP.Core.encode FP.Core.b64 (.fin s c q) = if c < 4503599627370496 then (s.toNat * 2048 + 0) * 4503599627370496 + c else (s.toNat * 2048 + ((q - (-1074)).toNat + 1)) * 4503599627370496 + (c - 4503599627370496) := rfl
    rw [e]
    have hq : (q - (-1074)).toNat ≤ 2045 := by omega
    generalize (q - (-1074)).toNat = z at hq
    by_cases d : c < 4503599627370496
    · rw [if_pos d]; omega
    · rw [if_neg d]; omega
theorem fl_rr {f : FP.Core.Fmt} {s : Bool} {num den : Nat} {e : Int} (hp : f.tails < 2 ^ f.p) (hq : f.qmin ≤ f.qmax) : FP.Core.roundRatio f s num den e ≠ .nan ∧ ∀ s' c q, FP.Core.roundRatio f s num den e = .fin s' c q → c < 2 ^ f.p ∧ f.qmin ≤ q ∧ q ≤ f.qmax := by
  have key : ∀ (c0 : Nat) (q0 : Int), c0 < 2 ^ f.p → f.qmin ≤ q0 → (FP.Core.bound f s c0 q0 ≠ .nan ∧ ∀ s' c q, FP.Core.bound f s c0 q0 = .fin s' c q → c < 2 ^ f.p ∧ f.qmin ≤ q ∧ q ≤ f.qmax) := by
    intro c0 q0 h1 h2
    unfold FP.Core.bound
    by_cases d : q0 ≤ f.qmax
    · rw [if_pos d]; exact ⟨(fun h => by cases h), (fun s' c q h => by cases h; exact ⟨h1, h2, d⟩)⟩
    · rw [if_neg d]; exact ⟨(fun h => by cases h), (fun s' c q h => by cases h)⟩
  unfold FP.Core.roundRatio
  by_cases d : num = 0
  · rw [if_pos d]; exact ⟨(fun h => by cases h), (fun s' c q h => by cases h; exact ⟨Nat.two_pow_pos _, Int.le_refl _, hq⟩)⟩
  · rw [if_neg d]
    have hqq : f.qmin ≤ FP.Core.quantum f num den e := by unfold FP.Core.quantum; omega
    unfold FP.Core.roundAt FP.Core.settle
    generalize FP.Core.nearest (FP.Core.unitsNum num e (FP.Core.quantum f num den e)) (FP.Core.unitsDen den e (FP.Core.quantum f num den e)) = c0
    generalize FP.Core.quantum f num den e = q0 at hqq
    by_cases d2 : c0 < 2 ^ f.p
    · rw [if_pos d2]; exact key c0 q0 d2 hqq
    · rw [if_neg d2]; exact key f.tails (q0+1) hp (by omega)
theorem fl_dec32 {n : Nat} (h : n % 2147483648 < 2139095040) : ∃ s c q, FP.Core.decode FP.Core.b32 n = .fin s c q ∧ (¬ n % 2147483648 = 0 → ¬ c = 0) := by
  have e : FP.Core.decode FP.Core.b32 n = if n / 8388608 % 256 = 255 then (if n % 8388608 = 0 then .inf (FP.Core.fieldS FP.Core.b32 n) else .nan) else if n / 8388608 % 256 = 0 then .fin (FP.Core.fieldS FP.Core.b32 n) (n % 8388608) (-149) else .fin (FP.Core.fieldS FP.Core.b32 n) (8388608 + n % 8388608) (-149 + (((n / 8388608 % 256 : Nat) : Int) - 1)) := rfl
  rw [e, if_neg (by omega)]
  by_cases d : n / 8388608 % 256 = 0
  · rw [if_pos d]; exact ⟨_, _, _, rfl, fun h2 => by omega⟩
  · rw [if_neg d]; exact ⟨_, _, _, rfl, fun h2 => by omega⟩
theorem fl_nn32 {n : Nat} (h : n % 2147483648 ≤ 2139095040) : FP.Core.decode FP.Core.b32 n ≠ .nan := by
  have e : FP.Core.decode FP.Core.b32 n = if n / 8388608 % 256 = 255 then (if n % 8388608 = 0 then .inf (FP.Core.fieldS FP.Core.b32 n) else .nan) else if n / 8388608 % 256 = 0 then .fin (FP.Core.fieldS FP.Core.b32 n) (n % 8388608) (-149) else .fin (FP.Core.fieldS FP.Core.b32 n) (8388608 + n % 8388608) (-149 + (((n / 8388608 % 256 : Nat) : Int) - 1)) := rfl
  rw [e]
  by_cases d : n / 8388608 % 256 = 255
  · rw [if_pos d, if_pos (by omega)]; intro h2; cases h2
  · rw [if_neg d]
    by_cases d2 : n / 8388608 % 256 = 0
    · rw [if_pos d2]; intro h2; cases h2
    · rw [if_neg d2]; intro h2; cases h2
theorem fl_nn64 {n : Nat} (h : n % 9223372036854775808 ≤ 9218868437227405312) : FP.Core.decode FP.Core.b64 n ≠ .nan := by
  have e : FP.Core.decode FP.Core.b64 n = if n / 4503599627370496 % 2048 = 2047 then (if n % 4503599627370496 = 0 then .inf (FP.Core.fieldS FP.Core.b64 n) else .nan) else if n / 4503599627370496 % 2048 = 0 then .fin (FP.Core.fieldS FP.Core.b64 n) (n % 4503599627370496) (-1074) else .fin (FP.Core.fieldS FP.Core.b64 n) (4503599627370496 + n % 4503599627370496) (-1074 + (((n / 4503599627370496 % 2048 : Nat) : Int) - 1)) := rfl
  rw [e]
  by_cases d : n / 4503599627370496 % 2048 = 2047
  · rw [if_pos d, if_pos (by omega)]; intro h2; cases h2
  · rw [if_neg d]
    by_cases d2 : n / 4503599627370496 % 2048 = 0
    · rw [if_pos d2]; intro h2; cases h2
    · rw [if_neg d2]; intro h2; cases h2
theorem fl_enc1 {s : Bool} {c : Nat} {q : Int} (h0 : 1 ≤ c) (h1 : c < 16777216) (h2 : -149 ≤ q) (h3 : q ≤ 103) : FP.Core.encode FP.Core.b32 (.fin s c q) % 2147483648 < 2139095040 ∧ ¬ FP.Core.encode FP.Core.b32 (.fin s c q) % 2147483648 = 0 ∧ FP.Core.encode FP.Core.b32 (.fin s c q) < 4294967296 := by
  have hs : s.toNat ≤ 1 := by cases s <;> decide
  have e : FP.Core.encode FP.Core.b32 (.fin s c q) = if c < 8388608 then (s.toNat * 256 + 0) * 8388608 + c else (s.toNat * 256 + ((q - (-149)).toNat + 1)) * 8388608 + (c - 8388608) := rfl
  rw [e]
  have hq : (q - (-149)).toNat ≤ 252 := by omega
  generalize (q - (-149)).toNat = z at hq
  by_cases d : c < 8388608
  · rw [if_pos d]; omega
  · rw [if_neg d]; omega
theorem fl_near {a b : Nat} (hb : 0 < b) (h : b ≤ a) : 1 ≤ FP.Core.nearest a b := by
  have h1 : 1 ≤ a / b := Nat.div_pos h hb
  unfold FP.Core.nearest
  split
  · exact h1
  · split
    · omega
    · omega
theorem fl_lead {n : Nat} : FP.Core.leading n 1 ≤ (n.log2 : Int) := by
  unfold FP.Core.leading
  have h2 : (n.log2 : Int) - (Nat.log2 1 : Int) ≤ (n.log2 : Int) := Int.sub_le_self _ (Int.natCast_nonneg _)
  show (if _ then ((n.log2 : Int) - (Nat.log2 1 : Int)) else ((n.log2 : Int) - (Nat.log2 1 : Int)) - 1) ≤ (n.log2 : Int)
  split
  · exact h2
  · exact Int.le_trans (Int.sub_le_self _ (by decide)) h2
theorem fl_whole {s : Bool} {n : Nat} (h0 : 1 ≤ n) (h1 : n ≤ 2147483648) : ∃ c q, FP.Core.roundRatio FP.Core.b32 s n 1 0 = .fin s c q ∧ 1 ≤ c ∧ c < 16777216 ∧ -149 ≤ q ∧ q ≤ 103 := by
  have hn0 : n ≠ 0 := by omega
  have hlog : n.log2 < 32 := (Nat.log2_lt hn0).mpr (by omega)
  have hself : 2 ^ n.log2 ≤ n := Nat.log2_self_le hn0
  have hlead := fl_lead (n := n)
  have eq : FP.Core.quantum FP.Core.b32 n 1 0 = max (-149) (FP.Core.leading n 1 + 0 - 23) := rfl
  have hq1 : -149 ≤ FP.Core.quantum FP.Core.b32 n 1 0 := by rw [eq]; omega
  have hq2 : FP.Core.quantum FP.Core.b32 n 1 0 ≤ 8 := by rw [eq]; omega
  have hq3 : 0 < FP.Core.quantum FP.Core.b32 n 1 0 → (FP.Core.quantum FP.Core.b32 n 1 0).toNat ≤ n.log2 := by rw [eq]; omega
  unfold FP.Core.roundRatio
  rw [if_neg hn0]
  unfold FP.Core.roundAt FP.Core.settle
  generalize FP.Core.quantum FP.Core.b32 n 1 0 = q0 at hq1 hq2 hq3
  have hc : 1 ≤ FP.Core.nearest (FP.Core.unitsNum n 0 q0) (FP.Core.unitsDen 1 0 q0) := by
    unfold FP.Core.unitsNum FP.Core.unitsDen
    by_cases d : 0 < q0
    · have e1 : (0 - q0).toNat = 0 := by omega
      have e2 : (q0 - 0).toNat = q0.toNat := by rw [Int.sub_zero]
      rw [e1, e2, Nat.pow_zero, Nat.mul_one, Nat.one_mul]
      exact fl_near (Nat.two_pow_pos _) (Nat.le_trans (Nat.pow_le_pow_right (by decide) (hq3 d)) hself)
    · have e2 : (q0 - 0).toNat = 0 := by omega
      rw [e2, Nat.pow_zero, Nat.one_mul]
      exact fl_near (by decide) (Nat.le_trans h0 (Nat.le_mul_of_pos_right n (Nat.two_pow_pos _)))
  generalize FP.Core.nearest (FP.Core.unitsNum n 0 q0) (FP.Core.unitsDen 1 0 q0) = c0 at hc
  have e24 : 2 ^ FP.Core.b32.p = 16777216 := rfl
  have et : FP.Core.Fmt.tails FP.Core.b32 = 8388608 := rfl
  have em : FP.Core.Fmt.qmax FP.Core.b32 = 104 := rfl
  unfold FP.Core.bound
  rw [e24, et, em]
  by_cases d : c0 < 16777216
  · rw [if_pos d, if_pos (by omega)]; exact ⟨c0, q0, rfl, hc, d, hq1, by omega⟩
  · rw [if_neg d, if_pos (by omega)]; exact ⟨8388608, q0+1, rfl, by decide, by decide, by omega, by omega⟩
theorem fl_i2f (v : Int32) : (FP.i2f v).toNat % 2147483648 < 2139095040 ∧ (¬ v = 0 → ¬ (FP.i2f v).toNat % 2147483648 = 0) := by
  have h1 := v.le_toInt
  have h2 := v.toInt_lt
  have e : FP.i2f v = UInt32.ofNat (FP.Core.encode FP.Core.b32 (FP.Core.roundRatio FP.Core.b32 (decide (v.toInt < 0)) v.toInt.natAbs 1 0)) := rfl
  rw [e]
  by_cases d : v.toInt.natAbs = 0
  · have hv : v.toInt = 0 := by omega
    have hz : v = 0 := ti_inj hv
    rw [hz]
    refine ⟨by decide, fun h => absurd rfl h⟩
  · obtain ⟨c, q, g1, g2, g3, g4, g5⟩ := fl_whole (s := decide (v.toInt < 0)) (n := v.toInt.natAbs) (by omega) (by omega)
    rw [g1]
    obtain ⟨k1, k2, k3⟩ := fl_enc1 (s := decide (v.toInt < 0)) g2 g3 g4 g5
    rw [UInt32.toNat_ofNat_of_lt' k3]
    exact ⟨k1, fun _ => k2⟩
theorem fl_vn32 {r : UInt32} (h : r.toNat % 2147483648 ≤ 2139095040) : vf_n32 r := by
  unfold vf_n32
  rw [UInt32.le_iff_toNat_le, UInt32.toNat_and]
  have e : (0x7fffffff : UInt32).toNat = 2 ^ 31 - 1 := by decide
  have e2 : (0x7f800000 : UInt32).toNat = 2139095040 := by decide
  rw [e, e2, Nat.and_two_pow_sub_one_eq_mod]
  exact h
theorem fl_vn64 {r : UInt64} (h : r.toNat % 9223372036854775808 ≤ 9218868437227405312) : vf_n64 r := by
  unfold vf_n64
  rw [UInt64.le_iff_toNat_le, UInt64.toNat_and]
  have e : (0x7fffffffffffffff : UInt64).toNat = 2 ^ 63 - 1 := by decide
  have e2 : (0x7ff0000000000000 : UInt64).toNat = 9218868437227405312 := by decide
  rw [e, e2, Nat.and_two_pow_sub_one_eq_mod]
  exact h
/-- the quotient of two whole numbers -/
theorem fl_div {x y : Int32} (hy : ¬ y = 0) : (FP.fdiv (FP.i2f x) (FP.i2f y)).toNat % 2147483648 ≤ 2139095040 := by
  obtain ⟨a1, -⟩ := fl_i2f x
  obtain ⟨b1, b2⟩ := fl_i2f y
  obtain ⟨s1, c1, q1, d1, -⟩ := fl_dec32 a1
  obtain ⟨s2, c2, q2, d2, d3⟩ := fl_dec32 b1
  have hc2 : ¬ c2 = 0 := d3 (b2 hy)
  have e : FP.fdiv (FP.i2f x) (FP.i2f y) = UInt32.ofNat (FP.Core.encode FP.Core.b32 (FP.Core.quotient FP.Core.b32 (FP.Core.decode FP.Core.b32 (FP.i2f x).toNat) (FP.Core.decode FP.Core.b32 (FP.i2f y).toNat))) := rfl
  rw [e, d1, d2]
  have e2 : FP.Core.quotient FP.Core.b32 (.fin s1 c1 q1) (.fin s2 c2 q2) = if c2 = 0 then (if c1 = 0 then .nan else .inf (s1 != s2)) else FP.Core.roundRatio FP.Core.b32 (s1 != s2) c1 c2 (q1 - q2) := rfl
  rw [e2, if_neg hc2]
  obtain ⟨k1, k2⟩ := fl_rr (f := FP.Core.b32) (s := (s1 != s2)) (num := c1) (den := c2) (e := q1 - q2) (by decide) (by decide)
  obtain ⟨g1, g2⟩ := fl_enc32 k1 k2
  rw [UInt32.toNat_ofNat_of_lt' g2]
  exact g1
theorem fl_f2d {r : UInt32} (h : r.toNat % 2147483648 ≤ 2139095040) : (FP.f2d r).toNat % 9223372036854775808 ≤ 9218868437227405312 := by
  have hd := fl_nn32 h
  have e : FP.f2d r = if decide (FP.Core.decode FP.Core.b32 r.toNat = .nan) = true then FP.nanF2D r else UInt64.ofNat (FP.Core.encode FP.Core.b64 (FP.Core.round FP.Core.b64 (FP.Core.decode FP.Core.b32 r.toNat))) := rfl
  rw [e, if_neg (fun z => hd (of_decide_eq_true z))]
  generalize FP.Core.decode FP.Core.b32 r.toNat = d at hd
  have key : FP.Core.round FP.Core.b64 d ≠ .nan ∧ ∀ s' c q, FP.Core.round FP.Core.b64 d = .fin s' c q → c < 9007199254740992 ∧ -1074 ≤ q ∧ q ≤ 971 := by
    cases d with
    | nan => exact absurd rfl hd
    | inf s => exact ⟨(fun h => by cases h), (fun s' c q h => by cases h)⟩
    | fin s c q => exact fl_rr (f := FP.Core.b64) (s := s) (num := c) (den := 1) (e := q) (by decide) (by decide)
  obtain ⟨g1, g2⟩ := fl_enc64 key.1 key.2
  rw [UInt64.toNat_ofNat_of_lt' g2]
  exact g1
theorem fl_dcmp {r : UInt64} (h : r.toNat % 9223372036854775808 ≤ 9218868437227405312) : FP.dcmp r r = some .eq := by
  have hd := fl_nn64 h
  have e : FP.dcmp r r = FP.Core.order (FP.Core.decode FP.Core.b64 r.toNat) (FP.Core.decode FP.Core.b64 r.toNat) := rfl
  rw [e]
  generalize FP.Core.decode FP.Core.b64 r.toNat = d at hd
  have hc : ∀ a : Int, compare a a = .eq := fun a => by simp [compare, compareOfLessAndEq]
  cases d with
  | nan => exact absurd rfl hd
  | inf s => exact congrArg some (hc _)
  | fin s c q => exact congrArg some (hc _)
