/-! COPIES of whole arrays between rows -/
theorem pool_setwG {G : CY} {ad : Nat → Nat} {σ : Nat → Nat → Int32} {w j : Nat} {u' : Nat → Int32} {e : va_E} (hw : w < 15) (hj : j < 18) (ho : ∀ t, own t ≠ j → u' t = σ w t) (he : wcel G ad (18*w) u' j = e) : (pool G ad σ).set (18*w+j) (ad (18*w+j), e) = pool G ad (va_up σ w u') := by
  refine pool_set (by omega) (by rw [cel_f hw hj, he]) (fun m hm hne => ?_)
  by_cases h : m < 270
  · have hm2 : m = 18*(m/18) + m%18 := by omega
    by_cases h9 : m/18 = w
    · have hm3 : m = 18*w + m%18 := by omega
      rw [hm3, cel_f hw (by omega), cel_w hw (by omega)]
      exact wcel_own (by omega) (fun t1 ht1 => ho t1 (by omega))
    · rw [hm2, cel_w (by omega) (by omega), cel_w (by omega) (by omega), va_up_ne _ _ h9]
  · rw [cel_c (by omega), cel_c (by omega), va_up_ne _ _ (by omega : ¬ 15 = w), va_up_ne _ _ (by omega : ¬ 16 = w)]
theorem pool_set15G {G : CY} {ad : Nat → Nat} {σ : Nat → Nat → Int32} {n : Nat} {u' : Nat → Int32} {e : va_E} (h0 : 270 ≤ n) (hn : n < 290) (ho : ∀ t, own15 t ≠ n → u' t = σ 15 t) (he : ccel G ad u' (σ 16) n = e) : (pool G ad σ).set n (ad n, e) = pool G ad (va_up σ 15 u') := by
  refine pool_set (by omega) (by rw [cel_c h0, va_up_self, va_up_ne _ _ (by decide : ¬ 16 = 15), he]) (fun m hm hne => ?_)
  by_cases h : m < 270
  · unfold cel
    rw [if_pos h, if_pos h, va_up_ne _ _ (by omega : ¬ m/18 = 15)]
  · rw [cel_c (by omega), cel_c (by omega), va_up_self, va_up_ne _ _ (by decide : ¬ 16 = 15)]
    exact ccel_own (by omega) hm (fun t1 ht1 => ho t1 (by omega)) (fun _ _ => rfl)
theorem pcopyw {p : Program} {l : Launch} {e : Env} {R : Room} {s : State} {m : MethodId} {args : Array Value} {below : List Frame} {meth : Method} {c : Code} {H : Heap} {locs : List Loc} {cells slots : Nat} {Q : State → Prop} {cc : ByteArray} {pc : Nat} {ls : Array Slot} {rest : List Value} {H0 : Heap} {D : va_G} {G : CY} {ad : Nat → Nat} {σ : Nat → Nat → Int32} {B0 : Nat} (hx : p.tables.exec = Jvm.exec) (hb : c.code = cc) (hml : c.maxLocals = ls.size) {own9 : String} {index : Nat} (hown9 : s.vm.findClass own9 = some m.cls) (hlink : (Cond.methodLink own9 index arraycopyName).before args s = true) (hnat : (Cond.native arraycopyName).before args s = true) (hstat : (Cond.static arraycopyName).before args s = true) (hini : (Cond.initialized "java/lang/System").before args s = true) (hK : va_K D vwCl (tysG G) s) (hP : va_P D vwCl (pool G ad σ) H) (hA : adOK B0 ad) (hS : va_S (AA B0) H0 H locs) {n o o2 j j2 w v : Nat} (hw : w < 15) (hv : v < 15) (hj : j < 18) (hj2 : j2 < 18) (hcd : ∀ x : Nat → Int32, wcel G ad (18*w) x j = icel G n o x) (hcs : ∀ x : Nat → Int32, wcel G ad (18*v) x j2 = icel G n o2 x) (hown : ∀ k, k < n → own (o + k) = j) {N : Int32} (hN : N.toNatClampNeg = n) (hN0 : ¬ N < 0) (hframes : 1 ≤ R.frames) (hlocals : (rest.map fun v => v.category).sum + (nativeFrameWords "java/lang/System" "arraycopy" 5 + 11) ≤ R.locals) (hdg : decode cc pc = .ok (.invokestatic index, 3))
    (kk : ∀ (u1 : Nat → Int32) (H1 : Heap) (locs1 : List Loc), u1 = cpw (σ v) o o2 n (σ w) → va_P D vwCl (pool G ad (va_up σ w u1)) H1 → va_S (AA B0) H0 H1 locs1 → W p l e R s m args below meth c H1 locs1 cells slots Q (F0 m (pc + 3) ls rest)) : W p l e R s m args below meth c H locs cells slots Q (F0 m pc ls (.int N :: .int 0 :: .ref (ad (18*w+j)) :: .int 0 :: .ref (ad (18*v+j2)) :: rest)) := by
  have z0 : (0 : Int32).toNatClampNeg = 0 := rfl
  refine va_copyi hx hb hml hown9 hlink hnat hstat hini hK hP (pool_D hA) hS (18*v+j2) (18*w+j) 1 1 (pool_atE (by omega) ((cel_w hv hj2).trans (hcs _))) (pool_atE (by omega) ((cel_w hw hj).trans (hcd _))) rfl rfl rfl (by decide) (by decide) hN0 (by rw [z0, hN]; omega) (by rw [z0, hN]; omega) (fun _ _ => rfl) hframes hlocals hdg (fun H1 locs1 hP1 _ hS1 => kk _ H1 locs1 rfl ?_ hS1)
  rw [z0, hN, tr_cpw, pool_setwG hw hj (u' := cpw (σ v) o o2 n (σ w)) (fun t ht => cpw_out (by
    by_cases h1 : t < o
    · exact Or.inl h1
    · by_cases h2 : t < o + n
      · exact absurd (by have h3 := hown (t - o) (by omega); rwa [show o + (t - o) = t by omega] at h3) ht
      · exact Or.inr (by omega))) (hcd _)] at hP1
  exact hP1
theorem pcopy15 {p : Program} {l : Launch} {e : Env} {R : Room} {s : State} {m : MethodId} {args : Array Value} {below : List Frame} {meth : Method} {c : Code} {H : Heap} {locs : List Loc} {cells slots : Nat} {Q : State → Prop} {cc : ByteArray} {pc : Nat} {ls : Array Slot} {rest : List Value} {H0 : Heap} {D : va_G} {G : CY} {ad : Nat → Nat} {σ : Nat → Nat → Int32} {B0 : Nat} (hx : p.tables.exec = Jvm.exec) (hb : c.code = cc) (hml : c.maxLocals = ls.size) {own9 : String} {index : Nat} (hown9 : s.vm.findClass own9 = some m.cls) (hlink : (Cond.methodLink own9 index arraycopyName).before args s = true) (hnat : (Cond.native arraycopyName).before args s = true) (hstat : (Cond.static arraycopyName).before args s = true) (hini : (Cond.initialized "java/lang/System").before args s = true) (hK : va_K D vwCl (tysG G) s) (hP : va_P D vwCl (pool G ad σ) H) (hA : adOK B0 ad) (hS : va_S (AA B0) H0 H locs) {n o o2 j j2 : Nat} (h0 : 270 ≤ j) (hj : j < 290) (h02 : 270 ≤ j2) (hj2 : j2 < 290) (hcd : ∀ v z : Nat → Int32, ccel G ad v z j = icel G n o v) (hcs : ∀ v z : Nat → Int32, ccel G ad v z j2 = icel G n o2 v) (hown : ∀ k, k < n → own15 (o + k) = j) {N : Int32} (hN : N.toNatClampNeg = n) (hN0 : ¬ N < 0) (hframes : 1 ≤ R.frames) (hlocals : (rest.map fun v => v.category).sum + (nativeFrameWords "java/lang/System" "arraycopy" 5 + 11) ≤ R.locals) (hdg : decode cc pc = .ok (.invokestatic index, 3))
    (kk : ∀ (u1 : Nat → Int32) (H1 : Heap) (locs1 : List Loc), u1 = cpw (σ 15) o o2 n (σ 15) → va_P D vwCl (pool G ad (va_up σ 15 u1)) H1 → va_S (AA B0) H0 H1 locs1 → W p l e R s m args below meth c H1 locs1 cells slots Q (F0 m (pc + 3) ls rest)) : W p l e R s m args below meth c H locs cells slots Q (F0 m pc ls (.int N :: .int 0 :: .ref (ad j) :: .int 0 :: .ref (ad j2) :: rest)) := by
  have z0 : (0 : Int32).toNatClampNeg = 0 := rfl
  refine va_copyi hx hb hml hown9 hlink hnat hstat hini hK hP (pool_D hA) hS j2 j 1 1 (pool_atE hj2 ((cel_c h02).trans (hcs _ _))) (pool_atE hj ((cel_c h0).trans (hcd _ _))) rfl rfl rfl (by decide) (by decide) hN0 (by rw [z0, hN]; omega) (by rw [z0, hN]; omega) (fun _ _ => rfl) hframes hlocals hdg (fun H1 locs1 hP1 _ hS1 => kk _ H1 locs1 rfl ?_ hS1)
  rw [z0, hN, tr_cpw, pool_set15G h0 hj (u' := cpw (σ 15) o o2 n (σ 15)) (fun t ht => cpw_out (by
    by_cases h1 : t < o
    · exact Or.inl h1
    · by_cases h2 : t < o + n
      · exact absurd (by have h3 := hown (t - o) (by omega); rwa [show o + (t - o) = t by omega] at h3) ht
      · exact Or.inr (by omega))) (hcd _ _)] at hP1
  exact hP1
