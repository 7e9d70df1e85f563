/-! THE LAW: which case, the loop, the start -/
set_option maxHeartbeats 4000000 in
set_option maxRecDepth 100000 in
theorem law_any {p : Program} {l : Launch} {e : Env} {R : Room} {s : State} {m : MethodId} {args : Array Value} {below : List Frame} {meth : Method} {c : Code} {Q : State → Prop} (hl0 : l.stackTraces = false) {D : va_G} {G : CY} {B0 b L i cells slots : Nat} {xs : Nat → Int32} {v : Int32} {cL cD : ClassId} {K : Int} {σ : Nat → Nat → Int32} {f : Nat → Int64} {g : Nat → UInt64} {H : Heap} {locs : List Loc} {ls : Array Slot}
    (hx : p.tables.exec = Jvm.exec) (hb : c.code = code) (hml : c.maxLocals = 8) (hown : s.vm.findClass RL = some m.cls) (hts : ∀ w ∈ lw_tbl, w.before args s = true) (hLA : LA D G B0 cL cD b L xs s) (hLI : LI D G B0 cL cD K σ f g H) (hS : va_S (AC B0) s.heap H locs) (hl : lv_has ls 8 [(5, .int (nI i)), (4, .ref (B0+291)), (3, .ref (B0+290)), (2, .ref (adH B0 279)), (1, .ref (adH B0 270)), (0, .ref b)]) (hi : i + 7 ≤ L) (hL : L ≤ 3584) (hK8 : K ≤ 800000000) (hfr : 20 ≤ R.frames) (hlo : 400 ≤ R.locals) (hce : cells + 4 ≤ R.cells) (hsl : slots + 24 ≤ R.slots)
    (cont : ∀ (σ2 : Nat → Nat → Int32) (f2 : Nat → Int64) (g2 : Nat → UInt64) (H2 : Heap) (locs2 : List Loc) (ls2 : Array Slot), LI D G B0 cL cD (K+500000) σ2 f2 g2 H2 → va_S (AC B0) s.heap H2 locs2 → lv_has ls2 8 [(5, .int (nI i)), (4, .ref (B0+291)), (3, .ref (B0+290)), (2, .ref (adH B0 279)), (1, .ref (adH B0 270)), (0, .ref b)] → W p l e R s m args below meth c H2 locs2 (cells + 4) (slots + 24) Q (F0 m 2317 ls2 [])) : W p l e R s m args below meth c H locs cells slots Q (F0 m 45 ls [.int v]) := by
  by_cases k0 : v = 0
  · refine lv_tableIn (tgt := 196) hx hb dL_law_45 (by rw [k0]; decide) (by rw [k0]; decide) (by rw [k0]; rfl) (by decide) ?_
    exact law_0 hl0 hx hb hml hown hts hLA hLI hS hl hi hL hK8 hfr hlo hce hsl cont
  by_cases k1 : v = 1
  · refine lv_tableIn (tgt := 276) hx hb dL_law_45 (by rw [k1]; decide) (by rw [k1]; decide) (by rw [k1]; rfl) (by decide) ?_
    exact law_1 hl0 hx hb hml hown hts hLA hLI hS hl hi hL hK8 hfr hlo hce hsl cont
  by_cases k2 : v = 2
  · refine lv_tableIn (tgt := 344) hx hb dL_law_45 (by rw [k2]; decide) (by rw [k2]; decide) (by rw [k2]; rfl) (by decide) ?_
    exact law_2 hl0 hx hb hml hown hts hLA hLI hS hl hi hL hK8 hfr hlo hce hsl cont
  by_cases k3 : v = 3
  · refine lv_tableIn (tgt := 436) hx hb dL_law_45 (by rw [k3]; decide) (by rw [k3]; decide) (by rw [k3]; rfl) (by decide) ?_
    exact law_3 hl0 hx hb hml hown hts hLA hLI hS hl hi hL hK8 hfr hlo hce hsl cont
  by_cases k4 : v = 4
  · refine lv_tableIn (tgt := 492) hx hb dL_law_45 (by rw [k4]; decide) (by rw [k4]; decide) (by rw [k4]; rfl) (by decide) ?_
    exact law_4 hl0 hx hb hml hown hts hLA hLI hS hl hi hL hK8 hfr hlo hce hsl cont
  by_cases k5 : v = 5
  · refine lv_tableIn (tgt := 560) hx hb dL_law_45 (by rw [k5]; decide) (by rw [k5]; decide) (by rw [k5]; rfl) (by decide) ?_
    exact law_5 hl0 hx hb hml hown hts hLA hLI hS hl hi hL hK8 hfr hlo hce hsl cont
  by_cases k6 : v = 6
  · refine lv_tableIn (tgt := 628) hx hb dL_law_45 (by rw [k6]; decide) (by rw [k6]; decide) (by rw [k6]; rfl) (by decide) ?_
    exact law_6 hl0 hx hb hml hown hts hLA hLI hS hl hi hL hK8 hfr hlo hce hsl cont
  by_cases k7 : v = 7
  · refine lv_tableIn (tgt := 708) hx hb dL_law_45 (by rw [k7]; decide) (by rw [k7]; decide) (by rw [k7]; rfl) (by decide) ?_
    exact law_7 hl0 hx hb hml hown hts hLA hLI hS hl hi hL hK8 hfr hlo hce hsl cont
  by_cases k8 : v = 8
  · refine lv_tableIn (tgt := 826) hx hb dL_law_45 (by rw [k8]; decide) (by rw [k8]; decide) (by rw [k8]; rfl) (by decide) ?_
    exact law_8 hl0 hx hb hml hown hts hLA hLI hS hl hi hL hK8 hfr hlo hce hsl cont
  by_cases k9 : v = 9
  · refine lv_tableIn (tgt := 882) hx hb dL_law_45 (by rw [k9]; decide) (by rw [k9]; decide) (by rw [k9]; rfl) (by decide) ?_
    exact law_9 hl0 hx hb hml hown hts hLA hLI hS hl hi hL hK8 hfr hlo hce hsl cont
  by_cases k10 : v = 10
  · refine lv_tableIn (tgt := 950) hx hb dL_law_45 (by rw [k10]; decide) (by rw [k10]; decide) (by rw [k10]; rfl) (by decide) ?_
    exact law_10 hl0 hx hb hml hown hts hLA hLI hS hl hi hL hK8 hfr hlo hce hsl cont
  by_cases k11 : v = 11
  · refine lv_tableIn (tgt := 1006) hx hb dL_law_45 (by rw [k11]; decide) (by rw [k11]; decide) (by rw [k11]; rfl) (by decide) ?_
    exact law_11 hl0 hx hb hml hown hts hLA hLI hS hl hi hL hK8 hfr hlo hce hsl cont
  by_cases k12 : v = 12
  · refine lv_tableIn (tgt := 1074) hx hb dL_law_45 (by rw [k12]; decide) (by rw [k12]; decide) (by rw [k12]; rfl) (by decide) ?_
    exact law_12 hl0 hx hb hml hown hts hLA hLI hS hl hi hL hK8 hfr hlo hce hsl cont
  by_cases k13 : v = 13
  · refine lv_tableIn (tgt := 1130) hx hb dL_law_45 (by rw [k13]; decide) (by rw [k13]; decide) (by rw [k13]; rfl) (by decide) ?_
    exact law_13 hl0 hx hb hml hown hts hLA hLI hS hl hi hL hK8 hfr hlo hce hsl cont
  by_cases k14 : v = 14
  · refine lv_tableIn (tgt := 1198) hx hb dL_law_45 (by rw [k14]; decide) (by rw [k14]; decide) (by rw [k14]; rfl) (by decide) ?_
    exact law_14 hl0 hx hb hml hown hts hLA hLI hS hl hi hL hK8 hfr hlo hce hsl cont
  by_cases k15 : v = 15
  · refine lv_tableIn (tgt := 1242) hx hb dL_law_45 (by rw [k15]; decide) (by rw [k15]; decide) (by rw [k15]; rfl) (by decide) ?_
    exact law_15 hl0 hx hb hml hown hts hLA hLI hS hl hi hL hK8 hfr hlo hce hsl cont
  by_cases k16 : v = 16
  · refine lv_tableIn (tgt := 1255) hx hb dL_law_45 (by rw [k16]; decide) (by rw [k16]; decide) (by rw [k16]; rfl) (by decide) ?_
    exact law_16 hl0 hx hb hml hown hts hLA hLI hS hl hi hL hK8 hfr hlo hce hsl cont
  by_cases k17 : v = 17
  · refine lv_tableIn (tgt := 1311) hx hb dL_law_45 (by rw [k17]; decide) (by rw [k17]; decide) (by rw [k17]; rfl) (by decide) ?_
    exact law_17 hl0 hx hb hml hown hts hLA hLI hS hl hi hL hK8 hfr hlo hce hsl cont
  by_cases k18 : v = 18
  · refine lv_tableIn (tgt := 1374) hx hb dL_law_45 (by rw [k18]; decide) (by rw [k18]; decide) (by rw [k18]; rfl) (by decide) ?_
    exact law_18 hl0 hx hb hml hown hts hLA hLI hS hl hi hL hK8 hfr hlo hce hsl cont
  by_cases k19 : v = 19
  · refine lv_tableIn (tgt := 1430) hx hb dL_law_45 (by rw [k19]; decide) (by rw [k19]; decide) (by rw [k19]; rfl) (by decide) ?_
    exact law_19 hl0 hx hb hml hown hts hLA hLI hS hl hi hL hK8 hfr hlo hce hsl cont
  by_cases k20 : v = 20
  · refine lv_tableIn (tgt := 1517) hx hb dL_law_45 (by rw [k20]; decide) (by rw [k20]; decide) (by rw [k20]; rfl) (by decide) ?_
    exact law_20 hl0 hx hb hml hown hts hLA hLI hS hl hi hL hK8 hfr hlo hce hsl cont
  by_cases k21 : v = 21
  · refine lv_tableIn (tgt := 1585) hx hb dL_law_45 (by rw [k21]; decide) (by rw [k21]; decide) (by rw [k21]; rfl) (by decide) ?_
    exact law_21 hl0 hx hb hml hown hts hLA hLI hS hl hi hL hK8 hfr hlo hce hsl cont
  by_cases k22 : v = 22
  · refine lv_tableIn (tgt := 1641) hx hb dL_law_45 (by rw [k22]; decide) (by rw [k22]; decide) (by rw [k22]; rfl) (by decide) ?_
    exact law_22 hl0 hx hb hml hown hts hLA hLI hS hl hi hL hK8 hfr hlo hce hsl cont
  by_cases k23 : v = 23
  · refine lv_tableIn (tgt := 1709) hx hb dL_law_45 (by rw [k23]; decide) (by rw [k23]; decide) (by rw [k23]; rfl) (by decide) ?_
    exact law_23 hl0 hx hb hml hown hts hLA hLI hS hl hi hL hK8 hfr hlo hce hsl cont
  by_cases k24 : v = 24
  · refine lv_tableIn (tgt := 1789) hx hb dL_law_45 (by rw [k24]; decide) (by rw [k24]; decide) (by rw [k24]; rfl) (by decide) ?_
    exact law_24 hl0 hx hb hml hown hts hLA hLI hS hl hi hL hK8 hfr hlo hce hsl cont
  by_cases k25 : v = 25
  · refine lv_tableIn (tgt := 1881) hx hb dL_law_45 (by rw [k25]; decide) (by rw [k25]; decide) (by rw [k25]; rfl) (by decide) ?_
    exact law_25 hl0 hx hb hml hown hts hLA hLI hS hl hi hL hK8 hfr hlo hce hsl cont
  by_cases k26 : v = 26
  · refine lv_tableIn (tgt := 1961) hx hb dL_law_45 (by rw [k26]; decide) (by rw [k26]; decide) (by rw [k26]; rfl) (by decide) ?_
    exact law_26 hl0 hx hb hml hown hts hLA hLI hS hl hi hL hK8 hfr hlo hce hsl cont
  by_cases k27 : v = 27
  · refine lv_tableIn (tgt := 2029) hx hb dL_law_45 (by rw [k27]; decide) (by rw [k27]; decide) (by rw [k27]; rfl) (by decide) ?_
    exact law_27 hl0 hx hb hml hown hts hLA hLI hS hl hi hL hK8 hfr hlo hce hsl cont
  by_cases k28 : v = 28
  · refine lv_tableIn (tgt := 2107) hx hb dL_law_45 (by rw [k28]; decide) (by rw [k28]; decide) (by rw [k28]; rfl) (by decide) ?_
    exact law_28 hl0 hx hb hml hown hts hLA hLI hS hl hi hL hK8 hfr hlo hce hsl cont
  by_cases k29 : v = 29
  · refine lv_tableIn (tgt := 2145) hx hb dL_law_45 (by rw [k29]; decide) (by rw [k29]; decide) (by rw [k29]; rfl) (by decide) ?_
    exact law_29 hl0 hx hb hml hown hts hLA hLI hS hl hi hL hK8 hfr hlo hce hsl cont
  by_cases k30 : v = 30
  · refine lv_tableIn (tgt := 2213) hx hb dL_law_45 (by rw [k30]; decide) (by rw [k30]; decide) (by rw [k30]; rfl) (by decide) ?_
    exact law_30 hl0 hx hb hml hown hts hLA hLI hS hl hi hL hK8 hfr hlo hce hsl cont
  by_cases k31 : v = 31
  · refine lv_tableIn (tgt := 2269) hx hb dL_law_45 (by rw [k31]; decide) (by rw [k31]; decide) (by rw [k31]; rfl) (by decide) ?_
    exact law_31 hl0 hx hb hml hown hts hLA hLI hS hl hi hL hK8 hfr hlo hce hsl cont
  by_cases k32 : v = 32
  · refine lv_tableIn (tgt := 2282) hx hb dL_law_45 (by rw [k32]; decide) (by rw [k32]; decide) (by rw [k32]; rfl) (by decide) ?_
    exact law_32 hl0 hx hb hml hown hts hLA hLI hS hl hi hL hK8 hfr hlo hce hsl cont
  by_cases k33 : v = 33
  · refine lv_tableIn (tgt := 2293) hx hb dL_law_45 (by rw [k33]; decide) (by rw [k33]; decide) (by rw [k33]; rfl) (by decide) ?_
    exact law_33 hl0 hx hb hml hown hts hLA hLI hS hl hi hL hK8 hfr hlo hce hsl cont
  have hto : ∀ k : Int, 0 ≤ k → k ≤ 33 → ¬ v.toInt = k := fun k h1 h2 h3 => by
    rcases (show k = 0 ∨ k = 1 ∨ k = 2 ∨ k = 3 ∨ k = 4 ∨ k = 5 ∨ k = 6 ∨ k = 7 ∨ k = 8 ∨ k = 9 ∨ k = 10 ∨ k = 11 ∨ k = 12 ∨ k = 13 ∨ k = 14 ∨ k = 15 ∨ k = 16 ∨ k = 17 ∨ k = 18 ∨ k = 19 ∨ k = 20 ∨ k = 21 ∨ k = 22 ∨ k = 23 ∨ k = 24 ∨ k = 25 ∨ k = 26 ∨ k = 27 ∨ k = 28 ∨ k = 29 ∨ k = 30 ∨ k = 31 ∨ k = 32 ∨ k = 33 by omega) with rfl | rfl | rfl | rfl | rfl | rfl | rfl | rfl | rfl | rfl | rfl | rfl | rfl | rfl | rfl | rfl | rfl | rfl | rfl | rfl | rfl | rfl | rfl | rfl | rfl | rfl | rfl | rfl | rfl | rfl | rfl | rfl | rfl | rfl
    · exact k0 ((Int32.toInt_inj (y := 0)).mp h3)
    · exact k1 ((Int32.toInt_inj (y := 1)).mp h3)
    · exact k2 ((Int32.toInt_inj (y := 2)).mp h3)
    · exact k3 ((Int32.toInt_inj (y := 3)).mp h3)
    · exact k4 ((Int32.toInt_inj (y := 4)).mp h3)
    · exact k5 ((Int32.toInt_inj (y := 5)).mp h3)
    · exact k6 ((Int32.toInt_inj (y := 6)).mp h3)
    · exact k7 ((Int32.toInt_inj (y := 7)).mp h3)
    · exact k8 ((Int32.toInt_inj (y := 8)).mp h3)
    · exact k9 ((Int32.toInt_inj (y := 9)).mp h3)
    · exact k10 ((Int32.toInt_inj (y := 10)).mp h3)
    · exact k11 ((Int32.toInt_inj (y := 11)).mp h3)
    · exact k12 ((Int32.toInt_inj (y := 12)).mp h3)
    · exact k13 ((Int32.toInt_inj (y := 13)).mp h3)
    · exact k14 ((Int32.toInt_inj (y := 14)).mp h3)
    · exact k15 ((Int32.toInt_inj (y := 15)).mp h3)
    · exact k16 ((Int32.toInt_inj (y := 16)).mp h3)
    · exact k17 ((Int32.toInt_inj (y := 17)).mp h3)
    · exact k18 ((Int32.toInt_inj (y := 18)).mp h3)
    · exact k19 ((Int32.toInt_inj (y := 19)).mp h3)
    · exact k20 ((Int32.toInt_inj (y := 20)).mp h3)
    · exact k21 ((Int32.toInt_inj (y := 21)).mp h3)
    · exact k22 ((Int32.toInt_inj (y := 22)).mp h3)
    · exact k23 ((Int32.toInt_inj (y := 23)).mp h3)
    · exact k24 ((Int32.toInt_inj (y := 24)).mp h3)
    · exact k25 ((Int32.toInt_inj (y := 25)).mp h3)
    · exact k26 ((Int32.toInt_inj (y := 26)).mp h3)
    · exact k27 ((Int32.toInt_inj (y := 27)).mp h3)
    · exact k28 ((Int32.toInt_inj (y := 28)).mp h3)
    · exact k29 ((Int32.toInt_inj (y := 29)).mp h3)
    · exact k30 ((Int32.toInt_inj (y := 30)).mp h3)
    · exact k31 ((Int32.toInt_inj (y := 31)).mp h3)
    · exact k32 ((Int32.toInt_inj (y := 32)).mp h3)
    · exact k33 ((Int32.toInt_inj (y := 33)).mp h3)
  refine lv_tableOut (tgt := 2317) hx hb dL_law_45 (tab_out 0 33 hto) (by decide) ?_
  obtain ⟨hP, hPo, hPd, hTop, hO⟩ := hLI
  exact W.widen (k := cells + 4) (n := slots + 24) (by omega) (by omega) (cont σ f g H locs ls ⟨hP, hPo, hPd, hTop.mono (by omega), hO⟩ hS hl)
/-! THE CLAIM OUT OF ONE WALK OF THE LAW'S BODY. Your part is whole_start (and what it stands on); all else here is the same for every law, but numbers. -/
def R_law : String := "TileRunnersLaw"
def lw_P (b : Addr) (xs : List Int32) (args : Array Value) (s : State) : Prop := args = #[.ref b] ∧ s.IntsAt b xs ∧ xs.length ≤ 3584 ∧ (Jvm.Cond.and given_1 narrow_1).before args s = true
/-- what a walk over the start with the record d0 says of its end, said of the start itself -/
theorem lw_closed {s t : State} {o : Outcome} {d0 : Drawn} {L : List Loc} {k n : Nat} (hd0 : s.drawn.sameBut d0 lw_cs) (hv : ∃ v, o = .returned v) (hW : (s.setDrawn d0).WarmedH t.vm) (hs : (s.setDrawn d0).sameButNew ({ t with vm := s.vm } : State) L k n) : State.butDraws s t lw_cs (fun t1 => Framed s o t1 L k n) := by
  have h2 : t.drawn = d0 := congrArg State.drawn hs.1
  refine ⟨⟨hv, hW, State.sameButNew.setDrawn hs s.drawn⟩, ?_, by decide⟩
  rw [h2]
  exact hd0
def lw_Q (_ : Array Value) (s : State) (o : Outcome) (t : State) : Prop := o = .returned (some (.int 1)) ∧ State.butDraws s t lw_cs (fun t1 => Framed s o t1 [] 603072 7207018)
def lw_Z (below : List Frame) (a : Array Value) (s : State) : State → Prop := fun t => ∃ o, t.status = .running ∧ Ended t below o ∧ lw_Q a s o t
/-- the law's own end, with 1 on the stack, nothing written that was there before, its room as the claim has it; d0: the record of draws at this point (at the entry s.drawn: begin with 'refine W.base ?_' and 'have hd0 := Drawn.sameBut.refl s.drawn lw_cs') -/
theorem lw_ret {p : Program} {l : Launch} {e : Env} {s : State} {m : MethodId} {below : List Frame} {meth : Method} {c : Code} {b : Nat} {d0 : Drawn} (hd0 : s.drawn.sameBut d0 lw_cs) (hx : p.tables.exec = Jvm.exec) (hb : c.code = code) (hr : meth.sig.returnType = ret) (hlocks : meth.locks = false) {pc : Nat} {H : Heap} {ls : Array Slot} (hdg : decode code pc = .ok (.ireturn, 1)) : W p l e room_1 (s.setDrawn d0) m #[Value.ref b] below meth c H [] 603072 7207018 (lw_Z below #[Value.ref b] s) (F0 m pc ls [.int 1]) := by
  intro T hT X
  obtain ⟨fs, hret, hrun, hended, hW, hframe⟩ := X.leave (v := some (.int 1)) (hlocks := hlocks) (fun h => by rw [hr] at h; cases h)
  have hmeth' : T.vm.method? m = some meth := X.method'
  refine ⟨T.setFrames fs, ?_, .returned (some (.int 1)), hrun, hended, rfl, lw_closed hd0 ⟨_, rfl⟩ hW hframe⟩
  jvm_step X.here [X.here.top, hx, hb, hdg, hmeth', hr, ret, narrow_b1]
  (try refine ⟨rfl, ?_⟩); (try refine ⟨rfl, ?_⟩)
  first | (intro acts; rw [hret _ acts rfl rfl rfl]) | rw [hret _ _ rfl rfl rfl]
  exact Steps.refl _
/-- what holds at the law's entry: the machine, the code, the tables' words (any of lw_tbl by 'hts w (by decide +kernel)'), the script of L ints xs at the cell b, what the Statement gives of the start (any of its parts by flat_of_before) -/
def lw_At (p : Program) (s : State) (m : MethodId) (meth : Method) (c : Code) (b L : Nat) (xs : Nat → Int32) : Prop :=
  p.tables.exec = Jvm.exec ∧ c.code = code ∧ meth.sig.returnType = ret ∧ c.maxLocals = 8 ∧ s.vm.findClass R_law = some m.cls ∧ (∀ w ∈ lw_tbl, w.before #[Value.ref b] s = true) ∧ va_X b L xs s s.heap ∧ b < s.heap.size ∧ meth.locks = false ∧ (Jvm.Cond.and given_1 narrow_1).before #[Value.ref b] s = true
theorem lw_sub7 {L : Nat} (h : L ≤ 3584) : (Int32.ofNat L - 7).toInt = (L : Int) - 7 := by
  have e : (Int32.ofNat L).toInt = (L : Int) := nI_toInt (by omega)
  rw [Int32.toInt_sub, e, show (7 : Int32).toInt = 7 from rfl, Int.bmod_def]
  split <;> omega
theorem lw_inc7 {i : Nat} (h : i ≤ 3584) : nI i + Int32.ofInt 7 = nI (i + 7) := nI_add i 7
theorem lw_inI {i L : Nat} (hi : i + 7 ≤ L) (hL : L ≤ 3584) : vp_in (nI i) L := vp_in_iff.mpr ⟨by rw [nI_toInt (by omega)]; omega, by rw [nI_toInt (by omega)]; omega⟩
set_option maxHeartbeats 4000000 in
set_option maxRecDepth 100000 in
theorem law_loop {p : Program} {l : Launch} {e : Env} {s : State} {m : MethodId} {below : List Frame} {meth : Method} {c : Code} (hl0 : l.stackTraces = false) {D : va_G} {G : CY} {b L : Nat} {xs : Nat → Int32} {cL cD : ClassId} {B0 : Nat} (hx : p.tables.exec = Jvm.exec) (hb : c.code = code) (hr : meth.sig.returnType = ret) (hlocks : meth.locks = false) (hml : c.maxLocals = 8) (hown : s.vm.findClass RL = some m.cls) (hts : ∀ w ∈ lw_tbl, w.before #[Value.ref b] s = true) (hLA : LA D G B0 cL cD b L xs s) (hL : L ≤ 3584) :
    ∀ (r i cells slots : Nat) (K : Int) (σ : Nat → Nat → Int32) (f : Nat → Int64) (g : Nat → UInt64) (H : Heap) (locs : List Loc) (ls : Array Slot), L < i + 7 * (r + 1) → i ≤ L → K + 500000 * (r : Int) ≤ 800000000 → cells + 4 * r ≤ 603072 → slots + 24 * r ≤ 7207018 → LI D G B0 cL cD K σ f g H → va_S (AC B0) s.heap H locs → lv_has ls 8 [(5, .int (nI i)), (4, .ref (B0+291)), (3, .ref (B0+290)), (2, .ref (adH B0 279)), (1, .ref (adH B0 270)), (0, .ref b)] →
      W p l e room_1 s m #[Value.ref b] below meth c H locs cells slots (lw_Z below #[Value.ref b] s) (F0 m 28 ls []) := by
  have hX : va_X b L xs s s.heap := hLA.2.2.2.2.2.2.2.2.1
  have hbl : b < s.heap.size := hLA.2.2.2.2.2.2.2.2.2.1
  have hsz : s.heap.size = B0 := hLA.2.2.2.2.2.2.2.2.2.2
  have hbA : ¬ AC B0 b := fun z => by have z : B0 ≤ b := z; omega
  intro r
  induction r with
  | zero =>
    intro i cells slots K σ f g H locs ls h1 h2 hK hce hsl hLI hS hl
    refine lv_iload hx hb dL_law_28 (lv_at hl 0 rfl) ?_
    refine lv_aload_n hx hb dL_law_30 rfl (lv_at hl 5 rfl) ?_
    refine va_slen hx hb hX hbl hbA hS dL_law_31 ?_
    refine lv_bipush (v := 7) hx hb dL_law_32 (by decide) ?_
    refine lv_isub hx hb dL_law_34 ?_
    refine lv_icmp_gt (tgt := 2323) hx hb dL_law_35 (by decide) (fun c1 => ?_) (fun c1 => ?_)
    · refine lv_iconst (v := 1) hx hb dL_law_2323 (by decide) ?_
      refine va_forget (fun q hq => by have z : B0 ≤ q.base := hS.2.2 q hq; omega) ?_
      refine W.widen (k := 603072) (n := 7207018) (by omega) (by omega) ?_
      exact lw_ret (d0 := s.drawn) (Drawn.sameBut.refl s.drawn lw_cs) hx hb hr hlocks dL_law_2324
    · exact absurd (by rw [Int32.lt_iff_toInt_lt, lw_sub7 hL, nI_toInt (by omega)]; omega) c1
  | succ r ih =>
    intro i cells slots K σ f g H locs ls h1 h2 hK hce hsl hLI hS hl
    have hK8 : K ≤ 800000000 := by omega
    refine lv_iload hx hb dL_law_28 (lv_at hl 0 rfl) ?_
    refine lv_aload_n hx hb dL_law_30 rfl (lv_at hl 5 rfl) ?_
    refine va_slen hx hb hX hbl hbA hS dL_law_31 ?_
    refine lv_bipush (v := 7) hx hb dL_law_32 (by decide) ?_
    refine lv_isub hx hb dL_law_34 ?_
    refine lv_icmp_gt (tgt := 2323) hx hb dL_law_35 (by decide) (fun c1 => ?_) (fun c1 => ?_)
    · refine lv_iconst (v := 1) hx hb dL_law_2323 (by decide) ?_
      refine va_forget (fun q hq => by have z : B0 ≤ q.base := hS.2.2 q hq; omega) ?_
      refine W.widen (k := 603072) (n := 7207018) (by omega) (by omega) ?_
      exact lw_ret (d0 := s.drawn) (Drawn.sameBut.refl s.drawn lw_cs) hx hb hr hlocks dL_law_2324
    · have hi : i + 7 ≤ L := by
        rw [Int32.lt_iff_toInt_lt, lw_sub7 hL, nI_toInt (by omega)] at c1
        omega
      refine lv_aload_n hx hb dL_law_38 rfl (lv_at hl 5 rfl) ?_
      refine lv_iload hx hb dL_law_39 (lv_at hl 0 rfl) ?_
      refine va_sld hx hb hX hbl hbA hS (lw_inI hi hL) dL_law_41 ?_
      refine lv_bipush (v := 63) hx hb dL_law_42 (by decide) ?_
      refine lv_iand hx hb dL_law_44 ?_
      refine law_any hl0 hx hb hml hown hts hLA hLI hS hl hi hL hK8 (Nat.le_of_ble_eq_true rfl) (Nat.le_of_ble_eq_true rfl) (by show cells + 4 ≤ 603072; omega) (by show slots + 24 ≤ 7207018; omega) (fun σ2 f2 g2 H2 locs2 ls2 hLI2 hS2 hl2 => ?_)
      refine lv_iinc (k := 0) (v := nI (i + 7)) (lv' := [(5, .int (nI (i + 7))), (4, .ref (B0+291)), (3, .ref (B0+290)), (2, .ref (adH B0 279)), (1, .ref (adH B0 270)), (0, .ref b)]) hx hb dL_law_2317 hl2 rfl (lw_inc7 (by omega)) (by decide) rfl (fun ls3 hl3 => ?_)
      refine lv_goto (tgt := 28) hx hb dL_law_2320 (by decide) ?_
      exact ih (i + 7) (cells + 4) (slots + 24) (K + 500000) σ2 f2 g2 H2 locs2 ls3 (by omega) (by omega) (by omega) (by omega) (by omega) hLI2 hS2 hl3
/-- a new array of longs, of doubles -/
theorem c_newx {p : Program} {l : Launch} {e : Env} {R : Room} {s : State} {m : MethodId} {args : Array Value} {below : List Frame} {meth : Method} {c : Code} {H : Heap} {locs : List Loc} {cells slots : Nat} {Q : State → Prop} {cc : ByteArray} {pc : Nat} {ls : Array Slot} {rest : List Value} {D : va_G} {H0 : Heap} {h0 k : Nat} {f : Nat → va_E}
    (hexec : p.tables.exec = Jvm.exec) (hb : c.code = cc) {atype : ArrayType} {ty : FieldType} {cA : ClassId} (hty : newarray.typeOf atype = ty) (harr : (Cond.arrayClass ty).before args s = true) (hRA : va_RA s cA ty → s.vm.findClass ("[" ++ ty.toString) = some cA) (hK : va_K D vwCl [(cA, ty)] s) (hP : cP D h0 k f H) (hS : va_S (AC h0) H0 H locs)
    {n : Int32} {N : Nat} {a0 : vp_A} (ha : ∀ cA : ClassId, vp_cell cA a0 = arrV cA N (fun _ => defaultValue ty)) (hn : ¬ n < 0) (hN : n.toNatClampNeg = N) (hbytes : N * componentBytes ty ≤ 536870912) (hcells : cells + 1 ≤ R.cells) (hslots : slots + N ≤ R.slots) (hdg : decode cc pc = .ok (.newarray atype, 2))
    (kk : ∀ H1 : Heap, cP D h0 (k+1) (va_up f k (.inl (cA, a0))) H1 → va_S (AC h0) H0 H1 locs → W p l e R s m args below meth c H1 locs (cells + 1) (slots + N) Q (F0 m (pc + 2) ls (.ref (h0 + k) :: rest))) : W p l e R s m args below meth c H locs cells slots Q (F0 m pc ls (.int n :: rest)) := by
  subst hty
  have hz := hP.1
  refine va_newaK hexec hb harr rfl hdg rfl hn hN hbytes hcells hslots hz fun H1 c2 e1 z1 o1 hAr hNm => ?_
  have hc2 : c2 = cA := Option.some.inj (hNm.symm.trans (hRA (hK.2 0 _ rfl).2))
  subst hc2
  have o2 : ∀ q, q < H.size → H1[q]? = H[q]? := fun q hq => o1 q (by omega)
  refine kk H1 (hP.push (by omega) o2 ?_) (cS.push hS (by omega) o2)
  show H1[h0+k]? = some (vp_cell _ _)
  rw [e1, ha]
theorem hc6_pre {D : va_G} {G : CY} {h0 : Nat} {x : va_E} {av : List Value} {s : State} {H : Heap} (hK : va_K D vwCl (tysG G) s) (hN : NI s) (hP : cP D h0 1 (fun _ => x) H) (hF : FSt (AC h0) s H) : ∀ U : State, U.heap = H → s.WarmedH U.vm → va_Pc av (Hc6 D G h0 x) av.toArray U := fun U hU hW => ⟨rfl, (hc_pre (av := av) hK hN hP U hU hW).2, by rw [hU]; exact FSt.moved hW.alike hF⟩
theorem FSt.kept {A : Nat → Prop} {U : State} {H H1 : Heap} (h : FSt A U H) (hq : ∀ a : Nat, a < H.size → ¬ A a → H1[a]? = H[a]?) : FSt A U H1 := by
  obtain ⟨t, cell, h1, h2, h3, h4, h5, h6, h7⟩ := h
  exact ⟨t, cell, h1.kept hq, (hq t (Array.getElem?_eq_some_iff.mp h2).1 h3).trans h2, h3, h4, h5, h6, h7⟩
theorem one_P {D : va_G} {H : Heap} {a : Nat} {x : va_E} (h : va_at D vwCl (a, x) H) : va_P D vwCl [(a, x)] H := fun k q hk => by
  have hz : k < 1 := (List.getElem?_eq_some_iff.mp hk).1
  rw [show k = 0 by omega] at hk
  cases hk
  exact h
set_option maxHeartbeats 4000000 in
set_option maxRecDepth 100000 in
theorem whole_start {p : Program} {e : Env} {s : State} {m : MethodId} {below : List Frame} {meth : Method} {c : Code} (l : Launch) (hflags : l.flags = flags0) {b L : Nat} {xs : Nat → Int32} (hL : L ≤ 3584) (C0 : lw_At p s m meth c b L xs) : W p l e room_1 s m #[Value.ref b] below meth c s.heap [] 0 0 (lw_Z below #[Value.ref b] s) (entryFrame m ([Value.ref b] : List Value).toArray 8) := by
  obtain ⟨hx, hb, hr, hml, hown, hts, hX, hbl, hlocks, hgv⟩ := C0
  have hown : s.vm.findClass RL = some m.cls := hown
  have hl0 : l.stackTraces = false := by
    unfold Launch.stackTraces
    rw [hflags]
    decide
  obtain ⟨D, G, cL, cD, hLA, hNI, hFS⟩ := LA_start hts hgv hX hbl
  obtain ⟨hK, -, -, -, -, -, hKo, hKd, -, -, -⟩ := id hLA
  have hS : va_S (AC s.heap.size) s.heap s.heap [] := va_S.rf
  have hP : cP D s.heap.size 0 (fun _ => .inr (0, [])) s.heap := ⟨rfl, fun t ht => absurd ht (Nat.not_lt_zero t)⟩
  obtain ⟨B0, hB0⟩ : ∃ z, z = s.heap.size := ⟨_, rfl⟩
  rw [← hB0] at hS hP hLA hFS
  have hl := lv_entry ([.ref b]) (n := 8) (Nat.le_of_ble_eq_true rfl)
  rw [lg_entry_eq]
  generalize (lg_sl ([.ref b]) ++ List.replicate (8 - (lg_sl ([.ref b])).length) Slot.unset).toArray = ls at hl ⊢
  have hl : lv_has ls 8 [(0, .ref b)] := hl
  refine c_new (ci := 8) (fs := [.null, .null, .null, .null, .null, .null, .null, .int 0, .int 0]) (C := RX6) (T := TX6) (N := 9) (own := RL) hx hb hts st_inX6 tyX6 tyX6_ok hown (st_t hts 25 (by decide +kernel)) (st_t hts 26 (by decide +kernel)) (st_t hts 1 (by decide +kernel)) hK hP hS rfl (fun j hj => by rcases (show j = 0 ∨ j = 1 ∨ j = 2 ∨ j = 3 ∨ j = 4 ∨ j = 5 ∨ j = 6 ∨ j = 7 ∨ j = 8 by omega) with rfl | rfl | rfl | rfl | rfl | rfl | rfl | rfl | rfl <;> rfl) (Nat.le_of_ble_eq_true rfl) (Nat.le_of_ble_eq_true rfl) dL_law_0 (fun H hP hS => ?_)
  have hPc : cP D B0 1 (fun _ => .inr (8, [.null, .null, .null, .null, .null, .null, .null, .int 0, .int 0])) H := hP.last (b := 0) rfl
  refine W.eq (g2 := F0 m 3 ls [.ref B0]) rfl ?_
  refine lv_dup hx hb dL_law_3 rfl ?_
  refine va_callv (va_runI (As := []) (rest := [.ref B0]) ⟨hx, hb, hml, hown, hts⟩ (n6_init l (D := D) (G := G) B0) (cwI 0 hts gL_law_X6_init rfl rfl rfl (st_t hts 1 (by decide +kernel)) (st_t hts 27 (by decide +kernel)) (st_t hts 28 (by decide +kernel)) rfl (by decide +kernel) ⟨(Nat.le_of_ble_eq_true rfl), (Nat.le_of_ble_eq_true rfl)⟩) ⟨hc6_blind, hc6_pre hK hNI hPc (hFS.kept (fun a h1 h2 => hS.2.1 a (by omega) h2))⟩ rfl rfl hl.1 rfl (lv_room (Nat.le_of_ble_eq_true rfl)) dL_law_4 ⟨(Nat.le_of_ble_eq_true rfl), (Nat.le_of_ble_eq_true rfl)⟩) hS (fun q _ h => h) (fun q h => h) (fun u9 t H locs ht hvm hw9 hB hz1 hk1 hS => ?_)
  have hP : cP D B0 279 (w6 G B0) H := by rw [← ht]; exact hB
  refine lv_astore_n (lv' := [(1, .ref B0), (0, .ref b)]) hx hb dL_law_7 rfl hl (by decide) rfl (fun ls hl => ?_)
  refine c_new (ci := 9) (fs := [.int 0, .null, .null, .null, .null, .null, .null, .null, .int 0, .int 0, .null, .null, .null, .int 0, .int 0, .int 0, .int 0]) (C := RX7) (T := TX7) (N := 17) (own := RL) hx hb hts st_inX7 tyX7 tyX7_ok hown (st_t hts 1083 (by decide +kernel)) (st_t hts 1084 (by decide +kernel)) (st_t hts 8 (by decide +kernel)) hK hP hS rfl (fun j hj => by rcases (show j = 0 ∨ j = 1 ∨ j = 2 ∨ j = 3 ∨ j = 4 ∨ j = 5 ∨ j = 6 ∨ j = 7 ∨ j = 8 ∨ j = 9 ∨ j = 10 ∨ j = 11 ∨ j = 12 ∨ j = 13 ∨ j = 14 ∨ j = 15 ∨ j = 16 by omega) with rfl | rfl | rfl | rfl | rfl | rfl | rfl | rfl | rfl | rfl | rfl | rfl | rfl | rfl | rfl | rfl | rfl <;> rfl) (Nat.le_of_ble_eq_true rfl) (Nat.le_of_ble_eq_true rfl) dL_law_8 (fun H hP hS => ?_)
  refine lv_dup hx hb dL_law_11 rfl ?_
  have hPc : cP D (B0 + 279) 1 (fun _ => .inr (9, [.int 0, .null, .null, .null, .null, .null, .null, .null, .int 0, .int 0, .null, .null, .null, .int 0, .int 0, .int 0, .int 0])) H := hP.last (b := 279) rfl
  refine va_callv (va_runI (As := []) (rest := [.ref (B0 + 279)]) ⟨hx, hb, hml, hown, hts⟩ (n7_init l (D := D) (G := G) (B0 + 279)) (cwI 0 hts gL_law_X7_init rfl rfl rfl (st_t hts 8 (by decide +kernel)) (st_t hts 1085 (by decide +kernel)) (st_t hts 1086 (by decide +kernel)) rfl (by decide +kernel) ⟨(Nat.le_of_ble_eq_true rfl), (Nat.le_of_ble_eq_true rfl)⟩) ⟨hc_blind, hc_pre hK hNI hPc⟩ rfl rfl hl.1 rfl (lv_room (Nat.le_of_ble_eq_true rfl)) dL_law_12 ⟨(Nat.le_of_ble_eq_true rfl), (Nat.le_of_ble_eq_true rfl)⟩) hS (fun q _ h => Nat.le_trans (Nat.le_add_right _ _) h) (fun q h => Nat.le_trans (Nat.le_add_right _ _) h) (fun u9 t H locs ht hvm hw9 hB hz1 hk1 hS => ?_)
  have hB : cP D (B0 + 279) 11 (w7 G (B0 + 279)) H := by rw [← ht]; exact hB
  have hP := hP.call (b := 279) hB hk1
  obtain ⟨F, hF⟩ : ∃ z, z = cj (va_up (w6 G B0) 279 (.inr (9, [.int 0, .null, .null, .null, .null, .null, .null, .null, .int 0, .int 0, .null, .null, .null, .int 0, .int 0, .int 0, .int 0]))) 279 (w7 G (B0 + 279)) := ⟨_, rfl⟩
  rw [← hF] at hP
  have hP : cP D B0 290 F H := hP
  refine lv_astore_n (lv' := [(2, .ref (B0 + 279)), (1, .ref B0), (0, .ref b)]) hx hb dL_law_15 rfl hl (by decide) rfl (fun ls hl => ?_)
  refine lv_iconst (v := 1) hx hb dL_law_16 (by decide) ?_
  refine c_newx (ty := .long) (cA := cL) (N := 1) (a0 := (1, .inr (.inl (fun _ => 0)))) hx hb rfl (st_t hts 1525 (by decide +kernel)) (fun h => h) hKo hP hS (fun _ => rfl) (by decide) (by decide) (Nat.le_of_ble_eq_true rfl) (Nat.le_of_ble_eq_true rfl) (Nat.le_of_ble_eq_true rfl) dL_law_17 (fun H hP hS => ?_)
  refine lv_astore_n (lv' := [(3, .ref (B0 + 290)), (2, .ref (B0 + 279)), (1, .ref B0), (0, .ref b)]) hx hb dL_law_19 rfl hl (by decide) rfl (fun ls hl => ?_)
  refine lv_iconst (v := 1) hx hb dL_law_20 (by decide) ?_
  refine c_newx (ty := .double) (cA := cD) (N := 1) (a0 := (1, .inr (.inr (.inr (.inl (fun _ => 0)))))) hx hb rfl (st_t hts 1526 (by decide +kernel)) (fun h => h) hKd hP hS (fun _ => rfl) (by decide) (by decide) (Nat.le_of_ble_eq_true rfl) (Nat.le_of_ble_eq_true rfl) (Nat.le_of_ble_eq_true rfl) dL_law_21 (fun H hP hS => ?_)
  refine lv_astore (lv' := [(4, .ref (B0 + 291)), (3, .ref (B0 + 290)), (2, .ref (B0 + 279)), (1, .ref B0), (0, .ref b)]) hx hb dL_law_23 hl (by decide) rfl (fun ls hl => ?_)
  refine lv_iconst (v := 0) hx hb dL_law_25 (by decide) ?_
  refine lv_istore (lv' := [(5, .int (nI 0)), (4, .ref (B0 + 291)), (3, .ref (B0 + 290)), (2, .ref (B0 + 279)), (1, .ref B0), (0, .ref b)]) hx hb dL_law_26 hl (by decide) rfl (fun ls hl => ?_)
  have h6 : ∀ t, t < 279 → va_at D vwCl (B0 + t, w6 G B0 t) H := fun t ht => by
    have h := hP.2 t (by omega)
    rw [va_up_ne _ _ (by omega : t ≠ 291), va_up_ne _ _ (by omega : t ≠ 290), hF] at h
    unfold cj at h
    rw [if_pos ht, va_up_ne _ _ (by omega : t ≠ 279)] at h
    exact h
  have h7 : ∀ t, t < 11 → va_at D vwCl (B0 + 279 + t, w7 G (B0 + 279) t) H := fun t ht => by
    have h := hP.2 (279 + t) (by omega)
    rw [va_up_ne _ _ (by omega : 279 + t ≠ 291), va_up_ne _ _ (by omega : 279 + t ≠ 290), hF] at h
    unfold cj at h
    rw [if_neg (by omega), show 279 + t - 279 = t by omega] at h
    rw [Nat.add_assoc]
    exact h
  have hPo : va_P D vwCl [(B0 + 290, .inl (cL, 1, .inr (.inl (fun _ => 0))))] H := one_P (by
    have h := hP.2 290 (by decide)
    rw [va_up_ne _ _ (by decide : 290 ≠ 291), va_up_self] at h
    exact h)
  have hPd : va_P D vwCl [(B0 + 291, .inl (cD, 1, .inr (.inr (.inr (.inl (fun _ => 0))))))] H := one_P (by
    have h := hP.2 291 (by decide)
    rw [va_up_self] at h
    exact h)
  have e1 : adH B0 270 = B0 := rfl
  have e2 : adH B0 279 = B0 + 279 := rfl
  refine law_loop hl0 hx hb hr hlocks hml hown hts hLA hL 512 0 _ _ 383 σ00 (fun _ => 0) (fun _ => 0) H locs ls (by omega) (Nat.zero_le _) (by decide) (by decide) (by decide) ⟨pool_start h6 h7, hPo, hPd, top_start, ok_start⟩ hS (by rw [e1, e2]; exact hl)
set_option maxHeartbeats 4000000 in
theorem lw_walk (l : Launch) (hflags : l.flags = flags0) (b : Addr) (xs : List Int32) : MetFree l x (headSpec (Jvm.Cond.code x code maxLocals ret :: tables_1) room_1) (lw_P b xs) (fun _ _ _ _ _ => True) lw_Q := by
  refine MetFree.of_bodyS (code := code) (maxLocals := maxLocals) (ret := ret) (by decide) ?_ ?_
  · intro args s m h hn
    obtain ⟨meth, c, h1, h2, h3, h4, h5, h6, -, -⟩ := Cond.code_spec hn (atoms_spec (ws := Jvm.Cond.code x code maxLocals ret :: tables_1) h _ List.mem_cons_self)
    exact ⟨meth, c, h1, h2, h3, h4, h5, h6⟩
  · intro p e s m args below meth c s₁ B hml0 hP _
    obtain ⟨rfl, hx, hbd, hgv⟩ := hP
    obtain ⟨scr, harrAt, hlist, hof, hsmall⟩ := hx
    obtain ⟨hcb, hkn, -, -⟩ := State.arrayAt?_spec harrAt
    have hown : s.vm.findClass R_law = some m.cls := findClass_of_methodNamed B.named
    have hts0 : ∀ c ∈ (Jvm.Cond.code x code maxLocals ret :: tables_1), c.before #[Value.ref b] s = true := atoms_spec (ws := Jvm.Cond.code x code maxLocals ret :: tables_1) B.pre
    have hts : ∀ w ∈ lw_tbl, w.before #[Value.ref b] s = true := k2_hts_sels lw_privs (fun w hw => hts0 w (List.mem_cons_of_mem _ hw)) lw_privs_ok
    have hml : c.maxLocals = 8 := B.maxLocals_eq (hts0 _ List.mem_cons_self)
    have X₀ : Stand p l e room_1 s m #[Value.ref b] below meth c s₁ [] 0 0 := Stand.of_body B
    have hh0 : s₁.heap = s.heap := by rw [B.state]; rfl
    have hsz : scr.slots.size = xs.length := by rw [← Array.length_toList, hlist, List.length_map]
    have hval : ∀ j : Nat, j < xs.length → scr.slots[j]? = some (.int (xs.getD j 0)) := fun j hj => by
      rw [← Array.getElem?_toList, hlist]
      simp [hj]
    have hbl : b < s.heap.size := (Array.getElem?_eq_some_iff.mp hcb).1
    have hX : va_X b xs.length (fun j => xs.getD j 0) s s.heap := ⟨scr, hcb, hof, hkn, hsz, hval⟩
    have K : W p l e room_1 s m #[Value.ref b] below meth c s₁.heap [] 0 0 (lw_Z below #[Value.ref b] s) (entryFrame m ([Value.ref b] : List Value).toArray 8) := by
      rw [hh0]
      exact whole_start l hflags hbd ⟨B.exec, B.bytes, B.returns, hml, hown, hts, hX, hbl, B.notSynchronized, hgv⟩
    obtain ⟨t, a1, o, b1, b2, b3⟩ := K s₁ rfl X₀
    exact ⟨t, o, a1, b1, b2, b3⟩
theorem lw_pre_spec {args : Array Value} {s : State} (h : (Jvm.Cond.and given_1 narrow_1).before args s = true) (hr : rest_1_c.before args s = true) : ∃ (b : Addr) (xs : List Int32), lw_P b xs args s := by
  have hs := flat_of_before _ h
  have hq := flat_of_before _ hr
  have hc : (Cond.count 1).before args s = true := hs _ (by decide +kernel)
  have harr : (Cond.arrayOf (.arg 0) .int).before args s = true := hs _ (by decide +kernel)
  have hle : (Cond.le (.length (.arg 0)) (.int 3584)).before args s = true := hs _ (by decide +kernel)
  have hlen : (Cond.isInt (.length (.arg 0))).before args s = true := hq _ (by decide +kernel)
  have hall : (Cond.all (.arg 0) (.isInt (.elem (.arg 0) (.index 0)))).before args s = true := hq _ (by decide +kernel)
  obtain ⟨b, xs, hb, hx⟩ := State.ints_of_pre rfl harr hlen hall
  have hsm : xs.length < 2 ^ 31 := hx.choose_spec.2.2.2
  have hev : (Term.length (.arg 0)).eval args s none [] s = some (.int xs.length.toInt32) := hx.length_eval hb
  have hv := Cond.le_ints hev (show (Term.int 3584).eval args s none [] s = some (.int 3584) from rfl)
  have hd : xs.length.toInt32 ≤ 3584 := by
    simpa [Cond.before, Cond.holds, hv] using hle
  have hN : xs.length ≤ 3584 := (Int32.ofNat_le_ofNat hsm (by decide)).mp (show Int32.ofNat xs.length ≤ Int32.ofNat 3584 from hd)
  exact ⟨b, xs, Cond.one_arg hc (show args[0]? = some (.ref b) from hb), hx, hN, h⟩
theorem lw_comes (l : Launch) (hflags : l.flags = flags0) : Comes l x (Jvm.Cond.code x code maxLocals ret :: tables_1) room_1 (fun tb e args s => Calls_1 tb e args s ∧ rest_1 tb e args s ∧ Pre_1 tb e args s)
    (fun _ _ args s o t => lw_Q args s o t) := by
  intro p e ha hc hk s m args below hf hfit hheap happ hpre
  obtain ⟨b, xs, hP⟩ := lw_pre_spec hpre.2.2 hpre.2.1
  obtain ⟨k, o, h1, h2, h3, hQ⟩ := lw_walk l hflags b xs p e ha hc hk s m args below hf ((Spec.applies_iff_loose hf).mp happ).1 hP trivial
  exact ⟨k, o, h1, h2, h3, hQ⟩
theorem lw_frame {s t : State} {o : Outcome} {args : Array Value} (h : State.butDraws s t lw_cs (fun t1 => Framed s o t1 [] 603072 7207018)) :
    State.butDraws s t [Jvm.Choice.named "NaN.bits"] (fun t1 => Framed s o t1 (fieldLocs frame_1_writes args s ++ arrayLocs frame_1_arrays args s ++ staticLocs frame_1_statics s) 603072 7207018) := h
theorem lw_limb (L : Cond) (hL : ∀ (args : Array Value) (s t : State), L.after args s (.returned (some (.int 1))) t = true) :
    ArmFor flags0 classFile x code maxLocals ret World_1 tables_1 room_1 Calls_1 rest_1 Pre_1
      (fun tb e a s o t => postC L tb e a s o t ∧ State.butDraws s t [Jvm.Choice.named "NaN.bits"] (fun t1 => Framed s o t1 (fieldLocs frame_1_writes a s ++ arrayLocs frame_1_arrays a s ++ staticLocs frame_1_statics s) 603072 7207018)) := by
  intro l hflags _ _ p e ha hc hk s m args below hf hfit hheap happ hpre
  obtain ⟨k, o, h1, h2, h3, rfl, hF⟩ := lw_comes l hflags p e ha hc hk s m args below hf hfit hheap happ hpre
  exact ⟨k, _, h1, h2, h3, hL args s _, lw_frame hF⟩
theorem i_vc : Claimed_1_1 ∧ Claimed_1_2 := ⟨lw_limb limb_1_1 (fun args s t => by simp [limb_1_1, Cond.after, Cond.holds, Cond.value]), lw_limb limb_1_2 (fun args s t => Cond.after_iff.mpr (by
  first | (rw [show limb_1_2 = Cond.eq .result (.int 1) from rfl, Cond.eq_ints (x := 1) (y := 1) rfl rfl]; simp; done) | (simp [limb_1_2, Cond.value, Term.eval]; done)))⟩

