/-! AT THE LAW'S ENTRY: what the tables and the Statement say of the start -/
def nrW : List Cond := [(.arrayOf (.static "TileRunners" "FIRST_SETTINGS" "[I") .int), (.eq (.length (.static "TileRunners" "FIRST_SETTINGS" "[I")) (.int (4 : Int32))), (.eq (.elem (.static "TileRunners" "FIRST_SETTINGS" "[I") (.int (0 : Int32))) (.int (5 : Int32))), (.eq (.elem (.static "TileRunners" "FIRST_SETTINGS" "[I") (.int (1 : Int32))) (.int (10 : Int32))), (.eq (.elem (.static "TileRunners" "FIRST_SETTINGS" "[I") (.int (2 : Int32))) (.int (4 : Int32))), (.eq (.elem (.static "TileRunners" "FIRST_SETTINGS" "[I") (.int (3 : Int32))) (.int (3 : Int32))), (.isRef (.static "java/lang/Throwable" "UNASSIGNED_STACK" "[Ljava/lang/StackTraceElement;")), (.isRef (.static "java/lang/Throwable" "SUPPRESSED_SENTINEL" "Ljava/util/List;")), (.arrayOf (.static "TileRunners" "LEAST_SETTINGS" "[I") .int), (.eq (.length (.static "TileRunners" "LEAST_SETTINGS" "[I")) (.int (4 : Int32))), (.eq (.elem (.static "TileRunners" "LEAST_SETTINGS" "[I") (.int (0 : Int32))) (.int (1 : Int32))), (.eq (.elem (.static "TileRunners" "LEAST_SETTINGS" "[I") (.int (1 : Int32))) (.int (5 : Int32))), (.eq (.elem (.static "TileRunners" "LEAST_SETTINGS" "[I") (.int (2 : Int32))) (.int (0 : Int32))), (.eq (.elem (.static "TileRunners" "LEAST_SETTINGS" "[I") (.int (3 : Int32))) (.int (1 : Int32))), (.arrayOf (.static "TileRunners" "GREATEST_SETTINGS" "[I") .int), (.eq (.length (.static "TileRunners" "GREATEST_SETTINGS" "[I")) (.int (4 : Int32))), (.eq (.elem (.static "TileRunners" "GREATEST_SETTINGS" "[I") (.int (0 : Int32))) (.int (10 : Int32))), (.eq (.elem (.static "TileRunners" "GREATEST_SETTINGS" "[I") (.int (1 : Int32))) (.int (16 : Int32))), (.eq (.elem (.static "TileRunners" "GREATEST_SETTINGS" "[I") (.int (2 : Int32))) (.int (10 : Int32))), (.eq (.elem (.static "TileRunners" "GREATEST_SETTINGS" "[I") (.int (3 : Int32))) (.int (10 : Int32))), (.eq (.static "java/lang/String" "COMPACT_STRINGS" "Z") (.int (1 : Int32))), (.isRef (.static "jdk/internal/util/Preconditions" "SIOOBE_FORMATTER" "Ljava/util/function/BiFunction;")), (.arrayOf (.static "TileRunners" "INPUT_KEYS" "[I") .int), (.eq (.length (.static "TileRunners" "INPUT_KEYS" "[I")) (.int (8 : Int32))), (.eq (.elem (.static "TileRunners" "INPUT_KEYS" "[I") (.int (0 : Int32))) (.int (0 : Int32))), (.eq (.elem (.static "TileRunners" "INPUT_KEYS" "[I") (.int (1 : Int32))) (.int (1 : Int32))), (.eq (.elem (.static "TileRunners" "INPUT_KEYS" "[I") (.int (2 : Int32))) (.int (2 : Int32))), (.eq (.elem (.static "TileRunners" "INPUT_KEYS" "[I") (.int (3 : Int32))) (.int (4 : Int32))), (.eq (.elem (.static "TileRunners" "INPUT_KEYS" "[I") (.int (4 : Int32))) (.int (8 : Int32))), (.eq (.elem (.static "TileRunners" "INPUT_KEYS" "[I") (.int (5 : Int32))) (.int (5 : Int32))), (.eq (.elem (.static "TileRunners" "INPUT_KEYS" "[I") (.int (6 : Int32))) (.int (6 : Int32))), (.eq (.elem (.static "TileRunners" "INPUT_KEYS" "[I") (.int (7 : Int32))) (.int (12 : Int32))), (.not (.castable "java/lang/IllegalArgumentException" "java/lang/IndexOutOfBoundsException")), (.not (.castable "java/lang/IllegalStateException" "java/lang/IndexOutOfBoundsException")), (.not (.castable "java/util/NoSuchElementException" "java/lang/IndexOutOfBoundsException")), (.not (.castable "java/lang/ArithmeticException" "java/lang/IndexOutOfBoundsException")), (.not (.castable "java/lang/UnsupportedOperationException" "java/lang/IndexOutOfBoundsException")), (.not (.castable "java/lang/IllegalStateException" "java/lang/IllegalArgumentException")), (.not (.castable "java/util/NoSuchElementException" "java/lang/IllegalArgumentException")), (.not (.castable "java/lang/UnsupportedOperationException" "java/lang/IllegalArgumentException")), (.exactly (.string "TileRunners" (304 : Nat)) "java/lang/String"), (.exactly (.string "TileRunners" (298 : Nat)) "java/lang/String"), (.exactly (.string "TileRunners" (314 : Nat)) "java/lang/String"), (.exactly (.string "TileRunners" (97 : Nat)) "java/lang/String"), (.exactly (.string "TileRunners" (116 : Nat)) "java/lang/String"), (.exactly (.string "TileRunners" (306 : Nat)) "java/lang/String"), (.exactly (.string "TileRunners" (147 : Nat)) "java/lang/String"), (.exactly (.string "TileRunners" (308 : Nat)) "java/lang/String"), (.exactly (.string "TileRunners" (170 : Nat)) "java/lang/String"), (.exactly (.string "TileRunners" (195 : Nat)) "java/lang/String"), (.exactly (.string "TileRunners" (201 : Nat)) "java/lang/String"), (.exactly (.string "TileRunners" (247 : Nat)) "java/lang/String"), (.exactly (.string "TileRunners" (254 : Nat)) "java/lang/String"), (.exactly (.string "TileRunners$Text" (26 : Nat)) "java/lang/String"), (.eq (.field (.string "TileRunners$Text" (26 : Nat)) "java/lang/String" "coder" "B") (.int (0 : Int32))), (.arrayOf (.field (.string "TileRunners$Text" (26 : Nat)) "java/lang/String" "value" "[B") .byte), (.eq (.length (.field (.string "TileRunners$Text" (26 : Nat)) "java/lang/String" "value" "[B")) (.int (11 : Int32))), (.eq (.elem (.field (.string "TileRunners$Text" (26 : Nat)) "java/lang/String" "value" "[B") (.int (0 : Int32))) (.int (46 : Int32))), (.eq (.elem (.field (.string "TileRunners$Text" (26 : Nat)) "java/lang/String" "value" "[B") (.int (1 : Int32))) (.int (35 : Int32))), (.eq (.elem (.field (.string "TileRunners$Text" (26 : Nat)) "java/lang/String" "value" "[B") (.int (2 : Int32))) (.int (61 : Int32))), (.eq (.elem (.field (.string "TileRunners$Text" (26 : Nat)) "java/lang/String" "value" "[B") (.int (3 : Int32))) (.int (47 : Int32))), (.eq (.elem (.field (.string "TileRunners$Text" (26 : Nat)) "java/lang/String" "value" "[B") (.int (4 : Int32))) (.int (92 : Int32))), (.eq (.elem (.field (.string "TileRunners$Text" (26 : Nat)) "java/lang/String" "value" "[B") (.int (5 : Int32))) (.int (105 : Int32))), (.eq (.elem (.field (.string "TileRunners$Text" (26 : Nat)) "java/lang/String" "value" "[B") (.int (6 : Int32))) (.int (62 : Int32))), (.eq (.elem (.field (.string "TileRunners$Text" (26 : Nat)) "java/lang/String" "value" "[B") (.int (7 : Int32))) (.int (60 : Int32))), (.eq (.elem (.field (.string "TileRunners$Text" (26 : Nat)) "java/lang/String" "value" "[B") (.int (8 : Int32))) (.int (94 : Int32))), (.eq (.elem (.field (.string "TileRunners$Text" (26 : Nat)) "java/lang/String" "value" "[B") (.int (9 : Int32))) (.int (120 : Int32))), (.eq (.elem (.field (.string "TileRunners$Text" (26 : Nat)) "java/lang/String" "value" "[B") (.int (10 : Int32))) (.int (111 : Int32))), (.exactly (.string "TileRunners" (263 : Nat)) "java/lang/String"), (.exactly (.string "TileRunners$Text" (40 : Nat)) "java/lang/String"), (.eq (.field (.string "TileRunners$Text" (40 : Nat)) "java/lang/String" "coder" "B") (.int (0 : Int32))), (.arrayOf (.field (.string "TileRunners$Text" (40 : Nat)) "java/lang/String" "value" "[B") .byte), (.eq (.length (.field (.string "TileRunners$Text" (40 : Nat)) "java/lang/String" "value" "[B")) (.int (8 : Int32))), (.eq (.elem (.field (.string "TileRunners$Text" (40 : Nat)) "java/lang/String" "value" "[B") (.int (0 : Int32))) (.int (110 : Int32))), (.eq (.elem (.field (.string "TileRunners$Text" (40 : Nat)) "java/lang/String" "value" "[B") (.int (1 : Int32))) (.int (108 : Int32))), (.eq (.elem (.field (.string "TileRunners$Text" (40 : Nat)) "java/lang/String" "value" "[B") (.int (2 : Int32))) (.int (114 : Int32))), (.eq (.elem (.field (.string "TileRunners$Text" (40 : Nat)) "java/lang/String" "value" "[B") (.int (3 : Int32))) (.int (106 : Int32))), (.eq (.elem (.field (.string "TileRunners$Text" (40 : Nat)) "java/lang/String" "value" "[B") (.int (4 : Int32))) (.int (100 : Int32))), (.eq (.elem (.field (.string "TileRunners$Text" (40 : Nat)) "java/lang/String" "value" "[B") (.int (5 : Int32))) (.int (76 : Int32))), (.eq (.elem (.field (.string "TileRunners$Text" (40 : Nat)) "java/lang/String" "value" "[B") (.int (6 : Int32))) (.int (82 : Int32))), (.eq (.elem (.field (.string "TileRunners$Text" (40 : Nat)) "java/lang/String" "value" "[B") (.int (7 : Int32))) (.int (68 : Int32))), (.not (.eq (.string "TileRunners$Text" (26 : Nat)) (.string "TileRunners$Text" (40 : Nat)))), (.exactly (.string "TileRunners" (276 : Nat)) "java/lang/String"), (.exactly (.string "TileRunners" (294 : Nat)) "java/lang/String"), (.exactly (.static "TileRunners" "FIRST_SETTINGS" "[I") "[I"), (.exactly (.static "TileRunners" "LEAST_SETTINGS" "[I") "[I"), (.exactly (.static "TileRunners" "GREATEST_SETTINGS" "[I") "[I"), (.exactly (.static "TileRunners" "INPUT_KEYS" "[I") "[I")]
set_option maxRecDepth 100000 in
theorem nr_in : nrW.Sublist (flatC (.and given_1 narrow_1)) := by decide +kernel
theorem st_t {args : Array Value} {s : State} (hts : ∀ w ∈ lw_tbl, w.before args s = true) {w : Cond} (n : Nat) (h : tables_1[n]? = some w) : w.before args s = true := hts w (List.mem_append_right _ (List.mem_of_getElem? h))
theorem st_n {args : Array Value} {s : State} (hgv : (Cond.and given_1 narrow_1).before args s = true) {w : Cond} (n : Nat) (h : nrW[n]? = some w) : w.before args s = true := flat_of_before _ hgv w (nr_in.subset (List.mem_of_getElem? h))
theorem st_arrP {args : Array Value} {s : State} {ty : FieldType} (h : (Cond.arrayClass ty).before args s = true) : ∃ c, ArrOfT s c ty ∧ s.vm.findClass ("[" ++ ty.toString) = some c := by
  obtain ⟨c, k, comp, h1, h2, h3⟩ := Cond.arrayClass_spec (args := args) (first := s) (o := none) (s := s) (idx := []) h
  exact ⟨c, fun N z => ⟨(fun k h => by cases h), k, h2, comp, h3⟩, h1⟩
theorem st_arrO {args : Array Value} {s : State} {C : String} (h : (Cond.arrayOver (.object C)).before args s = true) : ∃ c, ArrOfT s c (.object C) ∧ va_RA s c (.object C) := by
  obtain ⟨comp, c, k, h1, -, h2, h3, h4⟩ := Cond.arrayOver_spec (args := args) (first := s) (o := none) (s := s) (idx := []) h
  exact ⟨c, fun N z => ⟨(fun k h => by cases h), k, h2, comp, h3⟩, k, comp, h2, h3, h1, h4⟩
theorem st_D {s : State} : ∀ (cl : List vw_C), (∀ q ∈ cl, ∃ (cC : ClassId) (iS : Nat → Nat), u_Kn s q.1 q.2.1 q.2.2 cC iS) → ∃ D : va_G, ∀ (c : Nat) (q : vw_C), cl[c]? = some q → u_Kn s q.1 q.2.1 q.2.2 (D.1 c) (D.2 c) := by
  intro cl h
  have h0 : ∀ c : Nat, ∃ z : ClassId × (Nat → Nat), ∀ q : vw_C, cl[c]? = some q → u_Kn s q.1 q.2.1 q.2.2 z.1 z.2 := by
    intro c
    by_cases hc : c < cl.length
    · obtain ⟨cC, iS, hk⟩ := h _ (List.getElem_mem hc)
      refine ⟨(cC, iS), fun q hq => ?_⟩
      rw [List.getElem?_eq_getElem hc] at hq
      cases hq
      exact hk
    · refine ⟨(0, fun _ => 0), fun q hq => ?_⟩
      rw [List.getElem?_eq_none (Nat.le_of_not_lt hc)] at hq
      cases hq
  obtain ⟨z, hz⟩ := Classical.axiomOfChoice h0
  exact ⟨(fun c => (z c).1, fun c => (z c).2), fun c q hq => hz c q hq⟩
theorem st_K {D : va_G} {s : State} {tys : List (ClassId × FieldType)} (hD : ∀ (c : Nat) (q : vw_C), vwCl[c]? = some q → u_Kn s q.1 q.2.1 q.2.2 (D.1 c) (D.2 c)) (h : ∀ q ∈ tys, ArrOfT s q.1 q.2 ∧ va_RA s q.1 q.2) : va_K D vwCl tys s := ⟨hD, fun _ q hk => h q (List.mem_of_getElem? hk)⟩
theorem st_HA {args : Array Value} {s : State} {A : Nat → Prop} {n : String} {N : Nat} {f : Nat → Int32} (hN : N < 2 ^ 31) (hl : (Cond.laysStatic RX6 n "[I").before args s = true) (hini : (Cond.initialized RX6).before args s = true) (harr : (Cond.arrayOf (.static RX6 n "[I") .int).before args s = true) (hlen : (Cond.eq (.length (.static RX6 n "[I")) (.int (Int32.ofNat N))).before args s = true) (hel : ∀ j : Nat, j < N → (Cond.eq (.elem (.static RX6 n "[I") (.int (Int32.ofNat j))) (.int (f j))).before args s = true) (hA : ∀ a : Nat, a < s.heap.size → ¬ A a) : ∃ t : Nat, va_Z RX6 n "[I" (.ref t) A s s.heap ∧ va_T .int t N (fun j => .int (f j)) A s s.heap := by
  obtain ⟨t, ht, hT⟩ := va_Tof (f := fun j => .int (f j)) hN harr (va_eqt hlen) (fun j hj => va_eqt (hel j hj)) hA
  exact ⟨t, va_Zof hl hini ht hA, hT⟩
theorem st_len {args : Array Value} {s : State} {tm : Term} {v : Value} (h : (Term.length tm).eval args s none [] s = some v) {t : Nat} {cell : Cell} (ht : tm.eval args s none [] s = some (.ref t)) (hat : s.arrayAt? t = some cell) : cell.slots.size < 2 ^ 31 := by
  by_cases hs : cell.slots.size < 2 ^ 31
  · exact hs
  · have hs2 : ¬ cell.slots.size < 2147483648 := hs
    simp [Term.eval, ht, hat, hs2] at h
theorem st_FS {args : Array Value} {s : State} {A : Nat → Prop} (hl : (Cond.laysStatic RX6 "FIRST_SETTINGS" "[I").before args s = true) (hini : (Cond.initialized RX6).before args s = true) (harr : (Cond.arrayOf (.static RX6 "FIRST_SETTINGS" "[I") .int).before args s = true) (hlen : (Cond.eq (.length (.static RX6 "FIRST_SETTINGS" "[I")) (.int (Int32.ofNat 4))).before args s = true) (hel : ∀ j : Nat, j < 4 → (Cond.eq (.elem (.static RX6 "FIRST_SETTINGS" "[I") (.int (Int32.ofNat j))) (.int (fsS j))).before args s = true) (hex : (Cond.exactly (.static RX6 "FIRST_SETTINGS" "[I") "[I").before args s = true) (hA : ∀ a : Nat, a < s.heap.size → ¬ A a) : FSt A s s.heap := by
  obtain ⟨t, cell, ht, hat, -⟩ := Term.length_spec (va_eqt hlen)
  obtain ⟨hcell, hkn, -, -⟩ := State.arrayAt?_spec hat
  obtain ⟨t2, ht2, cell2, c1, c2, c3, c4, c5, c6, c7⟩ := va_Tof (f := fun j => .int (fsS j)) (by decide) harr (va_eqt hlen) (fun j hj => va_eqt (hel j hj)) hA
  cases ht.symm.trans ht2
  cases hcell.symm.trans c1
  have hlt := st_len (va_eqt hlen) ht hat
  have hsz : cell.slots.size = 4 := by
    have e := congrArg Int32.toNatClampNeg c5
    rw [show cell.slots.size.toInt32 = Int32.ofNat cell.slots.size from rfl, Int32.toNatClampNeg_ofNat_of_lt hlt] at e
    exact e
  have hsl : cell.slots = #[.int 5, .int 10, .int 4, .int 3] := by
    refine Array.ext hsz (fun i h1 h2 => ?_)
    have e := c6 i (by omega)
    rw [Array.getElem?_eq_getElem h1] at e
    rw [Option.some.inj e]
    have h2 : i < 4 := by omega
    match i, h2 with
    | 0, _ => rfl
    | 1, _ => rfl
    | 2, _ => rfl
    | 3, _ => rfl
  obtain ⟨a, c, cell3, k, q1, q2, q3, -, -, q6, -⟩ := Cond.exactly_spec (args := args) (first := s) (o := none) (s := s) (idx := []) hex
  cases ht.symm.trans q1
  cases hcell.symm.trans q3
  exact ⟨t, cell, va_Zof hl hini ht hA, hcell, c7, c2, hkn, hsl, by rw [q6]; exact q2⟩
theorem st_R {args : Array Value} {s : State} {k : Nat} {tx : String} (h1 : (Cond.stringRef RX6 k tx).before args s = true) (h2 : (Cond.exactly (.string RX6 k) "java/lang/String").before args s = true) : ∃ a, vk_R RX6 k tx a s := by
  obtain ⟨a, -, -, -, q1, -⟩ := Cond.exactly_spec (args := args) (first := s) (o := none) (s := s) (idx := []) h2
  exact ⟨a, vk_R.of h1 q1⟩
set_option maxRecDepth 100000 in
theorem st_inJ0 : ∀ w ∈ u_ws RJ0 TJ0 2, w ∈ lw_tbl := by decide +kernel
set_option maxRecDepth 100000 in
theorem st_inJx00060 : ∀ w ∈ u_ws RJx00060 TJx00060 6, w ∈ lw_tbl := by decide +kernel
set_option maxRecDepth 100000 in
theorem st_inX0 : ∀ w ∈ u_ws RX0 TX0 16, w ∈ lw_tbl := by decide +kernel
set_option maxRecDepth 100000 in
theorem st_inX1 : ∀ w ∈ u_ws RX1 TX1 3, w ∈ lw_tbl := by decide +kernel
set_option maxRecDepth 100000 in
theorem st_inX2 : ∀ w ∈ u_ws RX2 TX2 7, w ∈ lw_tbl := by decide +kernel
set_option maxRecDepth 100000 in
theorem st_inX3 : ∀ w ∈ u_ws RX3 TX3 5, w ∈ lw_tbl := by decide +kernel
set_option maxRecDepth 100000 in
theorem st_inX4 : ∀ w ∈ u_ws RX4 TX4 1, w ∈ lw_tbl := by decide +kernel
set_option maxRecDepth 100000 in
theorem st_inX5 : ∀ w ∈ u_ws RX5 TX5 7, w ∈ lw_tbl := by decide +kernel
set_option maxRecDepth 100000 in
theorem st_inX6 : ∀ w ∈ u_ws RX6 TX6 9, w ∈ lw_tbl := by decide +kernel
set_option maxRecDepth 100000 in
theorem st_inX7 : ∀ w ∈ u_ws RX7 TX7 17, w ∈ lw_tbl := by decide +kernel
set_option maxRecDepth 100000 in
theorem st_cl {args : Array Value} {s : State} (hts : ∀ w ∈ lw_tbl, w.before args s = true) : ∀ q ∈ vwCl, ∃ (cC : ClassId) (iS : Nat → Nat), u_Kn s q.1 q.2.1 q.2.2 cC iS := List.forall_mem_cons.mpr ⟨u_known (n := 4) hts st_inJ0 (st_t hts 383 (by decide +kernel)), List.forall_mem_cons.mpr ⟨u_known (n := 6) hts st_inJx00060 (st_t hts 310 (by decide +kernel)), List.forall_mem_cons.mpr ⟨u_known (n := 16) hts st_inX0 (st_t hts 54 (by decide +kernel)), List.forall_mem_cons.mpr ⟨u_known (n := 3) hts st_inX1 (st_t hts 196 (by decide +kernel)), List.forall_mem_cons.mpr ⟨u_known (n := 7) hts st_inX2 (st_t hts 129 (by decide +kernel)), List.forall_mem_cons.mpr ⟨u_known (n := 5) hts st_inX3 (st_t hts 216 (by decide +kernel)), List.forall_mem_cons.mpr ⟨u_known (n := 1) hts st_inX4 (st_t hts 40 (by decide +kernel)), List.forall_mem_cons.mpr ⟨u_known (n := 7) hts st_inX5 (st_t hts 34 (by decide +kernel)), List.forall_mem_cons.mpr ⟨u_known (n := 9) hts st_inX6 (st_t hts 26 (by decide +kernel)), List.forall_mem_cons.mpr ⟨u_known (n := 17) hts st_inX7 (st_t hts 1084 (by decide +kernel)), fun _ h => absurd h List.not_mem_nil⟩⟩⟩⟩⟩⟩⟩⟩⟩⟩
set_option maxRecDepth 100000 in
theorem st_XL1 : ∀ q ∈ XL, Cond.stringRef RX6 q.1 q.2 ∈ lw_tbl := by decide +kernel
set_option maxRecDepth 100000 in
theorem st_XL2 : ∀ q ∈ XL, Cond.exactly (.string RX6 q.1) "java/lang/String" ∈ nrW := by decide +kernel
set_option maxRecDepth 100000 in
theorem st_XE : ∀ x ∈ XEs, Cond.castable x x ∈ lw_tbl := by decide +kernel
set_option maxRecDepth 100000 in
theorem st_XD : ∀ x ∈ XD, Cond.declares (Bundle.initS x) ∈ lw_tbl := by decide +kernel
theorem st_HW {args : Array Value} {s : State} (hts : ∀ w ∈ lw_tbl, w.before args s = true) (hgv : (Cond.and given_1 narrow_1).before args s = true) : HW XEs s :=
  ⟨fun q hq => st_R (hts _ (st_XL1 q hq)) (flat_of_before _ hgv _ (nr_in.subset (st_XL2 q hq))), fun x hx => va_Nw.of rfl (hts _ (st_XE x hx)), fun x hx => va_Nw.of rfl (hts _ (st_XD x hx))⟩
theorem st_NW {args : Array Value} {s : State} (hts : ∀ w ∈ lw_tbl, w.before args s = true) : NW s := ⟨va_Nw.of rfl (st_t hts 444 (by decide +kernel)), va_Nw.of rfl (st_t hts 470 (by decide +kernel)), va_Nw.of rfl (st_t hts 473 (by decide +kernel)), va_Nw.of rfl (st_t hts 888 (by decide +kernel)), va_Nw.of rfl (st_t hts 893 (by decide +kernel))⟩
theorem st_NI {args : Array Value} {s : State} (hts : ∀ w ∈ lw_tbl, w.before args s = true) : NI s := ⟨va_AO.of (st_t hts 51 (by decide +kernel)), va_AO.of (st_t hts 53 (by decide +kernel)), va_AO.of (st_t hts 202 (by decide +kernel)), va_Nw.of rfl (st_t hts 41 (by decide +kernel)), va_Nw.of rfl (st_t hts 55 (by decide +kernel)), va_Nw.of rfl (st_t hts 130 (by decide +kernel)), va_Nw.of rfl (st_t hts 217 (by decide +kernel)), va_Nw.of rfl (st_t hts 193 (by decide +kernel))⟩
theorem st_NC {args : Array Value} {s : State} (hgv : (Cond.and given_1 narrow_1).before args s = true) : NCx s := ⟨va_Nc.of (st_n hgv 32 (by decide +kernel)), va_Nc.of (st_n hgv 33 (by decide +kernel)), va_Nc.of (st_n hgv 37 (by decide +kernel)), va_Nc.of (st_n hgv 34 (by decide +kernel)), va_Nc.of (st_n hgv 38 (by decide +kernel)), va_Nc.of (st_n hgv 35 (by decide +kernel)), va_Nc.of (st_n hgv 36 (by decide +kernel)), va_Nc.of (st_n hgv 39 (by decide +kernel))⟩
theorem st_HT {args : Array Value} {s : State} {B0 : Nat} (hts : ∀ w ∈ lw_tbl, w.before args s = true) (hgv : (Cond.and given_1 narrow_1).before args s = true) (hA : ∀ a : Nat, a < s.heap.size → ¬ AA B0 a) : HT B0 s s.heap := ⟨vx_Zqof (st_t hts 327 (by decide +kernel)) (st_t hts 9 (by decide +kernel)) (st_n hgv 6 (by decide +kernel)) hA, vx_Zqof (st_t hts 329 (by decide +kernel)) (st_t hts 9 (by decide +kernel)) (st_n hgv 7 (by decide +kernel)) hA⟩
theorem st_eF : ∀ j : Nat, j < 4 → nrW[2 + j]? = some (Cond.eq (.elem (.static RX6 "FIRST_SETTINGS" "[I") (.int (Int32.ofNat j))) (.int (fsS j))) := by decide +kernel
theorem st_eL : ∀ j : Nat, j < 4 → nrW[10 + j]? = some (Cond.eq (.elem (.static RX6 "LEAST_SETTINGS" "[I") (.int (Int32.ofNat j))) (.int (leS j))) := by decide +kernel
theorem st_eG : ∀ j : Nat, j < 4 → nrW[16 + j]? = some (Cond.eq (.elem (.static RX6 "GREATEST_SETTINGS" "[I") (.int (Int32.ofNat j))) (.int (grS j))) := by decide +kernel
theorem st_eI : ∀ j : Nat, j < 8 → nrW[24 + j]? = some (Cond.eq (.elem (.static RX6 "INPUT_KEYS" "[I") (.int (Int32.ofNat j))) (.int (keyS j))) := by decide +kernel
theorem st_FSt {args : Array Value} {s : State} {A : Nat → Prop} (hts : ∀ w ∈ lw_tbl, w.before args s = true) (hgv : (Cond.and given_1 narrow_1).before args s = true) (hA : ∀ a : Nat, a < s.heap.size → ¬ A a) : FSt A s s.heap := st_FS (st_t hts 187 (by decide +kernel)) (st_t hts 1 (by decide +kernel)) (st_n hgv 0 (by decide +kernel)) (st_n hgv 1 (by decide +kernel)) (fun j hj => st_n hgv (2 + j) (st_eF j hj)) (st_n hgv 84 (by decide +kernel)) hA
def st_tm (i : Nat) : Term := if i = 0 then .string RX3 26 else .string RX3 40
theorem st_s0 : ∀ i : Nat, i < 2 → nrW[if i = 0 then 53 else 69]? = some (Cond.exactly (st_tm i) "java/lang/String") := by decide +kernel
theorem st_s1 : ∀ i : Nat, i < 2 → nrW[if i = 0 then 54 else 70]? = some (Cond.eq (.field (st_tm i) "java/lang/String" "coder" "B") (.int 0)) := by decide +kernel
theorem st_s2 : ∀ i : Nat, i < 2 → nrW[if i = 0 then 55 else 71]? = some (Cond.arrayOf (.field (st_tm i) "java/lang/String" "value" "[B") .byte) := by decide +kernel
theorem st_s3 : ∀ i : Nat, i < 2 → nrW[if i = 0 then 56 else 72]? = some (Cond.eq (.length (.field (st_tm i) "java/lang/String" "value" "[B")) (.int (Int32.ofNat (sLen.getD i 0)))) := by decide +kernel
theorem st_s4 : ∀ i : Nat, i < 2 → ∀ j : Nat, j < sLen.getD i 0 → nrW[(if i = 0 then 57 else 73) + j]? = some (Cond.eq (.elem (.field (st_tm i) "java/lang/String" "value" "[B") (.int (Int32.ofNat j))) (.int ((sByt.getD i []).getD j 0))) := by decide +kernel
theorem st_S {args : Array Value} {s : State} {A : Nat → Prop} (hgv : (Cond.and given_1 narrow_1).before args s = true) (hA : ∀ a : Nat, a < s.heap.size → ¬ A a) : ∃ adK adV : Nat → Nat, vk_S 2 sLen sByt adK adV A s s.heap ∧ ∀ i : Nat, i < 2 → (st_tm i).eval args s none [] s = some (.ref (adK i)) := by
  refine vk_Sof (tm := st_tm) (by decide) (fun i hi => st_n hgv _ (st_s0 i hi)) (fun i hi => st_n hgv _ (st_s1 i hi)) (fun i hi => st_n hgv _ (st_s2 i hi)) (fun i hi => st_n hgv _ (st_s3 i hi)) (fun i hi j hj => st_n hgv _ (st_s4 i hi j hj)) (fun i j hi hj hij => ?_) hA
  match i, hi, j, hj with
  | 0, _, 0, _ => exact absurd rfl hij
  | 0, _, 1, _ => exact Or.inl (st_n hgv 81 (by decide +kernel))
  | 1, _, 0, _ => exact Or.inr (st_n hgv 81 (by decide +kernel))
  | 1, _, 1, _ => exact absurd rfl hij
theorem st_HG {args : Array Value} {s : State} {B0 : Nat} (hts : ∀ w ∈ lw_tbl, w.before args s = true) (hgv : (Cond.and given_1 narrow_1).before args s = true) (hA : ∀ a : Nat, a < s.heap.size → ¬ AA B0 a) : ∃ adK adV : Nat → Nat, HG adK adV B0 s s.heap ∧ HR adK s := by
  obtain ⟨adK, adV, hS, hK⟩ := st_S (A := AA B0) hgv hA
  refine ⟨adK, adV, ⟨st_HA (by decide) (st_t hts 622 (by decide +kernel)) (st_t hts 1 (by decide +kernel)) (st_n hgv 8 (by decide +kernel)) (st_n hgv 9 (by decide +kernel)) (fun j hj => st_n hgv (10 + j) (st_eL j hj)) hA, st_HA (by decide) (st_t hts 624 (by decide +kernel)) (st_t hts 1 (by decide +kernel)) (st_n hgv 14 (by decide +kernel)) (st_n hgv 15 (by decide +kernel)) (fun j hj => st_n hgv (16 + j) (st_eG j hj)) hA, st_HA (by decide) (st_t hts 1058 (by decide +kernel)) (st_t hts 1 (by decide +kernel)) (st_n hgv 22 (by decide +kernel)) (st_n hgv 23 (by decide +kernel)) (fun j hj => st_n hgv (24 + j) (st_eI j hj)) hA, va_Zof (st_t hts 996 (by decide +kernel)) (st_t hts 14 (by decide +kernel)) (va_eqt (st_n hgv 20 (by decide +kernel))) hA, va_Zqof (st_t hts 1012 (by decide +kernel)) (st_t hts 22 (by decide +kernel)) (st_n hgv 21 (by decide +kernel)) hA, hS⟩, vk_R.of (st_t hts 983 (by decide +kernel)) (hK 0 (by decide)), vk_R.of (st_t hts 1052 (by decide +kernel)) (hK 1 (by decide)), va_Nw.of rfl (st_t hts 1057 (by decide +kernel))⟩
theorem LA_start {args : Array Value} {s : State} {b L : Nat} {xs : Nat → Int32} (hts : ∀ w ∈ lw_tbl, w.before args s = true) (hgv : (Cond.and given_1 narrow_1).before args s = true) (hX : va_X b L xs s s.heap) (hbl : b < s.heap.size) : ∃ (D : va_G) (G : CY) (cL cD : ClassId), LA D G s.heap.size cL cD b L xs s ∧ NI s ∧ FSt (AC s.heap.size) s s.heap := by
  obtain ⟨D, hD⟩ := st_D vwCl (st_cl hts)
  obtain ⟨c0, a0, r0⟩ := st_arrP (ty := .char) (st_t hts 240 (by decide +kernel))
  obtain ⟨c1, a1, r1⟩ := st_arrP (ty := .int) (st_t hts 49 (by decide +kernel))
  obtain ⟨c2, a2, r2⟩ := st_arrO (C := RX0) (st_t hts 51 (by decide +kernel))
  obtain ⟨c3, a3, r3⟩ := st_arrO (C := RX2) (st_t hts 53 (by decide +kernel))
  obtain ⟨c4, a4, r4⟩ := st_arrO (C := RX5) (st_t hts 202 (by decide +kernel))
  obtain ⟨c5, a5, r5⟩ := st_arrP (ty := .long) (st_t hts 1525 (by decide +kernel))
  obtain ⟨c6, a6, r6⟩ := st_arrP (ty := .double) (st_t hts 1526 (by decide +kernel))
  have hA : ∀ a : Nat, a < s.heap.size → ¬ AA s.heap.size a := fun a h z => Nat.lt_irrefl _ (Nat.lt_of_lt_of_le h z.1)
  have nil : ∀ {p : ClassId × FieldType → Prop}, ∀ q ∈ ([] : List (ClassId × FieldType)), p q := fun _ h => absurd h List.not_mem_nil
  exact ⟨D, (c0, c1, c2, c3, c4), c5, c6, ⟨st_K hD (List.forall_mem_cons.mpr ⟨⟨a0, r0⟩, List.forall_mem_cons.mpr ⟨⟨a1, r1⟩, List.forall_mem_cons.mpr ⟨⟨a2, r2⟩, List.forall_mem_cons.mpr ⟨⟨a3, r3⟩, List.forall_mem_cons.mpr ⟨⟨a4, r4⟩, nil⟩⟩⟩⟩⟩), st_NW hts, st_HT hts hgv hA, st_HW hts hgv, st_HG hts hgv hA, st_NC hgv, st_K hD (List.forall_mem_cons.mpr ⟨⟨a5, r5⟩, nil⟩), st_K hD (List.forall_mem_cons.mpr ⟨⟨a6, r6⟩, nil⟩), hX, hbl, rfl⟩, st_NI hts, st_FSt hts hgv (fun a h z => Nat.lt_irrefl _ (Nat.lt_of_lt_of_le h z))⟩
