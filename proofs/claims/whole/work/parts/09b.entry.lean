def R_law : String := "IntervalSplitsLaw"
def lw_P (b : Addr) (xs : List Int32) (args : Array Value) (s : State) : Prop := args = #[.ref b] ∧ s.IntsAt b xs ∧ xs.length ≤ 2052 ∧ (Jvm.Cond.and given_1 narrow_1).before args s = true
def lw_Q (_ : Array Value) (s : State) (o : Outcome) (t : State) : Prop := o = .returned (some (.int 1)) ∧ Framed s o t [] 601024 7293000
def lw_Z (below : List Frame) (a : Array Value) (s : State) : State → Prop := fun t => ∃ o, t.status = .running ∧ Ended t below o ∧ lw_Q a s o t
/-- the law's own end, with 1 on the stack, nothing written that was there before, its room as the claim has it -/
theorem lw_ret {p : Program} {l : Launch} {e : Env} {s : State} {m : MethodId} {below : List Frame} {meth : Method} {c : Code} {b : Nat} (hx : p.tables.exec = Jvm.exec) (hb : c.code = code) (hr : meth.sig.returnType = ret) (hlocks : meth.locks = false) {pc : Nat} {H : Heap} {ls : Array Slot} (hdg : decode code pc = .ok (.ireturn, 1)) : W p l e room_1 s m #[Value.ref b] below meth c H [] 601024 7293000 (lw_Z below #[Value.ref b] s) (F0 m pc ls [.int 1]) := by
  intro T hT X
  obtain ⟨fs, hret, hrun, hended, hW, hframe⟩ := X.leave (v := some (.int 1)) (hlocks := hlocks) (fun h => by rw [hr] at h; cases h)
  have hmeth' : T.vm.method? m = some meth := X.method'
  refine ⟨T.setFrames fs, ?_, .returned (some (.int 1)), hrun, hended, rfl, ⟨_, rfl⟩, hW, hframe⟩
  jvm_step X.here [X.here.top, hx, hb, hdg, hmeth', hr, ret, narrow_b1]
  (try refine ⟨rfl, ?_⟩); (try refine ⟨rfl, ?_⟩)
  first | (intro acts; rw [hret _ acts rfl rfl rfl]) | rw [hret _ _ rfl rfl rfl]
  exact Steps.refl _
/-- what holds at the law's entry: the machine, the code, the tables' words (any of lw_tbl by 'hts w (by decide +kernel)'), the script of L ints xs at the cell b, what the Statement gives of the start (any of its parts by flat_of_before) -/
def lw_At (p : Program) (s : State) (m : MethodId) (meth : Method) (c : Code) (b L : Nat) (xs : Nat → Int32) : Prop :=
  p.tables.exec = Jvm.exec ∧ c.code = code ∧ meth.sig.returnType = ret ∧ c.maxLocals = 7 ∧ s.vm.findClass R_law = some m.cls ∧ (∀ w ∈ lw_tbl, w.before #[Value.ref b] s = true) ∧ va_X b L xs s s.heap ∧ b < s.heap.size ∧ meth.locks = false ∧ (Jvm.Cond.and given_1 narrow_1).before #[Value.ref b] s = true
theorem mB {w : Cond} (i : Nat) (h : tables_1[i]? = some w) : w ∈ lw_tbl := List.mem_append_right _ (List.mem_of_getElem? h)
set_option maxRecDepth 20000 in
theorem nw_in : ∀ q ∈ NWM, Cond.methodLinkNest RX2 q.1 q.2 RX2 ∈ lw_tbl := by
  refine List.forall_mem_cons.mpr ⟨mB 23 (by rfl), ?_⟩
  refine List.forall_mem_cons.mpr ⟨mB 56 (by rfl), ?_⟩
  refine List.forall_mem_cons.mpr ⟨mB 63 (by rfl), ?_⟩
  refine List.forall_mem_cons.mpr ⟨mB 71 (by rfl), ?_⟩
  refine List.forall_mem_cons.mpr ⟨mB 145 (by rfl), ?_⟩
  refine List.forall_mem_cons.mpr ⟨mB 150 (by rfl), ?_⟩
  refine List.forall_mem_cons.mpr ⟨mB 158 (by rfl), ?_⟩
  refine List.forall_mem_cons.mpr ⟨mB 210 (by rfl), ?_⟩
  refine List.forall_mem_cons.mpr ⟨mB 222 (by rfl), ?_⟩
  exact fun _ h => absurd h List.not_mem_nil
set_option maxRecDepth 20000 in
theorem nw_f : Cond.fieldLinkNest RX2 97 RX1 "size" "I" RX2 ∈ lw_tbl := mB 32 (by rfl)
set_option maxRecDepth 20000 in
theorem ls_HALVES : Cond.laysStatic "IntervalSplits$Kind" "HALVES" "LIntervalSplits$Kind;" ∈ lw_tbl := mB 40 (by rfl)
set_option maxRecDepth 20000 in
theorem ls_OWN : Cond.laysStatic "IntervalSplits$Kind" "OWN" "LIntervalSplits$Kind;" ∈ lw_tbl := mB 173 (by rfl)
set_option maxRecDepth 20000 in
theorem ls_AREA : Cond.laysStatic "IntervalSplits$Kind" "AREA" "LIntervalSplits$Kind;" ∈ lw_tbl := mB 171 (by rfl)
set_option maxRecDepth 20000 in
theorem ls_t1 : Cond.laysStatic Bundle.tN "UNASSIGNED_STACK" Bundle.steD ∈ lw_tbl := mB 314 (by rfl)
set_option maxRecDepth 20000 in
theorem ls_t2 : Cond.laysStatic Bundle.tN "SUPPRESSED_SENTINEL" Bundle.listD ∈ lw_tbl := mB 316 (by rfl)
set_option maxRecDepth 20000 in
theorem ls_s : Cond.stringRef RX2 142 "no such level, interval or area" ∈ lw_tbl := mB 326 (by rfl)
set_option maxRecDepth 20000 in
theorem swAI_in : ∀ w : Cond, swAI w → w ∈ lw_tbl := by
  intro w hw
  rcases hw with rfl | rfl | rfl | rfl | rfl
  · exact mB 289 (by rfl)
  · exact mB 291 (by rfl)
  · exact mB 293 (by rfl)
  · exact mB 295 (by rfl)
  · exact mB 287 (by rfl)
set_option maxRecDepth 20000 in
theorem cw_x : Cond.codeWith yL_index cL_index 5 (some .int) [(0, 10, 13, 13)] ∈ lw_tbl := mB 275 (by rfl)
theorem arr_of {s : State} {args : Array Value} {ty : FieldType} (h : (Cond.arrayClass ty).before args s = true) : ∃ c : ClassId, ArrOfT s c ty ∧ s.vm.findClass ("[" ++ ty.toString) = some c := by
  obtain ⟨c, k, comp, h1, h2, h3⟩ := Cond.arrayClass_spec h
  exact ⟨c, fun n z => ⟨fun k h => (by cases h), k, h2, comp, h3⟩, h1⟩
theorem law_kinds {s : State} {b : Nat} (hts : ∀ w ∈ lw_tbl, w.before #[Value.ref b] s = true) (hg : (Jvm.Cond.and given_1 narrow_1).before #[Value.ref b] s = true) : ∃ ad : Nat → Nat, KE ad (va_A [] s.heap.size) s s.heap := by
  have hs := flat_of_before _ hg
  obtain ⟨ad, h, -⟩ := va_Enof2 (args := #[Value.ref b]) (s := s) (E := "IntervalSplits$Kind") (d := "LIntervalSplits$Kind;") (nm := ["HALVES", "OWN", "AREA"]) (F := []) (A := va_A [] s.heap.size)
    (fun i hi => by
      match i, hi with
      | 0, _ => exact hts _ ls_HALVES
      | 1, _ => exact hts _ ls_OWN
      | 2, _ => exact hts _ ls_AREA)
    (hts _ (LT_in _ tw_5))
    (fun i hi => by
      match i, hi with
      | 0, _ => exact hs (Cond.exactly (.static "IntervalSplits$Kind" "HALVES" "LIntervalSplits$Kind;") "IntervalSplits$Kind") (by decide +kernel)
      | 1, _ => exact hs (Cond.exactly (.static "IntervalSplits$Kind" "OWN" "LIntervalSplits$Kind;") "IntervalSplits$Kind") (by decide +kernel)
      | 2, _ => exact hs (Cond.exactly (.static "IntervalSplits$Kind" "AREA" "LIntervalSplits$Kind;") "IntervalSplits$Kind") (by decide +kernel))
    (fun q hq => absurd hq List.not_mem_nil)
    (fun i j hi hj hij => by
      match i, j, hi, hj with
      | 0, 0, _, _ => exact absurd rfl hij
      | 1, 1, _, _ => exact absurd rfl hij
      | 2, 2, _, _ => exact absurd rfl hij
      | 0, 1, _, _ => exact Or.inl (hs (Cond.not (.eq (.static "IntervalSplits$Kind" "HALVES" "LIntervalSplits$Kind;") (.static "IntervalSplits$Kind" "OWN" "LIntervalSplits$Kind;"))) (by decide +kernel))
      | 1, 0, _, _ => exact Or.inr (hs (Cond.not (.eq (.static "IntervalSplits$Kind" "HALVES" "LIntervalSplits$Kind;") (.static "IntervalSplits$Kind" "OWN" "LIntervalSplits$Kind;"))) (by decide +kernel))
      | 0, 2, _, _ => exact Or.inl (hs (Cond.not (.eq (.static "IntervalSplits$Kind" "HALVES" "LIntervalSplits$Kind;") (.static "IntervalSplits$Kind" "AREA" "LIntervalSplits$Kind;"))) (by decide +kernel))
      | 2, 0, _, _ => exact Or.inr (hs (Cond.not (.eq (.static "IntervalSplits$Kind" "HALVES" "LIntervalSplits$Kind;") (.static "IntervalSplits$Kind" "AREA" "LIntervalSplits$Kind;"))) (by decide +kernel))
      | 2, 1, _, _ => exact Or.inl (hs (Cond.not (.eq (.static "IntervalSplits$Kind" "AREA" "LIntervalSplits$Kind;") (.static "IntervalSplits$Kind" "OWN" "LIntervalSplits$Kind;"))) (by decide +kernel))
      | 1, 2, _, _ => exact Or.inr (hs (Cond.not (.eq (.static "IntervalSplits$Kind" "AREA" "LIntervalSplits$Kind;") (.static "IntervalSplits$Kind" "OWN" "LIntervalSplits$Kind;"))) (by decide +kernel)))
    (fun a ha h => by
      rcases h with ⟨k, e, h⟩ | h
      · cases h
      · omega)
  exact ⟨ad, h⟩
theorem notA {sz a : Nat} (h : a < sz) : ¬ va_A [] sz a := fun q => by
  rcases q with ⟨k, e, q⟩ | q
  · cases q
  · omega
theorem law_tq {s : State} {b : Nat} (hts : ∀ w ∈ lw_tbl, w.before #[Value.ref b] s = true) (hg : (Jvm.Cond.and given_1 narrow_1).before #[Value.ref b] s = true) : TQ (va_A [] s.heap.size) s s.heap := by
  have hs := flat_of_before _ hg
  have hst : (Cond.exactly (.string "IntervalSplits" 142) "java/lang/String").before #[Value.ref b] s = true := hs _ (by decide +kernel)
  obtain ⟨a, c, cA, kA, q1, -⟩ := Cond.exactly_spec (args := #[Value.ref b]) (first := s) (o := none) (s := s) (idx := []) hst
  have hw : TW s := fun w hw => by
    have := hts w (swAI_in w hw)
    rcases hw with rfl | rfl | rfl | rfl | rfl <;> exact this
  exact ⟨⟨TZ1.of (hts _ ls_t1) (hs (Cond.isRef (.static "java/lang/Throwable" "UNASSIGNED_STACK" "[Ljava/lang/StackTraceElement;")) (by decide +kernel)) (fun a ha => notA ha), TZ1.of (hts _ ls_t2) (hs (Cond.isRef (.static "java/lang/Throwable" "SUPPRESSED_SENTINEL" "Ljava/util/List;")) (by decide +kernel)) (fun a ha => notA ha)⟩, hw, a, vk_R.of (hts _ ls_s) q1⟩
theorem law_cx {p : Program} {s : State} {m : MethodId} {meth : Method} {c : Code} {b L : Nat} {xs : Nat → Int32} (C0 : lw_At p s m meth c b L xs) : ∃ E : Gq, Cx E p s m #[Value.ref b] meth c cL_law 7 (some .boolean) RL (va_A [] s.heap.size) := by
  obtain ⟨hx, hb, hret, hml, hown, hts, hX, hbl, hlk, hg⟩ := C0
  have hT : ∀ w ∈ LT, w.before #[Value.ref b] s = true := fun w h => hts w (LT_in w h)
  obtain ⟨ad, hE⟩ := law_kinds hts hg
  obtain ⟨c0, i0, k0⟩ := u_known (N := 6) hT in_Jx00060 (hT _ tw_286)
  obtain ⟨c1, i1, k1⟩ := u_known (N := 2) hT in_X1 (hT _ tw_22)
  obtain ⟨c2, i2, k2⟩ := u_known (N := 19) hT in_X2 (hT _ tw_14)
  obtain ⟨c3, i3, k3⟩ := u_known (N := 20) hT in_X3 (hT _ tw_357)
  obtain ⟨ci, ai, fi⟩ := arr_of (hT _ tw_426)
  obtain ⟨cj, aj, fj⟩ := arr_of (hT _ tw_38)
  refine ⟨((fun k => [c0, c1, c2, c3].getD k 0, fun k => [i0, i1, i2, i3].getD k (fun _ => 0)), ci, cj, ad), hx, hb, hml, hret, hlk, hown, hT, ⟨⟨fun k q hq => ?_, fun k q hq => ?_⟩, fun q hq => va_Nw.of rfl (hts _ (nw_in q hq)), va_Nw.of rfl (hts _ nw_f)⟩, hE, fun q h => Or.inr h⟩
  · match k, hq with
    | 0, hq => cases hq; exact k0
    | 1, hq => cases hq; exact k1
    | 2, hq => cases hq; exact k2
    | 3, hq => cases hq; exact k3
  · match k, hq with
    | 0, hq => cases hq; exact ⟨ai, fi⟩
    | 1, hq => cases hq; exact ⟨aj, fj⟩
