/-! THE COMMON GROUND: what a method knows at its entry (Cx), a world (Wl), contracts that read (Qr) and that write (Qw), calls -/
abbrev Gq : Type := va_G × ClassId × ClassId × (Nat → Nat)
def NWM : List (Nat × MethodName) := [(11, yX1_init), (194, yX1_insertAt), (108, yX1_intAt), (117, yX1_raise), (157, yX1_at), (104, yX1_groupOf), (137, yX1_sum), (114, yX1_deleteAt), (124, yX1_holds)]
def NwAll (U : State) : Prop := (∀ q ∈ NWM, va_Nw (.methodLinkNest RX2 q.1 q.2 RX2) U) ∧ va_Nw (.fieldLinkNest RX2 97 RX1 "size" "I" RX2) U
theorem NwAll.warm {s U : State} (hW : s.WarmedH U.vm) (h : NwAll s) : NwAll U := ⟨fun q hq => va_Nw.warmM hW (h.1 q hq), va_Nw.warmF hW h.2⟩
theorem NwAll.same {u U : State} (h : u.vm = U.vm) (hZ : NwAll u) : NwAll U := ⟨fun q hq => va_Nw.same rfl h (hZ.1 q hq), va_Nw.same rfl h hZ.2⟩
abbrev KE (ad : Nat → Nat) (A : Nat → Prop) (U : State) (H : Heap) : Prop := va_En "IntervalSplits$Kind" "LIntervalSplits$Kind;" ["HALVES", "OWN", "AREA"] [] ad A U H
def KK (E : Gq) (U : State) : Prop := va_K E.1 vwCl [(E.2.1, .int), (E.2.2.1, .long)] U ∧ NwAll U
theorem KK.warm {E : Gq} {s U : State} (hW : s.WarmedH U.vm) (h : KK E s) : KK E U := ⟨va_K.moved hW.alike h.1, h.2.warm hW⟩
def Rm (k mc ms : Nat) : Room := { frames := k, cells := mc, slots := ms, locals := 28 * k }
def Pw (E : Gq) (av : List Value) (ws : va_W) (sz : Nat) : Array Value → State → Prop := va_Pc av (fun U => U.heap.size = sz ∧ va_P E.1 vwCl ws U.heap ∧ va_D (fun _ => True) ws ∧ KK E U ∧ KE E.2.2.2 (va_A ws sz) U U.heap)
theorem Pw.blind (E : Gq) (av : List Value) (ws : va_W) (sz : Nat) : FrameBlind (Pw E av ws sz) := fun a U g mk q => by
  obtain ⟨q0, q1, qP, qD, qK, qE⟩ := q
  exact ⟨q0, q1, qP, qD, ⟨va_K.moved (u := U) (U := U.calling g mk a) (Vm.Alike.refl U.vm) qK.1, NwAll.same rfl qK.2⟩, va_En.moved (u := U) (U := U.calling g mk a) (Vm.Alike.refl U.vm) qE⟩
def Qw (E : Gq) (ws : va_W) (sz : Nat) (post : Option Value → va_W → Prop) : Array Value → State → Outcome → State → Prop := fun _ st oc t => (∃ (r : Option Value) (ws' : va_W), oc = .returned r ∧ post r ws' ∧ va_P E.1 vwCl ws' t.heap ∧ va_D (va_A ws sz) ws') ∧ va_F (va_A ws sz) st t
def Qr (post : Option Value → Prop) : Array Value → State → Outcome → State → Prop := fun _ st oc t => ∃ r : Option Value, oc = .returned r ∧ post r ∧ t.heap = st.heap
/-- what a method knows at its entry, and keeps -/
def Cx (E : Gq) (p : Program) (s : State) (m : MethodId) (args : Array Value) (meth : Method) (c : Code) (cc : ByteArray) (nL : Nat) (ret : Option FieldType) (own : String) (A : Nat → Prop) : Prop :=
  p.tables.exec = Jvm.exec ∧ c.code = cc ∧ c.maxLocals = nL ∧ meth.sig.returnType = ret ∧ meth.locks = false ∧ s.vm.findClass own = some m.cls ∧ (∀ w ∈ LT, w.before args s = true) ∧ KK E s ∧ KE E.2.2.2 A s s.heap ∧ (∀ q : Nat, s.heap.size ≤ q → A q)
def Wl (E : Gq) (A : Nat → Prop) (ws : va_W) (s : State) (H : Heap) (locs : List Loc) : Prop := va_P E.1 vwCl ws H ∧ va_D A ws ∧ va_S A s.heap H locs
section BS
variable {p : Program} {l : Launch} {e : Env} {R : Room} {s : State} {m : MethodId} {args : Array Value} {below : List Frame} {meth : Method} {c : Code} {H : Heap} {locs : List Loc} {cells slots : Nat} {Q : State → Prop}
variable {E : Gq} {cc : ByteArray} {nL : Nat} {ret : Option FieldType} {own : String} {A : Nat → Prop} {ws : va_W} {pc : Nat} {ls : Array Slot} {rest : List Value}
theorem Cx.hx (C : Cx E p s m args meth c cc nL ret own A) : p.tables.exec = Jvm.exec := C.1
theorem Cx.hb (C : Cx E p s m args meth c cc nL ret own A) : c.code = cc := C.2.1
theorem Cx.hml (C : Cx E p s m args meth c cc nL ret own A) : c.maxLocals = nL := C.2.2.1
theorem Cx.hr (C : Cx E p s m args meth c cc nL ret own A) : meth.sig.returnType = ret := C.2.2.2.1
theorem Cx.hlk (C : Cx E p s m args meth c cc nL ret own A) : meth.locks = false := C.2.2.2.2.1
theorem Cx.hown (C : Cx E p s m args meth c cc nL ret own A) : s.vm.findClass own = some m.cls := C.2.2.2.2.2.1
theorem Cx.hts (C : Cx E p s m args meth c cc nL ret own A) : ∀ w ∈ LT, w.before args s = true := C.2.2.2.2.2.2.1
theorem Cx.hK (C : Cx E p s m args meth c cc nL ret own A) : KK E s := C.2.2.2.2.2.2.2.1
theorem Cx.hE (C : Cx E p s m args meth c cc nL ret own A) : KE E.2.2.2 A s s.heap := C.2.2.2.2.2.2.2.2.1
theorem Cx.hA (C : Cx E p s m args meth c cc nL ret own A) : ∀ q : Nat, s.heap.size ≤ q → A q := C.2.2.2.2.2.2.2.2.2
theorem Wl.inA (C : Cx E p s m args meth c cc nL ret own A) (Wd : Wl E A ws s H locs) : ∀ q : Nat, va_A ws H.size q → A q := fun q h => by
  rcases h with ⟨k, e, h⟩ | h
  · exact Wd.2.1.2 k _ h
  · exact C.hA q (Nat.le_trans Wd.2.2.1 h)
theorem Cx.pre (C : Cx E p s m args meth c cc nL ret own A) (Wd : Wl E A ws s H locs) (av : List Value) : ∀ U : State, U.heap = H → s.WarmedH U.vm → Pw E av ws H.size av.toArray U := fun U hU hW =>
  ⟨rfl, by rw [hU], by rw [hU]; exact Wd.1, Wd.2.1.weaken (fun _ _ _ _ => trivial), KK.warm hW C.hK, by rw [hU]; exact va_En.moved hW.alike ((C.hE.kept Wd.2.2.2.1).narrow (Wd.inA C))⟩
/-- a contract that writes, out of its body's walk -/
theorem mk_w {y : MethodName} {maxL k mc ms : Nat} {av : List Value} {post : Option Value → va_W → Prop} (hy : plainName y.cls = true) (hlen : (lg_sl av).length ≤ maxL)
    (body : ∀ (p : Program) (e : Env) (s : State) (m : MethodId) (below : List Frame) (meth : Method) (c : Code) (ls : Array Slot), Cx E p s m av.toArray meth c cc maxL ret y.cls (va_A ws s.heap.size) → Wl E (va_A ws s.heap.size) ws s s.heap [] → lv_has ls maxL (lv_args 0 av) →
      W p l e (Rm k mc ms) s m av.toArray below meth c s.heap [] 0 0 (MQ below (Qw E ws s.heap.size post) av.toArray s mc ms (va_A ws s.heap.size)) (F0 m 0 ls [])) :
    ∀ sz : Nat, Met l y (.code y cc maxL ret :: LT) (Rm k mc ms) (Pw E av ws sz) (Qw E ws sz post) mc ms (va_A ws sz) := by
  intro sz
  refine Met.ofW (cc := cc) (maxL := maxL) (ret := ret) hy rfl ?_
  intro p e s m args below meth c s₁ B hml hv
  obtain ⟨rfl, hsz, hP, hD0, hK, hE⟩ := hv
  have hts := atoms_spec (ws := .code y cc maxL ret :: LT) B.pre
  subst hsz
  have hl := lv_entry av (n := maxL) hlen
  rw [lg_entry_eq]
  exact body p e s m below meth c _ ⟨B.exec, B.bytes, hml, B.returns, B.notSynchronized, findClass_of_methodNamed B.named, fun w h => hts w (List.mem_cons_of_mem _ h), hK, hE, fun q h => Or.inr h⟩ ⟨hP, hD0.self, va_S.rf⟩ hl
/-- a contract that reads -/
theorem mk_r {y : MethodName} {maxL k : Nat} {av : List Value} {post : Option Value → Prop} (hy : plainName y.cls = true) (hlen : (lg_sl av).length ≤ maxL)
    (body : ∀ (p : Program) (e : Env) (s : State) (m : MethodId) (below : List Frame) (meth : Method) (c : Code) (ls : Array Slot), Cx E p s m av.toArray meth c cc maxL ret y.cls (va_A ws s.heap.size) → Wl E (va_A ws s.heap.size) ws s s.heap [] → lv_has ls maxL (lv_args 0 av) →
      W p l e (Rm k 0 0) s m av.toArray below meth c s.heap [] 0 0 (MQ below (Qr post) av.toArray s 0 0 (fun _ => False)) (F0 m 0 ls [])) :
    ∀ sz : Nat, Met l y (.code y cc maxL ret :: LT) (Rm k 0 0) (Pw E av ws sz) (Qr post) 0 0 (fun _ => False) := by
  intro sz
  refine Met.ofW (cc := cc) (maxL := maxL) (ret := ret) hy rfl ?_
  intro p e s m args below meth c s₁ B hml hv
  obtain ⟨rfl, hsz, hP, hD0, hK, hE⟩ := hv
  have hts := atoms_spec (ws := .code y cc maxL ret :: LT) B.pre
  subst hsz
  have hl := lv_entry av (n := maxL) hlen
  rw [lg_entry_eq]
  exact body p e s m below meth c _ ⟨B.exec, B.bytes, hml, B.returns, B.notSynchronized, findClass_of_methodNamed B.named, fun w h => hts w (List.mem_cons_of_mem _ h), hK, hE, fun q h => Or.inr h⟩ ⟨hP, hD0.self, va_S.rf⟩ hl
/-! ends -/
theorem ret_ir {post : Option Value → Prop} {v : Int32} (C : Cx E p s m args meth c cc nL (some .int) own A) (hp : post (some (.int v))) (hdg : decode cc pc = .ok (.ireturn, 1)) : W p l e R s m args below meth c s.heap [] 0 0 (MQ below (Qr post) args s 0 0 (fun _ => False)) (F0 m pc ls [.int v]) :=
  W.iret C.hx C.hb C.hr (fun _ ht _ => ⟨_, rfl, hp, ht⟩) (fun _ h => absurd h List.not_mem_nil) hdg C.hlk
theorem ret_zr {post : Option Value → Prop} {v : Int32} (C : Cx E p s m args meth c cc nL (some .boolean) own A) (hp : post (some (.int v))) (hn : narrow .boolean (.int v) = .int v) (hdg : decode cc pc = .ok (.ireturn, 1)) : W p l e R s m args below meth c s.heap [] 0 0 (MQ below (Qr post) args s 0 0 (fun _ => False)) (F0 m pc ls [.int v]) :=
  W.zret C.hx C.hb C.hr hn (fun _ ht _ => ⟨_, rfl, hp, ht⟩) (fun _ h => absurd h List.not_mem_nil) hdg C.hlk
theorem ret_lr {post : Option Value → Prop} {v : Int64} (C : Cx E p s m args meth c cc nL (some .long) own A) (hp : post (some (.long v))) (hdg : decode cc pc = .ok (.lreturn, 1)) : W p l e R s m args below meth c s.heap [] 0 0 (MQ below (Qr post) args s 0 0 (fun _ => False)) (F0 m pc ls [.long v]) :=
  W.lret C.hx C.hb C.hr (fun _ ht _ => ⟨_, rfl, hp, ht⟩) (fun _ h => absurd h List.not_mem_nil) hdg C.hlk
theorem ret_ar {post : Option Value → Prop} {a : Nat} {cn : String} (C : Cx E p s m args meth c cc nL (some (.object cn)) own A) (hp : post (some (.ref a))) (hdg : decode cc pc = .ok (.areturn, 1)) : W p l e R s m args below meth c s.heap [] 0 0 (MQ below (Qr post) args s 0 0 (fun _ => False)) (F0 m pc ls [.ref a]) :=
  W.aret C.hx C.hb C.hr (Or.inl ⟨_, rfl⟩) (Or.inr ⟨_, rfl⟩) (fun _ ht _ => ⟨_, rfl, hp, ht⟩) (fun _ h => absurd h List.not_mem_nil) hdg C.hlk
theorem ret_iw {post : Option Value → va_W → Prop} {ws0 : va_W} {v : Int32} {mc ms : Nat} (C : Cx E p s m args meth c cc nL (some .int) own (va_A ws0 s.heap.size)) (Wd : Wl E (va_A ws0 s.heap.size) ws s H locs) (hp : post (some (.int v)) ws) (hdg : decode cc pc = .ok (.ireturn, 1)) : W p l e R s m args below meth c H locs mc ms (MQ below (Qw E ws0 s.heap.size post) args s mc ms (va_A ws0 s.heap.size)) (F0 m pc ls [.int v]) :=
  W.iret C.hx C.hb C.hr (fun _ ht _ => ⟨⟨_, ws, rfl, hp, by rw [ht]; exact Wd.1, Wd.2.1⟩, Wd.2.2.F ht⟩) Wd.2.2.2.2 hdg C.hlk
theorem ret_zw {post : Option Value → va_W → Prop} {ws0 : va_W} {v : Int32} {mc ms : Nat} (C : Cx E p s m args meth c cc nL (some .boolean) own (va_A ws0 s.heap.size)) (Wd : Wl E (va_A ws0 s.heap.size) ws s H locs) (hp : post (some (.int v)) ws) (hn : narrow .boolean (.int v) = .int v) (hdg : decode cc pc = .ok (.ireturn, 1)) : W p l e R s m args below meth c H locs mc ms (MQ below (Qw E ws0 s.heap.size post) args s mc ms (va_A ws0 s.heap.size)) (F0 m pc ls [.int v]) :=
  W.zret C.hx C.hb C.hr hn (fun _ ht _ => ⟨⟨_, ws, rfl, hp, by rw [ht]; exact Wd.1, Wd.2.1⟩, Wd.2.2.F ht⟩) Wd.2.2.2.2 hdg C.hlk
theorem ret_vw {post : Option Value → va_W → Prop} {ws0 : va_W} {mc ms : Nat} (C : Cx E p s m args meth c cc nL none own (va_A ws0 s.heap.size)) (Wd : Wl E (va_A ws0 s.heap.size) ws s H locs) (hp : post none ws) (hdg : decode cc pc = .ok (.return_, 1)) : W p l e R s m args below meth c H locs mc ms (MQ below (Qw E ws0 s.heap.size post) args s mc ms (va_A ws0 s.heap.size)) (F0 m pc ls []) :=
  W.vret C.hx C.hb C.hr (fun _ ht _ => ⟨⟨_, ws, rfl, hp, by rw [ht]; exact Wd.1, Wd.2.1⟩, Wd.2.2.F ht⟩) Wd.2.2.2.2 hdg C.hlk
/-! calls -/
theorem call_r {st0 : List Value} {a : Array Value} {post : Option Value → Prop} (hr : va_Run p l e R s m args below meth c H locs cells slots 0 0 (F0 m pc ls st0) rest (Qr post a) (fun _ => False))
    (kk : ∀ v : Option Value, post v → W p l e R s m args below meth c H locs cells slots Q (F0 m (pc + 3) ls (v.toList ++ rest))) : W p l e R s m args below meth c H locs cells slots Q (F0 m pc ls st0) := by
  intro T hT X
  obtain ⟨v, st₀, t, T', L, h0, X', hL, e1, e2, ⟨r, hv, hp, hh⟩, st⟩ := hr T hT X
  cases hv
  obtain ⟨t2, a1, b1⟩ := kk v hp T' (by rw [e1, hh, h0]) (Stand.forget X' (fun q h => (hL q h).elim))
  exact ⟨t2, st t2 a1, b1⟩
theorem call_w {st0 : List Value} {a : Array Value} {mc ms : Nat} {post : Option Value → va_W → Prop} (C : Cx E p s m args meth c cc nL ret own A) (Wd : Wl E A ws s H locs) (hr : va_Run p l e R s m args below meth c H locs cells slots mc ms (F0 m pc ls st0) rest (Qw E ws H.size post a) (va_A ws H.size))
    (kk : ∀ (v : Option Value) (ws' : va_W) (H1 : Heap) (locs1 : List Loc), post v ws' → Wl E A ws' s H1 locs1 → W p l e R s m args below meth c H1 locs1 (cells + mc) (slots + ms) Q (F0 m (pc + 3) ls (v.toList ++ rest))) : W p l e R s m args below meth c H locs cells slots Q (F0 m pc ls st0) := by
  intro T hT X
  obtain ⟨v, st₀, t, T', L, h0, X', hL, e1, e2, ⟨⟨r, ws', hv, hp, hP, hD⟩, hz, hk⟩, st⟩ := hr T hT X
  cases hv
  rw [h0] at hz hk
  have hin := Wd.inA C
  have hS := Wd.2.2
  obtain ⟨t2, a1, b1⟩ := kk v ws' T'.heap (locs ++ L) hp ⟨by rw [e1]; exact hP, hD.weaken (fun _ q _ h => hin q.1 h), Nat.le_trans hS.1 (by rw [e1]; exact hz), fun q h1 h2 => by
      rw [e1, hk q (Nat.lt_of_lt_of_le h1 hS.1) (fun z => h2 (hin q z))]; exact hS.2.1 q h1 h2, fun q hq => by
      rcases List.mem_append.mp hq with h | h
      · exact hS.2.2 q h
      · exact hin _ (hL q h)⟩ T' rfl X'
  exact ⟨t2, st t2 a1, b1⟩
/-- the words of a method that is called on an object; of a static one -/
def Wy (y : MethodName) (bytes : ByteArray) (maxL : Nat) (rt : Option FieldType) (n : Nat) : Prop := Cond.code y bytes maxL rt ∈ LT ∧ Cond.initialized y.cls ∈ LT ∧ Cond.instanceMethod y ∈ LT ∧ maxL ≤ 9 ∧ (y.cls ≠ "java/lang/invoke/MethodHandle" ∧ y.cls ≠ "java/lang/invoke/VarHandle" ∧ (parseMethodDescriptor y.desc).map (fun d => d.parameters.length) = some n)
def Wz (y : MethodName) (bytes : ByteArray) (maxL : Nat) (rt : Option FieldType) (n : Nat) : Prop := Cond.code y bytes maxL rt ∈ LT ∧ Cond.initialized y.cls ∈ LT ∧ Cond.static y ∈ LT ∧ maxL ≤ 9 ∧ (y.cls ≠ "java/lang/invoke/MethodHandle" ∧ y.cls ≠ "java/lang/invoke/VarHandle" ∧ (parseMethodDescriptor y.desc).map (fun d => d.parameters.length) = some n)
section RN
variable {y : MethodName} {bytes : ByteArray} {maxL n k mc ms idx b : Nat} {rt : Option FieldType} {As : List Value} {st0 : List Value} {Qc : Nat → Array Value → State → Outcome → State → Prop} {free : Nat → Addr → Prop}
/-- a call on an object, by a link of its own class -/
theorem runV (C : Cx E p s m args meth c cc nL ret own A) (Wd : Wl E A ws s H locs) (hM : ∀ sz : Nat, Met l y (.code y bytes maxL rt :: LT) (Rm k mc ms) (Pw E (.ref b :: As) ws sz) (Qc sz) mc ms (free sz)) (hy : Wy y bytes maxL rt n) (hse : Cond.selects y.cls y y ∈ LT) (hl : Cond.methodLink own idx y ∈ LT)
    {ci N q0 : Nat} {T : u_T} {fs : List Value} (hc : vwCl[ci]? = some (y.cls, T, N)) (he : ws[q0]? = some (b, .inr (ci, fs))) (hR : k + 1 ≤ R.frames ∧ 28 * (k + 1) ≤ R.locals) (hn : As.length = n) (hsz : ls.size = nL) (hst : st0 = As.reverse ++ .ref b :: rest) (hW : (rest.map fun v => v.category).sum ≤ 8) (hdg : decode cc pc = .ok (.invokevirtual idx, 3)) (hf : cells + mc ≤ R.cells ∧ slots + ms ≤ R.slots) :
    va_Run p l e R s m args below meth c H locs cells slots mc ms (F0 m pc ls st0) rest (Qc H.size (Value.ref b :: As).toArray) (free H.size) := by
  obtain ⟨w1, w2, w3, w4, w5⟩ := hy
  refine va_runV (C := y.cls) (b := b) (As := As) (index := idx) ⟨C.hx, C.hb, C.hml, C.hown, C.hts⟩ (hM H.size) ⟨callB_of n C.hts (gLT w1) rfl rfl rfl (C.hts _ w2) (C.hts _ hl) w5 ⟨hR.1, ?_⟩, C.hts _ w3, C.hts _ hse⟩ ⟨Pw.blind _ _ _ _, va_recv C.hK.1 Wd.1 hc he, C.pre Wd (.ref b :: As)⟩ rfl hn hsz hst (lv_room hW) hdg hf
  have := hR.2
  show 8 + (maxL + 11) + 28 * k ≤ R.locals
  omega
/-- a nest mate's private method on an object -/
theorem runVN (C : Cx E p s m args meth c cc nL ret RX2 A) (Wd : Wl E A ws s H locs) (hM : ∀ sz : Nat, Met l y (.code y bytes maxL rt :: LT) (Rm k mc ms) (Pw E (.ref b :: As) ws sz) (Qc sz) mc ms (free sz)) (hy : Wy y bytes maxL rt n) (hse : Cond.selects y.cls y y ∈ LT) (hl : (idx, y) ∈ NWM)
    {ci N q0 : Nat} {T : u_T} {fs : List Value} (hc : vwCl[ci]? = some (y.cls, T, N)) (he : ws[q0]? = some (b, .inr (ci, fs))) (hR : k + 1 ≤ R.frames ∧ 28 * (k + 1) ≤ R.locals) (hn : As.length = n) (hsz : ls.size = nL) (hst : st0 = As.reverse ++ .ref b :: rest) (hW : (rest.map fun v => v.category).sum ≤ 8) (hdg : decode cc pc = .ok (.invokevirtual idx, 3)) (hf : cells + mc ≤ R.cells ∧ slots + ms ≤ R.slots) :
    va_Run p l e R s m args below meth c H locs cells slots mc ms (F0 m pc ls st0) rest (Qc H.size (Value.ref b :: As).toArray) (free H.size) := by
  obtain ⟨w1, w2, w3, w4, w5⟩ := hy
  refine va_runVN (C := y.cls) (b := b) (As := As) (index := idx) (host := RX2) ⟨C.hx, C.hb, C.hml, C.hown, C.hts⟩ (hM H.size) ⟨va_cnB n C.hts (gLT w1) rfl rfl rfl (C.hK.2.1 _ hl) (C.hts _ w2) w5 ⟨hR.1, ?_⟩, C.hts _ w3, C.hts _ hse⟩ ⟨Pw.blind _ _ _ _, va_recv C.hK.1 Wd.1 hc he, C.pre Wd (.ref b :: As)⟩ rfl hn hsz hst (lv_room hW) hdg hf
  have := hR.2
  show 8 + (maxL + 11) + 28 * k ≤ R.locals
  omega
/-- a static method of the own class -/
theorem runS (C : Cx E p s m args meth c cc nL ret own A) (Wd : Wl E A ws s H locs) (hM : ∀ sz : Nat, Met l y (.code y bytes maxL rt :: LT) (Rm k mc ms) (Pw E As ws sz) (Qc sz) mc ms (free sz)) (hy : Wz y bytes maxL rt n) (hl : Cond.methodLink own idx y ∈ LT)
    (hR : k + 1 ≤ R.frames ∧ 28 * (k + 1) ≤ R.locals) (hn : As.length = n) (hsz : ls.size = nL) (hst : st0 = As.reverse ++ rest) (hW : (rest.map fun v => v.category).sum ≤ 8) (hdg : decode cc pc = .ok (.invokestatic idx, 3)) (hf : cells + mc ≤ R.cells ∧ slots + ms ≤ R.slots) :
    va_Run p l e R s m args below meth c H locs cells slots mc ms (F0 m pc ls st0) rest (Qc H.size As.toArray) (free H.size) := by
  obtain ⟨w1, w2, w3, w4, w5⟩ := hy
  refine va_runS (As := As) (index := idx) ⟨C.hx, C.hb, C.hml, C.hown, C.hts⟩ (hM H.size) ⟨callB_of n C.hts (gLT w1) rfl rfl rfl (C.hts _ w2) (C.hts _ hl) w5 ⟨hR.1, ?_⟩, C.hts _ w3⟩ ⟨Pw.blind _ _ _ _, C.pre Wd As⟩ rfl hn hsz hst (lv_room hW) hdg hf
  have := hR.2
  show 8 + (maxL + 11) + 28 * k ≤ R.locals
  omega
/-- a constructor, by a link of the own class; by a nest mate's link -/
theorem runI (C : Cx E p s m args meth c cc nL ret own A) (Wd : Wl E A ws s H locs) (hM : ∀ sz : Nat, Met l y (.code y bytes maxL none :: LT) (Rm k mc ms) (Pw E (.ref b :: As) ws sz) (Qc sz) mc ms (free sz)) (hy : Wy y bytes maxL none n) (hnm : y.name = "<init>") (hl : Cond.methodLink own idx y ∈ LT)
    (hR : k + 1 ≤ R.frames ∧ 28 * (k + 1) ≤ R.locals) (hn : As.length = n) (hsz : ls.size = nL) (hst : st0 = As.reverse ++ .ref b :: rest) (hW : (rest.map fun v => v.category).sum ≤ 8) (hdg : decode cc pc = .ok (.invokespecial idx, 3)) (hf : cells + mc ≤ R.cells ∧ slots + ms ≤ R.slots) :
    va_Run p l e R s m args below meth c H locs cells slots mc ms (F0 m pc ls st0) rest (Qc H.size (Value.ref b :: As).toArray) (free H.size) := by
  obtain ⟨w1, w2, w3, w4, w5⟩ := hy
  refine va_runI (b := b) (As := As) (index := idx) ⟨C.hx, C.hb, C.hml, C.hown, C.hts⟩ (hM H.size) ⟨callB_of n C.hts (gLT w1) rfl rfl rfl (C.hts _ w2) (C.hts _ hl) w5 ⟨hR.1, ?_⟩, hnm, C.hts _ w3⟩ ⟨Pw.blind _ _ _ _, C.pre Wd (.ref b :: As)⟩ rfl hn hsz hst (lv_room hW) hdg hf
  have := hR.2
  show 8 + (maxL + 11) + 28 * k ≤ R.locals
  omega
end RN
/-! fields and arrays of a world -/
section FD
variable {ci N q0 idx a n : Nat} {T : u_T} {fs : List Value} {Cn : String} {v : Value}
theorem getf (C : Cx E p s m args meth c cc nL ret own A) (Wd : Wl E A ws s H locs) (q0 : Nat) (he : ws[q0]? = some (a, .inr (ci, fs))) (hc : vwCl[ci]? = some (Cn, T, N)) (hin : ∀ w ∈ u_ws Cn T N, w ∈ LT) (k : Nat) (hk : k < N) (hl : Cond.fieldLink own idx (T k).1 (T k).2.1 (T k).2.2.1 ∈ LT) (hv : fs[k]? = some v) (hdg : decode cc pc = .ok (.getfield idx, 3))
    (kk : W p l e R s m args below meth c H locs cells slots Q (F0 m (pc + 3) ls (v :: rest))) : W p l e R s m args below meth c H locs cells slots Q (F0 m pc ls (.ref a :: rest)) :=
  va_get C.hx C.hb C.hts hin C.hown C.hK.1 Wd.1 q0 he hc k hk (C.hts _ hl) (fun _ h => h) hv hdg kk
theorem putf (C : Cx E p s m args meth c cc nL ret own A) (Wd : Wl E A ws s H locs) (q0 : Nat) (he : ws[q0]? = some (a, .inr (ci, fs))) (hc : vwCl[ci]? = some (Cn, T, N)) (hin : ∀ w ∈ u_ws Cn T N, w ∈ LT) (ty0 : Nat → FieldType) (hty : ∀ k, k < N → parseFieldDescriptor (T k).2.2.1 = some (ty0 k)) (hnm : ∀ a, a < N → ∀ b, b < N → a ≠ b → (T a).2.1 ≠ (T b).2.1) (k : Nat) (hk : k < N) (hl : Cond.fieldLink own idx (T k).1 (T k).2.1 (T k).2.2.1 ∈ LT) (hfin : (T k).2.2.2 = false) {ty : FieldType} (hd : parseFieldDescriptor (T k).2.2.1 = some ty) (hn : narrow ty v = v) (hfit : fits ty v = true) (hlt : k < fs.length) (hdg : decode cc pc = .ok (.putfield idx, 3))
    (kk : ∀ (H1 : Heap) (locs1 : List Loc), Wl E A (ws.set q0 (a, .inr (ci, fs.set k v))) s H1 locs1 → W p l e R s m args below meth c H1 locs1 cells slots Q (F0 m (pc + 3) ls rest)) : W p l e R s m args below meth c H locs cells slots Q (F0 m pc ls (v :: .ref a :: rest)) :=
  va_put C.hx C.hb C.hts hin ty0 hty hnm C.hown C.hK.1 Wd.1 Wd.2.1 Wd.2.2 q0 he hc k hk (C.hts _ hl) (fun _ h => h) hfin hd hn hfit hlt hdg (fun H1 locs1 a1 a2 a3 => kk H1 locs1 ⟨a1, a2, a3⟩)
theorem lald (C : Cx E p s m args meth c cc nL ret own A) (Wd : Wl E A ws s H locs) (q0 : Nat) {f : Nat → Int64} (ha : ws[q0]? = some (a, .inl (E.2.2.1, n, .inr (.inl f)))) {i : Int32} (hin : vp_in i n) (hdg : decode cc pc = .ok (.laload, 1))
    (kk : W p l e R s m args below meth c H locs cells slots Q (F0 m (pc + 1) ls (.long (f i.toNatClampNeg) :: rest))) : W p l e R s m args below meth c H locs cells slots Q (F0 m pc ls (.int i :: .ref a :: rest)) :=
  va_lald C.hx C.hb C.hK.1 Wd.1 q0 1 ha rfl hin hdg kk
theorem iald (C : Cx E p s m args meth c cc nL ret own A) (Wd : Wl E A ws s H locs) (q0 : Nat) {f : Nat → Int32} (ha : ws[q0]? = some (a, .inl (E.2.1, n, .inl f))) {i : Int32} (hin : vp_in i n) (hdg : decode cc pc = .ok (.iaload, 1))
    (kk : W p l e R s m args below meth c H locs cells slots Q (F0 m (pc + 1) ls (.int (f i.toNatClampNeg) :: rest))) : W p l e R s m args below meth c H locs cells slots Q (F0 m pc ls (.int i :: .ref a :: rest)) :=
  va_iald C.hx C.hb C.hK.1 Wd.1 q0 0 ha rfl hin hdg kk
theorem alenJ (C : Cx E p s m args meth c cc nL ret own A) (Wd : Wl E A ws s H locs) (q0 : Nat) {f : Nat → Int64} (ha : ws[q0]? = some (a, .inl (E.2.2.1, n, .inr (.inl f)))) (hdg : decode cc pc = .ok (.arraylength, 1))
    (kk : W p l e R s m args below meth c H locs cells slots Q (F0 m (pc + 1) ls (.int (nI n) :: rest))) : W p l e R s m args below meth c H locs cells slots Q (F0 m pc ls (.ref a :: rest)) :=
  va_alen C.hx C.hb C.hK.1 Wd.1 q0 1 ha rfl rfl hdg kk
theorem last (C : Cx E p s m args meth c cc nL ret own A) (Wd : Wl E A ws s H locs) (q0 : Nat) {f : Nat → Int64} (ha : ws[q0]? = some (a, .inl (E.2.2.1, n, .inr (.inl f)))) {i : Int32} {x : Int64} (hin : vp_in i n) (hdg : decode cc pc = .ok (.lastore, 1))
    (kk : ∀ (H1 : Heap) (locs1 : List Loc), Wl E A (ws.set q0 (a, .inl (E.2.2.1, n, .inr (.inl (vp_updL f i.toNatClampNeg x))))) s H1 locs1 → W p l e R s m args below meth c H1 locs1 cells slots Q (F0 m (pc + 1) ls rest)) : W p l e R s m args below meth c H locs cells slots Q (F0 m pc ls (.long x :: .int i :: .ref a :: rest)) :=
  va_last C.hx C.hb C.hK.1 Wd.1 Wd.2.1 Wd.2.2 q0 1 ha rfl hin hdg (fun H1 locs1 a1 a2 a3 => kk H1 locs1 ⟨a1, a2, a3⟩)
theorem iast (C : Cx E p s m args meth c cc nL ret own A) (Wd : Wl E A ws s H locs) (q0 : Nat) {f : Nat → Int32} (ha : ws[q0]? = some (a, .inl (E.2.1, n, .inl f))) {i : Int32} {x : Int32} (hin : vp_in i n) (hdg : decode cc pc = .ok (.iastore, 1))
    (kk : ∀ (H1 : Heap) (locs1 : List Loc), Wl E A (ws.set q0 (a, .inl (E.2.1, n, .inl (upd f i.toNatClampNeg x)))) s H1 locs1 → W p l e R s m args below meth c H1 locs1 cells slots Q (F0 m (pc + 1) ls rest)) : W p l e R s m args below meth c H locs cells slots Q (F0 m pc ls (.int x :: .int i :: .ref a :: rest)) :=
  va_iast C.hx C.hb C.hK.1 Wd.1 Wd.2.1 Wd.2.2 q0 0 ha rfl hin hdg (fun H1 locs1 a1 a2 a3 => kk H1 locs1 ⟨a1, a2, a3⟩)
end FD
end BS
