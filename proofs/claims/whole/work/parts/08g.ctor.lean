/-! constructors: what they stand on -/
section CI
variable {l : Launch} {E : Gq} {ws : va_W} {cc : ByteArray} {ret : Option FieldType}
/-- a constructor's contract -/
theorem mk_i {y : MethodName} {maxL k mc ms : Nat} {av : List Value} {post : Option Value → va_W → Prop} (hy : plainName y.cls = true) (hlen : (lg_sl av).length ≤ maxL)
    (body : ∀ (p : Program) (e : Env) (s : State) (m : MethodId) (below : List Frame) (meth : Method) (c : Code) (ls : Array Slot), Cx E p s m av.toArray meth c cc maxL ret y.cls (va_A ws s.heap.size) → Wl E (va_A ws s.heap.size) ws s s.heap [] → meth.name = y.name → lv_has ls maxL (lv_args 0 av) →
      W p l e (Rm k mc ms) s m av.toArray below meth c s.heap [] 0 0 (MQ below (Qw E ws s.heap.size post) av.toArray s mc ms (va_A ws s.heap.size)) (F0 m 0 ls [])) :
    ∀ sz : Nat, Met l y (.code y cc maxL ret :: LT) (Rm k mc ms) (Pw E av ws sz) (Qw E ws sz post) mc ms (va_A ws sz) := by
  intro sz
  refine Met.ofW (cc := cc) (maxL := maxL) (ret := ret) hy rfl ?_
  intro p e s m args below meth c s₁ B hml hv
  obtain ⟨rfl, hsz, hP, hD0, hK, hE⟩ := hv
  have hts := atoms_spec (ws := .code y cc maxL ret :: LT) B.pre
  subst hsz
  have hl := lv_entry av (n := maxL) hlen
  rw [lg_entry_eq]
  exact body p e s m below meth c _ ⟨B.exec, B.bytes, hml, B.returns, B.notSynchronized, findClass_of_methodNamed B.named, fun w h => hts w (List.mem_cons_of_mem _ h), hK, hE, fun q h => Or.inr h⟩ ⟨hP, hD0.self, va_S.rf⟩ (name_of_methodNamed B.named B.method).1 hl
end CI
section CR
variable {p : Program} {l : Launch} {e : Env} {R : Room} {s : State} {m : MethodId} {args : Array Value} {below : List Frame} {meth : Method} {c : Code} {H : Heap} {locs : List Loc} {cells slots : Nat} {Q : State → Prop}
variable {E : Gq} {cc : ByteArray} {nL : Nat} {ret : Option FieldType} {own : String} {A : Nat → Prop} {ws wc wr : va_W} {pc : Nat} {ls : Array Slot} {rest : List Value}
theorem Wl.sub {ws' : va_W} (h : Wl E A ws s H locs) (is : List Nat) (hn : va_nd is = true) (h1 : is.filterMap (fun i => ws[i]?) = ws') (h2 : is.map (fun i => ws[i]?) = ws'.map some) : Wl E A ws' s H locs := ⟨h.1.sub is h1, h.2.1.sub is hn h2, h.2.2⟩
theorem objI (C : Cx E p s m args meth c cc nL ret own A) {idx a : Nat} (hl : Cond.methodLink own idx ⟨"java/lang/Object", "<init>", "()V"⟩ ∈ LT) (hsz : ls.size = nL) (hW : (rest.map fun v => v.category).sum ≤ 8) (hR : 1 ≤ R.frames ∧ 28 ≤ R.locals) (hdg : decode cc pc = .ok (.invokespecial idx, 3))
    (kk : W p l e R s m args below meth c H locs cells slots Q (F0 m (pc + 3) ls rest)) : W p l e R s m args below meth c H locs cells slots Q (F0 m pc ls (.ref a :: rest)) :=
  W.objInit C.hx C.hb C.hown (C.hts _ hl) (C.hts _ tw_19) (C.hts _ tw_20) rfl (hsz.trans C.hml.symm) rfl hdg hR.1 (by show 2 * 0 + _ + 12 ≤ _; have := hR.2; omega) kk
theorem putF {ci N q0 idx a : Nat} {T : u_T} {fs : List Value} {Cn : String} {v : Value} (C : Cx E p s m args meth c cc nL ret own A) (Wd : Wl E A ws s H locs) (hin2 : meth.name = "<init>") (q0 : Nat) (he : ws[q0]? = some (a, .inr (ci, fs))) (hc : vwCl[ci]? = some (Cn, T, N)) (hin : ∀ w ∈ u_ws Cn T N, w ∈ LT) (ty0 : Nat → FieldType) (hty : ∀ k, k < N → parseFieldDescriptor (T k).2.2.1 = some (ty0 k)) (hnm : ∀ a, a < N → ∀ b, b < N → a ≠ b → (T a).2.1 ≠ (T b).2.1) (k : Nat) (hk : k < N) (hl : Cond.fieldLink own idx (T k).1 (T k).2.1 (T k).2.2.1 ∈ LT) (hfin : (T k).2.2.2 = true) (hdecl : (T k).1 = own) {ty : FieldType} (hd : parseFieldDescriptor (T k).2.2.1 = some ty) (hn : narrow ty v = v) (hfit : fits ty v = true) (hlt : k < fs.length) (hdg : decode cc pc = .ok (.putfield idx, 3))
    (kk : ∀ (H1 : Heap) (locs1 : List Loc), Wl E A (ws.set q0 (a, .inr (ci, fs.set k v))) s H1 locs1 → W p l e R s m args below meth c H1 locs1 cells slots Q (F0 m (pc + 3) ls rest)) : W p l e R s m args below meth c H locs cells slots Q (F0 m pc ls (v :: .ref a :: rest)) :=
  va_putF C.hx C.hb C.hts hin ty0 hty hnm C.hown C.hK.1 Wd.1 Wd.2.1 Wd.2.2 q0 he hc k hk (C.hts _ hl) (fun _ h => h) hfin hin2 hdecl hd hn hfit hlt hdg (fun H1 locs1 a1 a2 a3 => kk H1 locs1 ⟨a1, a2, a3⟩)
theorem newJ (C : Cx E p s m args meth c cc nL ret own A) (Wd : Wl E A ws s H locs) {N : Nat} (hN : N ≤ 10000) (hcells : cells + 1 ≤ R.cells) (hslots : slots + N ≤ R.slots) (hdg : decode cc pc = .ok (.newarray .long, 2))
    (kk : ∀ (q : Nat) (H1 : Heap), Wl E A (ws ++ [(q, .inl (E.2.2.1, N, .inr (.inl (fun _ => 0))))]) s H1 locs → W p l e R s m args below meth c H1 locs (cells + 1) (slots + N) Q (F0 m (pc + 2) ls (.ref q :: rest))) : W p l e R s m args below meth c H locs cells slots Q (F0 m pc ls (.int (nI N) :: rest)) := by
  refine va_newa (atype := .long) (ty := .long) (a0 := (N, .inr (.inl (fun _ => 0)))) C.hx C.hb (C.hts _ tw_38) rfl C.hK.1 Wd.1 Wd.2.1 Wd.2.2 C.hA (fun cA => rfl) (nI_pos (by omega)) (nI_clamp (by omega)) (by show N * 8 ≤ _; omega) hcells hslots hdg (fun q cA H1 hK hP hD hS => ?_)
  have e : cA = E.2.2.1 := by
    have h1 := (hK.2 2 _ rfl).2
    have h2 := (C.hK.1.2 1 _ rfl).2
    exact Option.some.inj (h1.symm.trans h2)
  subst e
  exact kk q H1 ⟨hP, hD, hS⟩
theorem newI (C : Cx E p s m args meth c cc nL ret own A) (Wd : Wl E A ws s H locs) {N : Nat} (hN : N ≤ 10000) (ha : Cond.arrayClass .int ∈ LT) (hcells : cells + 1 ≤ R.cells) (hslots : slots + N ≤ R.slots) (hdg : decode cc pc = .ok (.newarray .int, 2))
    (kk : ∀ (q : Nat) (H1 : Heap), Wl E A (ws ++ [(q, .inl (E.2.1, N, .inl (fun _ => nI 0)))]) s H1 locs → W p l e R s m args below meth c H1 locs (cells + 1) (slots + N) Q (F0 m (pc + 2) ls (.ref q :: rest))) : W p l e R s m args below meth c H locs cells slots Q (F0 m pc ls (.int (nI N) :: rest)) := by
  refine va_newa (atype := .int) (ty := .int) (a0 := (N, .inl (fun _ => nI 0))) C.hx C.hb (C.hts _ ha) rfl C.hK.1 Wd.1 Wd.2.1 Wd.2.2 C.hA (fun cA => rfl) (nI_pos (by omega)) (nI_clamp (by omega)) (by show N * 4 ≤ _; omega) hcells hslots hdg (fun q cA H1 hK hP hD hS => ?_)
  have e : cA = E.2.1 := by
    have h1 := (hK.2 2 _ rfl).2
    have h2 := (C.hK.1.2 0 _ rfl).2
    exact Option.some.inj (h1.symm.trans h2)
  subst e
  exact kk q H1 ⟨hP, hD, hS⟩
theorem newO (C : Cx E p s m args meth c cc nL ret own A) (Wd : Wl E A ws s H locs) {ci N idx : Nat} {T : u_T} {Cn : String} {fs : List Value} (ty : Nat → FieldType) (hc : vwCl[ci]? = some (Cn, T, N)) (hin : ∀ w ∈ u_ws Cn T N, w ∈ LT) (hty : ∀ k, k < N → parseFieldDescriptor (T k).2.2.1 = some (ty k)) (hl : Cond.classLink own idx Cn ∈ LT) (hi : Cond.instantiable Cn N ∈ LT) (hini : Cond.initialized Cn ∈ LT) (hfs : ∀ j, j < N → defaultValue (ty j) = vp_V fs j) (hcells : cells + 1 ≤ R.cells) (hslots : slots + N ≤ R.slots) (hdg : decode cc pc = .ok (.new idx, 3))
    (kk : ∀ (q : Nat) (H1 : Heap), Wl E A (ws ++ [(q, .inr (ci, fs))]) s H1 locs → W p l e R s m args below meth c H1 locs (cells + 1) (slots + N) Q (F0 m (pc + 3) ls (.ref q :: rest))) : W p l e R s m args below meth c H locs cells slots Q (F0 m pc ls rest) :=
  va_new C.hx C.hb C.hts hin ty hty C.hown (C.hts _ hl) (C.hts _ hi) (C.hts _ hini) C.hK.1 Wd.1 Wd.2.1 Wd.2.2 C.hA hc hfs hcells hslots hdg (fun q H1 a1 a2 a3 => kk q H1 ⟨a1, a2, a3⟩)
theorem runIN {y : MethodName} {bytes : ByteArray} {maxL n k mc ms idx b : Nat} {As : List Value} {st0 : List Value} {Qc : Nat → Array Value → State → Outcome → State → Prop} {free : Nat → Addr → Prop} (C : Cx E p s m args meth c cc nL ret RX2 A) (Wd : Wl E A ws s H locs) (hM : ∀ sz : Nat, Met l y (.code y bytes maxL none :: LT) (Rm k mc ms) (Pw E (.ref b :: As) ws sz) (Qc sz) mc ms (free sz)) (hy : Wy y bytes maxL none n) (hnm : y.name = "<init>") (hl : (idx, y) ∈ NWM)
    (hR : k + 1 ≤ R.frames ∧ 28 * (k + 1) ≤ R.locals) (hn : As.length = n) (hsz : ls.size = nL) (hst : st0 = As.reverse ++ .ref b :: rest) (hW : (rest.map fun v => v.category).sum ≤ 8) (hdg : decode cc pc = .ok (.invokespecial idx, 3)) (hf : cells + mc ≤ R.cells ∧ slots + ms ≤ R.slots) :
    va_Run p l e R s m args below meth c H locs cells slots mc ms (F0 m pc ls st0) rest (Qc H.size (Value.ref b :: As).toArray) (free H.size) := by
  obtain ⟨w1, w2, w3, w4, w5⟩ := hy
  refine va_runIN (b := b) (As := As) (index := idx) (host := RX2) ⟨C.hx, C.hb, C.hml, C.hown, C.hts⟩ (hM H.size) ⟨va_cnB n C.hts (gLT w1) rfl rfl rfl (C.hK.2.1 _ hl) (C.hts _ w2) w5 ⟨hR.1, ?_⟩, hnm, C.hts _ w3⟩ ⟨Pw.blind _ _ _ _, C.pre Wd (.ref b :: As)⟩ rfl hn hsz hst (lv_room hW) hdg hf
  have := hR.2
  show 8 + (maxL + 11) + 28 * k ≤ R.locals
  omega
end CR
/-- a row -/
theorem c1_init {l : Launch} {E : Gq} {h cap : Nat} (hcap : cap ≤ 1000) : ∀ sz : Nat, Met l yX1_init (.code yX1_init cX1_init 2 none :: LT) (Rm 1 1 cap) (Pw E [.ref h, .int (nI cap)] [(h, .inr (1, [.null, .int 0]))] sz) (Qw E [(h, .inr (1, [.null, .int 0]))] sz (fun r ws' => ∃ a, r = none ∧ ws' = [(h, .inr (1, [.ref a, .int (nI 0)])), (a, .inl (E.2.2.1, cap, .inr (.inl (fun _ => 0))))])) 1 cap (va_A [(h, .inr (1, [.null, .int 0]))] sz) := by
  refine mk_i (by decide) (Nat.le_of_ble_eq_true rfl) ?_
  intro p e s m below meth c ls C Wd hin hl
  have hl : lv_has ls 2 [(0, .ref h), (1, .int (nI cap))] := hl
  refine lv_aload_n C.hx C.hb dX1_init_0 rfl (lv_at hl 0 rfl) ?_
  refine objI C tw_26 hl.1 (Nat.le_of_ble_eq_true rfl) ⟨Nat.le_of_ble_eq_true rfl, Nat.le_of_ble_eq_true rfl⟩ dX1_init_1 ?_
  refine lv_aload_n C.hx C.hb dX1_init_4 rfl (lv_at hl 0 rfl) ?_
  refine lv_iconst (v := nI 0) C.hx C.hb dX1_init_5 (by decide) ?_
  refine putf C Wd 0 rfl rfl in_X1 tyX1 tyX1_ok nmX1 1 (by decide) tw_31 rfl (ty := .int) (by decide +kernel) rfl rfl (Nat.le_of_ble_eq_true rfl) dX1_init_6 (fun H locs Wd => ?_)
  refine lv_aload_n C.hx C.hb dX1_init_9 rfl (lv_at hl 0 rfl) ?_
  refine lv_iconst (v := nI 0) C.hx C.hb dX1_init_10 (by decide) ?_
  refine lv_iload_n C.hx C.hb dX1_init_11 rfl (lv_at hl 1 rfl) ?_
  refine va_mmax C.hx C.hb (C.hml.trans hl.1.symm) C.hown (C.hts _ tw_27) (C.hts _ tw_28) (C.hts _ tw_3) (C.hts _ tw_29) (Nat.le_of_ble_eq_true rfl) (Nat.le_of_ble_eq_true rfl) (Nat.zero_le _) (Nat.zero_le _) dX1_init_12 ?_
  refine n_re (j := nI cap) ((nmax (by omega) (by omega)).trans (congrArg nI (Nat.zero_max cap))) ?_
  refine newJ C Wd (by omega) (by show 0 + 1 ≤ 1; omega) (by show 0 + cap ≤ cap; omega) dX1_init_15 (fun q H Wd => ?_)
  refine putF (q0 := 0) C Wd hin 0 rfl rfl in_X1 tyX1 tyX1_ok nmX1 0 (by decide) tw_30 rfl rfl (ty := .array .long) (by decide +kernel) rfl rfl (Nat.le_of_ble_eq_true rfl) dX1_init_17 (fun H locs Wd => ?_)
  have e : 0 + cap = cap := Nat.zero_add _
  rw [e]
  exact ret_vw C Wd ⟨q, rfl, rfl⟩ dX1_init_20
