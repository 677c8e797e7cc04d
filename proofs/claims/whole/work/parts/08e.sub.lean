/-! worlds side by side: a call on a part of a world -/
section SB
variable {A : Nat → Prop} {D : va_G} {cl : List vw_C} {a b : va_W} {H : Heap}
theorem gl {i : Nat} {q : Nat × va_E} (h : a[i]? = some q) : (a ++ b)[i]? = some q := by
  rw [List.getElem?_append_left (List.getElem?_eq_some_iff.mp h).1]; exact h
theorem gr {i : Nat} {q : Nat × va_E} (h : b[i]? = some q) : (a ++ b)[a.length + i]? = some q := by
  rw [List.getElem?_append_right (by omega), Nat.add_sub_cancel_left]; exact h
theorem vp_l (h : va_P D cl (a ++ b) H) : va_P D cl a H := fun _ q hk => h _ q (gl hk)
theorem vp_r (h : va_P D cl (a ++ b) H) : va_P D cl b H := fun _ q hk => h _ q (gr hk)
theorem vd_l (h : va_D A (a ++ b)) : va_D A a := ⟨fun i j x y hi hj hxy => h.1 i j x y (gl hi) (gl hj) hxy, fun _ q hk => h.2 _ q (gl hk)⟩
theorem vd_r (h : va_D A (a ++ b)) : va_D A b := ⟨fun i j x y hi hj hxy => by
    have := h.1 _ _ x y (gr hi) (gr hj) hxy
    omega, fun _ q hk => h.2 _ q (gr hk)⟩
theorem vd_x (h : va_D A (a ++ b)) : ∀ (i j : Nat) (p q : Nat × va_E), a[i]? = some p → b[j]? = some q → p.1 ≠ q.1 := fun i j p q hi hj e => by
  have h1 := h.1 _ _ p q (gl hi) (gr hj) e
  have h2 := (List.getElem?_eq_some_iff.mp hi).1
  omega
end SB
section SC
variable {p : Program} {l : Launch} {e : Env} {R : Room} {s : State} {m : MethodId} {args : Array Value} {below : List Frame} {meth : Method} {c : Code} {H : Heap} {locs : List Loc} {cells slots : Nat} {Q : State → Prop}
variable {E : Gq} {cc : ByteArray} {nL : Nat} {ret : Option FieldType} {own : String} {A : Nat → Prop} {ws wc wr : va_W} {pc : Nat} {ls : Array Slot} {rest : List Value}
theorem Wl.left (h : Wl E A (wc ++ wr) s H locs) : Wl E A wc s H locs := ⟨vp_l h.1, vd_l h.2.1, h.2.2⟩
theorem Wl.right (h : Wl E A (wc ++ wr) s H locs) : Wl E A wr s H locs := ⟨vp_r h.1, vd_r h.2.1, h.2.2⟩
theorem Wl.swap (h : Wl E A (wc ++ wr) s H locs) : Wl E A (wr ++ wc) s H locs := ⟨va_P.app (vp_r h.1) (vp_l h.1), va_D.app (vd_r h.2.1) (vd_l h.2.1) (fun i j p q hi hj e => vd_x h.2.1 j i q p hj hi e.symm), h.2.2⟩
theorem Wl.grow {H1 : Heap} (h : Wl E A ws s H locs) (hz : H.size ≤ H1.size) (hk : ∀ q : Nat, q < H.size → H1[q]? = H[q]?) : Wl E A ws s H1 locs :=
  ⟨fun k q hq => (h.1 k q hq).kept (hk q.1 (h.1 k q hq).lt), h.2.1, Nat.le_trans h.2.2.1 hz, fun q h1 h2 => by rw [hk q (Nat.lt_of_lt_of_le h1 h.2.2.1)]; exact h.2.2.2.1 q h1 h2, h.2.2.2.2⟩
theorem call_w2 {st0 : List Value} {a : Array Value} {mc ms : Nat} {post : Option Value → va_W → Prop} (C : Cx E p s m args meth c cc nL ret own A) (Wd : Wl E A (wc ++ wr) s H locs) (hr : va_Run p l e R s m args below meth c H locs cells slots mc ms (F0 m pc ls st0) rest (Qw E wc H.size post a) (va_A wc H.size))
    (kk : ∀ (v : Option Value) (wc' : va_W) (H1 : Heap) (locs1 : List Loc), post v wc' → Wl E A (wc' ++ wr) s H1 locs1 → W p l e R s m args below meth c H1 locs1 (cells + mc) (slots + ms) Q (F0 m (pc + 3) ls (v.toList ++ rest))) : W p l e R s m args below meth c H locs cells slots Q (F0 m pc ls st0) := by
  intro T hT X
  obtain ⟨v, st₀, t, T', L, h0, X', hL, e1, e2, ⟨⟨r, ws', hv, hp, hP, hD⟩, hz, hk⟩, st⟩ := hr T hT X
  cases hv
  rw [h0] at hz hk
  have hin := Wd.left.inA C
  have hS := Wd.2.2
  have hx := vd_x Wd.2.1
  have ap : ∀ (k : Nat) (q : Nat × va_E), wr[k]? = some q → q.1 < H.size ∧ ¬ va_A wc H.size q.1 := fun k q hq => by
    have hl := (vp_r Wd.1 k q hq).lt
    refine ⟨hl, fun h => ?_⟩
    rcases h with ⟨k2, e, h⟩ | h
    · exact hx k2 k _ q h hq rfl
    · omega
  obtain ⟨t2, a1, b1⟩ := kk v ws' T'.heap (locs ++ L) hp ⟨by
      rw [e1]
      exact va_P.app hP (fun k q hq => (vp_r Wd.1 k q hq).kept (hk q.1 (ap k q hq).1 (ap k q hq).2)),
    va_D.app (hD.weaken (fun _ q _ h => hin q.1 h)) (vd_r Wd.2.1) (fun i j x y hi hj hxy => (ap j y hj).2 (by rw [← hxy]; exact hD.2 i x hi)),
    Nat.le_trans hS.1 (by rw [e1]; exact hz), fun q h1 h2 => by
      rw [e1, hk q (Nat.lt_of_lt_of_le h1 hS.1) (fun z => h2 (hin q z))]; exact hS.2.1 q h1 h2, fun q hq => by
      rcases List.mem_append.mp hq with h | h
      · exact hS.2.2 q h
      · exact hin _ (hL q h)⟩ T' rfl X'
  exact ⟨t2, st t2 a1, b1⟩
/-- 'invokestatic' of a method with a table of handlers -/
theorem callSW {T : State} (X : Stand p l e R s m args below meth c T locs cells slots) (hexec : p.tables.exec = Jvm.exec) {index : Nat} {y : MethodName} {bytes : ByteArray} {maxL : Nat} {rt : Option FieldType} {hh : List (Nat × Nat × Nat × Nat)}
    (hown : s.vm.findClass own = some m.cls) (hlink : (Cond.methodLink own index y).before args s = true) (hstat : (Cond.static y).before args s = true) (hinit : (Cond.initialized y.cls).before args s = true)
    (hcode : (Cond.codeWith y bytes maxL rt hh).before args s = true) (hy : y.cls ≠ "java/lang/invoke/MethodHandle" ∧ y.cls ≠ "java/lang/invoke/VarHandle")
    {W : Nat} {Pre : Pt → Array Value → Prop} {Post : Pt → Array Value → Option Value → Pt → Prop} (hK : Back l R p e below s args y 3 W Pre Post)
    {g : JFrame} (hg : g.method = m) (hsize : g.locals.size = c.maxLocals) {argsL rest : List Value} (hlen : ∀ sig, parseMethodDescriptor y.desc = some sig → argsL.length = sig.parameters.length)
    (hstack : g.stack = argsL.reverse ++ rest) (hW : 2 * g.monitorRoom + (rest.map fun v => v.category).sum ≤ W) (hdg : decode c.code g.pc = .ok (.invokestatic index, 3))
    (hpre : ∀ vm₁, s.WarmedH vm₁ → Pre ⟨T.setVm vm₁, locs, cells, slots⟩ argsL.toArray) :
    ∃ (v : Option Value) (vm₁ : Vm) (B : Pt), s.WarmedH vm₁ ∧ Stand p l e R s m args below meth c B.U B.locs B.cells B.slots ∧ Post ⟨T.setVm vm₁, locs, cells, slots⟩ argsL.toArray v B ∧
      ∀ target, Steps p.tables e below (B.U.setTop { g with pc := g.pc + 3, stack := v.toList ++ rest }) target → Steps p.tables e below (T.setTop g) target := by
  obtain ⟨mk, methM, cM, hnamed, hmethM, -, -, -, -, -, -, hsigM⟩ := Cond.codeWith_spec hcode
  have hstatic : methM.isStatic = true := Cond.static_spec hnamed hmethM hstat
  obtain ⟨kP, hkP, -⟩ := className_of_methodNamed hnamed
  have hinitP : kP.init = .initialized := Cond.initialized_spec (findClass_of_methodNamed hnamed) hkP hinit
  obtain ⟨vm₁, X₁, hstep₁⟩ := X.invokestatic hexec hown hlink hnamed hmethM hstatic hkP hinitP hy (g := g) hg (argsL := argsL) (rest := rest) (hlen _ hsigM) hstack hdg
  obtain ⟨v, B, X', hpost, hsteps⟩ := hK m meth c ⟨T.setVm vm₁, locs, cells, slots⟩ { g with stack := rest } (.invokestatic index) mk argsL.toArray X₁ hg hsize hdg hW (X₁.named hnamed) (hpre vm₁ X₁.warmed)
  exact ⟨v, vm₁, B, X₁.warmed, X', hpost, fun target h => hstep₁ _ fun acts => by rw [doInvoke_state]; exact hsteps.trans h⟩
theorem runSW {index : Nat} {y : MethodName} {bytes : ByteArray} {maxL k mc ms n : Nat} {rt : Option FieldType} {hh : List (Nat × Nat × Nat × Nat)} {Pc : Array Value → State → Prop} {Qc : Array Value → State → Outcome → State → Prop} {free : Addr → Prop} {As st0 : List Value}
    (C : Cx E p s m args meth c cc nL ret own A) (hM : Met l y (.codeWith y bytes maxL rt hh :: LT) (Rm k mc ms) Pc Qc mc ms free) (hbl : FrameBlind Pc) (hcw : (Cond.codeWith y bytes maxL rt hh).before args s = true) (hini : Cond.initialized y.cls ∈ LT) (hstat : Cond.static y ∈ LT) (hl : Cond.methodLink own index y ∈ LT)
    (hy : y.cls ≠ "java/lang/invoke/MethodHandle" ∧ y.cls ≠ "java/lang/invoke/VarHandle" ∧ (parseMethodDescriptor y.desc).map (fun d => d.parameters.length) = some n) (hmx : maxL ≤ 9) (hp : ∀ U : State, U.heap = H → s.WarmedH U.vm → Pc As.toArray U)
    (hR : k + 1 ≤ R.frames ∧ 28 * (k + 1) ≤ R.locals) (hn : As.length = n) (hsz : ls.size = nL) (hst : st0 = As.reverse ++ rest) (hW : (rest.map fun v => v.category).sum ≤ 8) (hdg : decode cc pc = .ok (.invokestatic index, 3)) (hf : cells + mc ≤ R.cells ∧ slots + ms ≤ R.slots) :
    va_Run p l e R s m args below meth c H locs cells slots mc ms (F0 m pc ls st0) rest (Qc As.toArray) free := by
  have hin : (Cond.initialized y.cls).before args s = true := C.hts _ hini
  have hlo : 8 + (maxL + 11) + (Rm k mc ms).locals ≤ R.locals := by
    have := hR.2
    show 8 + (maxL + 11) + 28 * k ≤ R.locals
    omega
  have hK : Back l R p e below s args y 3 8 (PreOf R mc ms Pc) (PostOf Qc mc ms free) := va_backW (hh := hh) (bytes := bytes) (maxL := maxL) (ret := rt) hM hbl rfl rfl hR.1 hlo
    (fun w hw a' U hU => by
      rcases List.mem_cons.mp hw with rfl | hw
      · exact word_at hU (Or.inl (by first | rfl | simp [Cond.onTables, Cond.keeps, Cond.steady])) hcw
      · exact word_at hU (LT_good _ hw) (C.hts _ hw)) List.mem_cons_self (fun a' U hU => word_at hU (Or.inl (by first | rfl | simp [Cond.onTables, Cond.keeps, Cond.steady])) hin)
  intro T hT X
  obtain ⟨v, vm₁, ⟨U', l2, c2, s2⟩, hW₁, X', ⟨g', mk, t, L, e1, e2, hq, h1, hL, h2, h3⟩, st⟩ := callSW X C.hx (bytes := bytes) (maxL := maxL) (rt := rt) (hh := hh) C.hown (C.hts _ hl) (C.hts _ hstat) hin hcw ⟨hy.1, hy.2.1⟩ hK (g := F0 m pc ls st0) rfl (hsz.trans C.hml.symm) (argsL := As) (rest := rest) (fun sig h => by
      have h2 := hy.2.2
      rw [h] at h2
      exact hn.trans (Option.some.inj h2).symm) hst (lv_room hW) (by rw [C.hb]; exact hdg) (fun vm₁ hW₁ => ⟨hf.1, hf.2, hp (T.setVm vm₁) hT hW₁⟩)
  dsimp only [Pt.U, Pt.locs, Pt.cells, Pt.slots] at X' e1 e2 h1 h2 h3 st
  subst h1; subst h2; subst h3
  exact ⟨v, (T.setVm vm₁).calling g' mk As.toArray, t, U', L, hT, X', hL, e1, e2, hq, st⟩
end SC
