/-- what the throw leaves behind: a new object of the class that is thrown, all else as it was -/
def ThrQ (s : State) (a : Addr) (t : State) : Prop := ∃ ce : Cell, s.WarmedH t.vm ∧ s.sameButNew ({ t with vm := s.vm } : State) [] 1 6 ∧ s.heap.size ≤ a ∧ t.heap[a]? = some ce ∧ s.vm.findClass xAI = some ce.cls ∧ ce.vm = .none ∧ s.vm.assignable ce.cls ce.cls = true
def Thr (below : List Frame) (s : State) : State → Prop := fun t => ∃ a : Addr, t.status = .running ∧ Ended t below (.threw a) ∧ ThrQ s a t
def PwT (E : Gq) (av : List Value) (ws : va_W) (sz : Nat) : Array Value → State → Prop := fun a U => Pw E av ws sz a U ∧ TQ (va_A ws sz) U U.heap
theorem PwT.blind (E : Gq) (av : List Value) (ws : va_W) (sz : Nat) : FrameBlind (PwT E av ws sz) := fun a U g mk q => ⟨Pw.blind E av ws sz a U g mk q.1, TQ.same (u := U) (U := U.calling g mk a) (H := U.heap) rfl q.2⟩
set_option maxHeartbeats 4000000 in
theorem w_thr {p : Program} {l : Launch} {e : Env} {s : State} {m : MethodId} {args : Array Value} {below : List Frame} {meth : Method} {c : Code} {E : Gq} {A A' : Nat → Prop} {ls : Array Slot} (C : Cx E p s m args meth c cX2_index 3 (some .int) RX2 A) (hT : TQ A' s s.heap) (htr : e.platform.stackTraces = false) (hout : c.exceptionTable.isEmpty = true) (hls : ls.size = 3) : W p l e (Rm 7 1 6) s m args below meth c s.heap [] 0 0 (Thr below s) (F0 m 51 ls []) := by
  intro T hT0 X
  have hlk : meth.locks = false := C.hlk
  obtain ⟨q, hq⟩ := hT.2.2
  obtain ⟨vm₁, cX, kX, hfX, hkX, -, -, X₁, st1⟩ := X.newCold C.hx (own := RX2) (C := xAI) (index := 140) (n := 6) C.hown (C.hts _ tw_285) (C.hts _ tw_286) (C.hts _ tw_12) (g := F0 m 51 ls []) rfl (by rw [C.hb]; exact dX2_index_51) (by decide) (by decide)
  generalize hTT : (T.setVm vm₁).pushCell { cls := cX, slots := kX.instanceTypes.map defaultValue, vm := .none } = T1 at X₁ st1
  have hcellA : T1.heap[T.heap.size]? = some (freshCell cX kX) := by rw [← hTT]; exact State.heap_pushCell_size _ _
  obtain ⟨U, hsteps, hrun, hend, hW, hsame, ce, hce, K⟩ := X₁.ctorThrowS C.hx htr (own := RX2) (cls := xAI) (names := upAI) (ic := 144) C.hown (by decide +kernel) (by decide +kernel)
    (hT.own C.hts) (fun y hy => by cases hy) hfX hkX hcellA (by rw [hT0]; exact Nat.le_refl _) (msg := .ref q) rfl
    (g := F0 m 57 ls [.ref q, .ref T.heap.size, .ref T.heap.size]) rfl (hls.trans C.hml.symm) rfl rfl (rest := []) rfl
    (by rw [C.hb]; exact dX2_index_57) (by rw [C.hb]; exact dX2_index_60) (covers_of_empty hout _) (by decide) (by show 2 * 0 + 1 + (13 * 4 + 42) ≤ 28 * 7; decide)
  refine ⟨U, ?_, T.heap.size, hrun, hend, ce, hW, hsame, by rw [hT0]; exact Nat.le_refl _, hce, K.cls, K.vm, K.self⟩
  refine st1 _ ?_
  show Steps p.tables e below (T1.setTop (F0 m 54 ls [.ref T.heap.size])) _
  jvm_step X₁.here [X₁.here.top, C.hx, C.hb, dX2_index_54, Value.category]
  refine X₁.ldcString C.hx C.hown (text := "no such level, interval or area") (a := q) hq.1 hq.2 (g := F0 m 55 ls [.ref T.heap.size, .ref T.heap.size]) rfl (by rw [C.hb]; exact dX2_index_55) _ ?_
  exact hsteps
set_option maxHeartbeats 4000000 in
set_option maxRecDepth 100000 in
/-- index throws where there is no such level, interval or area -/
theorem c2_index_x {l : Launch} {E : Gq} {z : Nat → Nat} {v : Nat → Int32} {kd : Nat} {K : List Int64} {L N S P : List Nat} (hfl : ∀ e, l.admits e → e.platform.stackTraces = false) {lev i : Int32} (hb0 : ¬ (lev = 0 ∧ hld S.length i ≠ 0)) (hb1 : ¬ (lev = 1 ∧ hld P.length i ≠ 0)) : ∀ f, Rok f K L N S P → ∀ sz : Nat, MetFree l yX2_index (headSpec (.code yX2_index cX2_index 3 (some .int) :: LT) (Rm 7 1 6)) (PwT E [.ref (z 0), .int lev, .int i] (w2 E z v kd K L N S P f) sz) (fun _ _ _ _ _ => True) (fun _ st o t => ∃ a, o = .threw a ∧ ThrQ st a t) := by
  intro f hf sz
  refine MetFree.of_bodyS (code := cX2_index) (maxLocals := 3) (ret := some .int) (by decide) ?_ ?_
  · intro args s m h hn
    obtain ⟨meth, c, h1, h2, h3, h4, h5, h6, -, -⟩ := Cond.code_spec hn (atoms_spec (ws := .code yX2_index cX2_index 3 (some .int) :: LT) h _ List.mem_cons_self)
    exact ⟨meth, c, h1, h2, h3, h4, h5, h6⟩
  intro p e s m args below meth c s₁ B hml hv _
  obtain ⟨⟨rfl, hsz, hP, hD0, hK, hE⟩, hTQ⟩ := hv
  have hts := atoms_spec (ws := .code yX2_index cX2_index 3 (some .int) :: LT) B.pre
  subst hsz
  have hl := lv_entry ([.ref (z 0), .int lev, .int i] : List Value) (n := 3) (Nat.le_of_ble_eq_true rfl)
  have hh0 : s₁.heap = s.heap := by rw [B.state]; rfl
  have htr := hfl e (Stand.of_body B).admits
  have hout : c.exceptionTable.isEmpty = true := B.noHandlers (hts _ List.mem_cons_self)
  have C : Cx E p s m ([.ref (z 0), .int lev, .int i] : List Value).toArray meth c cX2_index 3 (some .int) RX2 (va_A (w2 E z v kd K L N S P f) s.heap.size) := ⟨B.exec, B.bytes, hml, B.returns, B.notSynchronized, findClass_of_methodNamed B.named, fun w h => hts w (List.mem_cons_of_mem _ h), hK, hE, fun q h => Or.inr h⟩
  have X : X2w E (va_A (w2 E z v kd K L N S P f) s.heap.size) z v kd K L N S P s s.heap [] := ⟨f, ⟨hP, hD0.self, va_S.rf⟩, hf⟩
  have key : ∀ ls : Array Slot, lv_has ls 3 [(0, .ref (z 0)), (1, .int lev), (2, .int i)] → W p l e (Rm 7 1 6) s m ([.ref (z 0), .int lev, .int i] : List Value).toArray below meth c s.heap [] 0 0 (Thr below s) (F0 m 0 ls []) := by
    intro ls hl
    refine lv_iload_n C.hx C.hb dX2_index_0 rfl (lv_at hl 1 rfl) ?_
    refine lv_if_ne (tgt := 21) C.hx C.hb dX2_index_1 (by decide) (fun c1 => ?_) (fun c1 => ?_)
    · refine lv_iload_n C.hx C.hb dX2_index_21 rfl (lv_at hl 1 rfl) ?_
      refine lv_iconst (v := nI (1)) C.hx C.hb dX2_index_22 (by decide) ?_
      refine lv_icmp_ne (tgt := 51) C.hx C.hb dX2_index_23 (by decide) (fun c23 => ?_) (fun c23 => ?_)
      · exact w_thr C hTQ htr hout hl.1
      · refine lv_aload_n C.hx C.hb dX2_index_26 rfl (lv_at hl 0 rfl) ?_
        refine x2g_8 C X dX2_index_27 ?_
        refine lv_iload_n C.hx C.hb dX2_index_30 rfl (lv_at hl 2 rfl) ?_
        refine x2_holds_5 C X ⟨by decide, by decide⟩ hl.1 (Nat.le_of_ble_eq_true rfl) ⟨Nat.zero_le _, Nat.zero_le _⟩ dX2_index_31 ?_
        refine lv_if_eq (tgt := 51) C.hx C.hb dX2_index_34 (by decide) (fun c34 => ?_) (fun c34 => ?_)
        · exact w_thr C hTQ htr hout hl.1
        · exact absurd ⟨c23, c34⟩ hb1
    · refine lv_aload_n C.hx C.hb dX2_index_4 rfl (lv_at hl 0 rfl) ?_
      refine x2g_7 C X dX2_index_5 ?_
      refine lv_iload_n C.hx C.hb dX2_index_8 rfl (lv_at hl 2 rfl) ?_
      refine x2_holds_4 C X ⟨by decide, by decide⟩ hl.1 (Nat.le_of_ble_eq_true rfl) ⟨Nat.zero_le _, Nat.zero_le _⟩ dX2_index_9 ?_
      refine lv_if_eq (tgt := 21) C.hx C.hb dX2_index_12 (by decide) (fun c12 => ?_) (fun c12 => ?_)
      · refine lv_iload_n C.hx C.hb dX2_index_21 rfl (lv_at hl 1 rfl) ?_
        refine lv_iconst (v := nI (1)) C.hx C.hb dX2_index_22 (by decide) ?_
        refine lv_icmp_ne (tgt := 51) C.hx C.hb dX2_index_23 (by decide) (fun c23 => ?_) (fun c23 => ?_)
        · exact w_thr C hTQ htr hout hl.1
        · refine lv_aload_n C.hx C.hb dX2_index_26 rfl (lv_at hl 0 rfl) ?_
          refine x2g_8 C X dX2_index_27 ?_
          refine lv_iload_n C.hx C.hb dX2_index_30 rfl (lv_at hl 2 rfl) ?_
          refine x2_holds_5 C X ⟨by decide, by decide⟩ hl.1 (Nat.le_of_ble_eq_true rfl) ⟨Nat.zero_le _, Nat.zero_le _⟩ dX2_index_31 ?_
          refine lv_if_eq (tgt := 51) C.hx C.hb dX2_index_34 (by decide) (fun c34 => ?_) (fun c34 => ?_)
          · exact w_thr C hTQ htr hout hl.1
          · exact absurd ⟨c23, c34⟩ hb1
      · exact absurd ⟨c1, c12⟩ hb0
  obtain ⟨t, a1, a, b1, b2, b3⟩ := key _ hl s₁ hh0 (Stand.of_body B)
  rw [lg_entry_eq]
  exact ⟨t, .threw a, a1, b1, b2, a, rfl, b3⟩
