/-- a method with a table of handlers, that may be thrown to -/
theorem mk_x {l : Launch} {E : Gq} {ws : va_W} {cc : ByteArray} {ret : Option FieldType} {y : MethodName} {maxL k mc ms : Nat} {av : List Value} {post : Option Value → va_W → Prop} {hh : List (Nat × Nat × Nat × Nat)} (hy : plainName y.cls = true) (hlen : (lg_sl av).length ≤ maxL)
    (body : ∀ (p : Program) (e : Env) (s : State) (m : MethodId) (below : List Frame) (meth : Method) (c : Code) (ls : Array Slot), Cx E p s m av.toArray meth c cc maxL ret y.cls (va_A ws s.heap.size) → Wl E (va_A ws s.heap.size) ws s s.heap [] → TQ (va_A ws s.heap.size) s s.heap → c.exceptionTable.toList.map (fun h => (h.startPc, h.endPc, h.handlerPc, h.catchType)) = hh → lv_has ls maxL (lv_args 0 av) →
      W p l e (Rm k mc ms) s m av.toArray below meth c s.heap [] 0 0 (MQ below (Qw E ws s.heap.size post) av.toArray s mc ms (va_A ws s.heap.size)) (F0 m 0 ls [])) :
    ∀ sz : Nat, Met l y (.codeWith y cc maxL ret hh :: LT) (Rm k mc ms) (PwT E av ws sz) (Qw E ws sz post) mc ms (va_A ws sz) := by
  intro sz
  refine va_MetW (cc := cc) (maxL := maxL) (ret := ret) (hh := hh) hy rfl ?_
  intro p e s m args below meth c s₁ B hml hv
  obtain ⟨⟨rfl, hsz, hP, hD0, hK, hE⟩, hTQ⟩ := hv
  have hts := atoms_spec (ws := .codeWith y cc maxL ret hh :: LT) B.pre
  subst hsz
  have hl := lv_entry av (n := maxL) hlen
  obtain ⟨m9, meth9, c9, hn9, h1, h2, -, -, hex, -⟩ := Cond.codeWith_spec (hts _ List.mem_cons_self)
  cases B.named.symm.trans hn9
  cases B.method.symm.trans h1
  cases (Stand.of_body B).code.symm.trans h2
  rw [lg_entry_eq]
  exact body p e s m below meth c _ ⟨B.exec, B.bytes, hml, B.returns, B.notSynchronized, findClass_of_methodNamed B.named, fun w h => hts w (List.mem_cons_of_mem _ h), hK, hE, fun q h => Or.inr h⟩ ⟨hP, hD0.self, va_S.rf⟩ hTQ hex hl
theorem TQ.pre {p : Program} {s : State} {m : MethodId} {args : Array Value} {meth : Method} {c : Code} {H : Heap} {locs : List Loc} {E : Gq} {cc : ByteArray} {nL : Nat} {ret : Option FieldType} {own : String} {A : Nat → Prop} {ws : va_W} (hT : TQ A s s.heap) (C : Cx E p s m args meth c cc nL ret own A) (Wd : Wl E A ws s H locs) (av : List Value) : ∀ U : State, U.heap = H → s.WarmedH U.vm → PwT E av ws H.size av.toArray U := fun U hU hW => by
  refine ⟨C.pre Wd av U hU hW, ?_⟩
  rw [hU]
  exact (((hT.kept Wd.2.2.2.1).narrow (Wd.inA C)).warm hW)
def oW (E : Gq) (ao : Nat) (g : Nat → Int64) : va_W := [(ao, .inl (E.2.2.1, 1, .inr (.inl g)))]
set_option maxHeartbeats 4000000 in
set_option maxRecDepth 100000 in
theorem cL_index_x {l : Launch} {E : Gq} {z : Nat → Nat} {v : Nat → Int32} {kd : Nat} {K : List Int64} {L N S P : List Nat} {f : Nat → Nat → Int64} {ao : Nat} {g : Nat → Int64} {lev i : Int32} (hfl : ∀ e, l.admits e → e.platform.stackTraces = false) (hb0 : ¬ (lev = 0 ∧ hld S.length i ≠ 0)) (hb1 : ¬ (lev = 1 ∧ hld P.length i ≠ 0)) (hf : Rok f K L N S P) : ∀ sz : Nat, Met l yL_index (.codeWith yL_index cL_index 5 (some .int) [(0, 10, 13, 13)] :: LT) (Rm 8 1 6) (PwT E [.ref (z 0), .int lev, .int i, .ref ao] (w2 E z v kd K L N S P f ++ oW E ao g) sz) (Qw E (w2 E z v kd K L N S P f ++ oW E ao g) sz (fun r ws' => r = some (.int (nI 1)) ∧ ws' = w2 E z v kd K L N S P f ++ oW E ao g)) 1 6 (va_A (w2 E z v kd K L N S P f ++ oW E ao g) sz) := by
  refine mk_x (by decide) (Nat.le_of_ble_eq_true rfl) ?_
  intro p e s m below meth c ls C Wd hT hex hl
  have hl : lv_has ls 5 [(0, .ref (z 0)), (1, .int lev), (2, .int i), (3, .ref ao)] := hl
  refine lv_aload_n C.hx C.hb dL_index_0 rfl (lv_at hl 3 rfl) ?_
  refine lv_iconst (v := nI 0) C.hx C.hb dL_index_1 (by decide) ?_
  refine lv_aload_n C.hx C.hb dL_index_2 rfl (lv_at hl 0 rfl) ?_
  refine lv_iload_n C.hx C.hb dL_index_3 rfl (lv_at hl 1 rfl) ?_
  refine lv_iload_n C.hx C.hb dL_index_4 rfl (lv_at hl 2 rfl) ?_
  refine w_callx (As := [.int lev, .int i]) (rest := [.int (nI 0), .ref ao]) C.hx C.hb C.hml (own := RL) (C := RX2) (index := 7) (n := 2) C.hown (c2_index_x hfl hb0 hb1 f hf s.heap.size)
    ⟨callB_of 2 C.hts (gLT tw_280) rfl rfl rfl (C.hts _ tw_1) (C.hts _ tw_277) (by decide +kernel) ⟨by decide, by decide⟩, C.hts _ tw_278, C.hts _ tw_279⟩
    ⟨PwT.blind _ _ _ _, va_recv (q0 := 0) C.hK.1 Wd.left.1 (ci := 2) rfl rfl, hT.pre C Wd.left [.ref (z 0), .int lev, .int i]⟩ hex (C.hts _ tw_276) (by decide) ⟨by decide, by decide⟩ rfl hl.1 rfl (Nat.le_of_ble_eq_true rfl) dL_index_5 ⟨by decide, by decide⟩ (fun H1 a hz hk => ?_)
  have Wd := Wd.grow hz hk
  refine lv_astore (lv' := [(4, .ref a), (0, .ref (z 0)), (1, .int lev), (2, .int i), (3, .ref ao)]) C.hx C.hb dL_index_13 hl (by decide) rfl (fun ls hl => ?_)
  refine lv_iconst (v := nI 1) C.hx C.hb dL_index_15 (by decide) ?_
  exact ret_iw C Wd ⟨rfl, rfl⟩ dL_index_16
set_option maxHeartbeats 4000000 in
set_option maxRecDepth 100000 in
theorem cL_index_0 {l : Launch} {E : Gq} {z : Nat → Nat} {v : Nat → Int32} {kd : Nat} {K : List Int64} {L N S P : List Nat} {f : Nat → Nat → Int64} {ao : Nat} {g : Nat → Int64} {lev i : Int32} {j : Nat} (hJ : J2 K L N S P) (hj : j < S.length) (hlv : lev = nI 0) (hi : i = nI j) (hf : Rok f K L N S P) : ∀ sz : Nat, Met l yL_index (.codeWith yL_index cL_index 5 (some .int) [(0, 10, 13, 13)] :: LT) (Rm 8 0 0) (PwT E [.ref (z 0), .int lev, .int i, .ref ao] (w2 E z v kd K L N S P f ++ oW E ao g) sz) (Qw E (w2 E z v kd K L N S P f ++ oW E ao g) sz (fun r ws' => r = some (.int (nI 0)) ∧ ws' = w2 E z v kd K L N S P f ++ oW E ao (vp_updL g 0 ((K.getD (sm S 0 j) 0).toInt32).toInt64))) 0 0 (va_A (w2 E z v kd K L N S P f ++ oW E ao g) sz) := by
  subst hlv hi
  refine mk_x (by decide) (Nat.le_of_ble_eq_true rfl) ?_
  intro p e s m below meth c ls C Wd hT hex hl
  have hl : lv_has ls 5 [(0, .ref (z 0)), (1, .int (nI 0)), (2, .int (nI j)), (3, .ref ao)] := hl
  refine lv_aload_n C.hx C.hb dL_index_0 rfl (lv_at hl 3 rfl) ?_
  refine lv_iconst (v := nI 0) C.hx C.hb dL_index_1 (by decide) ?_
  refine lv_aload_n C.hx C.hb dL_index_2 rfl (lv_at hl 0 rfl) ?_
  refine lv_iload_n C.hx C.hb dL_index_3 rfl (lv_at hl 1 rfl) ?_
  refine lv_iload_n C.hx C.hb dL_index_4 rfl (lv_at hl 2 rfl) ?_
  refine call_r (runV (As := [.int (nI 0), .int (nI j)]) (rest := [.int (nI 0), .ref ao]) C Wd.left (c2_index_0 (j := j) hJ hj f hf) wy_X2_index tw_279 tw_277 rfl (q0 := 0) rfl ⟨by decide, by decide⟩ rfl hl.1 rfl (Nat.le_of_ble_eq_true rfl) dL_index_5 ⟨Nat.le_refl _, Nat.le_refl _⟩) (fun r hp => ?_)
  subst hp
  refine W.eq (g2 := F0 m 8 ls [.int ((K.getD (sm S 0 j) 0).toInt32), .int (nI 0), .ref ao]) rfl ?_
  refine lv_i2l C.hx C.hb dL_index_8 rfl ?_
  refine last C Wd 11 rfl (vp_in_nI (by decide) (by decide)) dL_index_9 (fun H locs Wd => ?_)
  refine lv_goto (tgt := 17) C.hx C.hb dL_index_10 (by decide) ?_
  refine lv_iconst (v := nI 0) C.hx C.hb dL_index_17 (by decide) ?_
  exact ret_iw C Wd ⟨rfl, rfl⟩ dL_index_18
set_option maxHeartbeats 4000000 in
set_option maxRecDepth 100000 in
theorem cL_index_1 {l : Launch} {E : Gq} {z : Nat → Nat} {v : Nat → Int32} {kd : Nat} {K : List Int64} {L N S P : List Nat} {f : Nat → Nat → Int64} {ao : Nat} {g : Nat → Int64} {lev i : Int32} {j : Nat} (hJ : J2 K L N S P) (hj : j < P.length) (hlv : lev = nI 1) (hi : i = nI j) (hf : Rok f K L N S P) : ∀ sz : Nat, Met l yL_index (.codeWith yL_index cL_index 5 (some .int) [(0, 10, 13, 13)] :: LT) (Rm 8 0 0) (PwT E [.ref (z 0), .int lev, .int i, .ref ao] (w2 E z v kd K L N S P f ++ oW E ao g) sz) (Qw E (w2 E z v kd K L N S P f ++ oW E ao g) sz (fun r ws' => r = some (.int (nI 0)) ∧ ws' = w2 E z v kd K L N S P f ++ oW E ao (vp_updL g 0 ((K.getD (sm S 0 (sm P 0 j)) 0).toInt32).toInt64))) 0 0 (va_A (w2 E z v kd K L N S P f ++ oW E ao g) sz) := by
  subst hlv hi
  refine mk_x (by decide) (Nat.le_of_ble_eq_true rfl) ?_
  intro p e s m below meth c ls C Wd hT hex hl
  have hl : lv_has ls 5 [(0, .ref (z 0)), (1, .int (nI 1)), (2, .int (nI j)), (3, .ref ao)] := hl
  refine lv_aload_n C.hx C.hb dL_index_0 rfl (lv_at hl 3 rfl) ?_
  refine lv_iconst (v := nI 0) C.hx C.hb dL_index_1 (by decide) ?_
  refine lv_aload_n C.hx C.hb dL_index_2 rfl (lv_at hl 0 rfl) ?_
  refine lv_iload_n C.hx C.hb dL_index_3 rfl (lv_at hl 1 rfl) ?_
  refine lv_iload_n C.hx C.hb dL_index_4 rfl (lv_at hl 2 rfl) ?_
  refine call_r (runV (As := [.int (nI 1), .int (nI j)]) (rest := [.int (nI 0), .ref ao]) C Wd.left (c2_index_1 (j := j) hJ hj f hf) wy_X2_index tw_279 tw_277 rfl (q0 := 0) rfl ⟨by decide, by decide⟩ rfl hl.1 rfl (Nat.le_of_ble_eq_true rfl) dL_index_5 ⟨Nat.le_refl _, Nat.le_refl _⟩) (fun r hp => ?_)
  subst hp
  refine W.eq (g2 := F0 m 8 ls [.int ((K.getD (sm S 0 (sm P 0 j)) 0).toInt32), .int (nI 0), .ref ao]) rfl ?_
  refine lv_i2l C.hx C.hb dL_index_8 rfl ?_
  refine last C Wd 11 rfl (vp_in_nI (by decide) (by decide)) dL_index_9 (fun H locs Wd => ?_)
  refine lv_goto (tgt := 17) C.hx C.hb dL_index_10 (by decide) ?_
  refine lv_iconst (v := nI 0) C.hx C.hb dL_index_17 (by decide) ?_
  exact ret_iw C Wd ⟨rfl, rfl⟩ dL_index_18
