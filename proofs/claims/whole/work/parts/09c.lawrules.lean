/-! the law's walk: its world (the class's object, the reference's, the row of one long), its calls -/
theorem w_widen {p : Program} {l : Launch} {e : Env} {R : Room} {s : State} {m : MethodId} {args : Array Value} {below : List Frame} {meth : Method} {c : Code} {H : Heap} {locs : List Loc} {cells slots : Nat} {Q : State → Prop} {g : JFrame} {C' S' : Nat} (hl : ∀ q ∈ locs, s.heap.size ≤ q.base) (hc : cells ≤ C') (hs : slots ≤ S') (k : W p l e R s m args below meth c H [] C' S' Q g) : W p l e R s m args below meth c H locs cells slots Q g := fun T hT X =>
  k T hT { X with same := X.same.weaken (fun y hy hlt => absurd hlt (Nat.not_lt.mpr (hl y hy))) hc hs }
def LX (E : Gq) (A : Nat → Prop) (z2 z3 : Nat → Nat) (ao : Nat) (g : Nat → Int64) (v2 : Nat → Int32) (kd : Nat) (K : List Int64) (L N S P : List Nat) (v : Nat → Int32) (fk : Nat → Int64) (gl go gi ga : Nat → Nat) (gs : Nat → Int32) (s : State) (H : Heap) (locs : List Loc) : Prop := ∃ f, Wl E A (w2 E z2 v2 kd K L N S P f ++ (w3 E z3 v fk gl go gi ga gs ++ oW E ao g)) s H locs ∧ Rok f K L N S P
section LR
variable {p : Program} {l : Launch} {e : Env} {R : Room} {s : State} {m : MethodId} {args : Array Value} {below : List Frame} {meth : Method} {c : Code} {H : Heap} {locs : List Loc} {cells slots : Nat} {Q : State → Prop}
variable {E : Gq} {cc : ByteArray} {nL : Nat} {ret : Option FieldType} {A : Nat → Prop} {pc : Nat} {ls : Array Slot} {rest : List Value} {z2 z3 : Nat → Nat} {ao : Nat} {g : Nat → Int64} {v2 : Nat → Int32} {kd : Nat} {K : List Int64} {L N S P : List Nat} {v : Nat → Int32} {fk : Nat → Int64} {gl go gi ga : Nat → Nat} {gs : Nat → Int32}
theorem Wl.swapR {x y w : va_W} (h : Wl E A (x ++ (y ++ w)) s H locs) : Wl E A (x ++ (w ++ y)) s H locs := by
  have hr := h.right.swap
  refine ⟨va_P.app (vp_l h.1) hr.1, va_D.app (vd_l h.2.1) hr.2.1 (fun i j p q hi hj => ?_), h.2.2⟩
  by_cases hl : j < w.length
  · rw [List.getElem?_append_left hl] at hj
    exact vd_x h.2.1 i _ p q hi (gr hj)
  · rw [List.getElem?_append_right (by omega)] at hj
    exact vd_x h.2.1 i _ p q hi (gl hj)
theorem Wl.asc {x y w : va_W} (h : Wl E A (x ++ (y ++ w)) s H locs) : Wl E A ((x ++ y) ++ w) s H locs := by rw [List.append_assoc]; exact h
theorem Wl.csa {x y w : va_W} (h : Wl E A ((x ++ y) ++ w) s H locs) : Wl E A (x ++ (y ++ w)) s H locs := by rw [← List.append_assoc]; exact h
section LO
variable {y : MethodName} {bytes : ByteArray} {maxL n k idx : Nat} {rt : Option FieldType} {As st0 : List Value}
theorem l_c2 {post : Option Value → (Nat → Int32) → Nat → List Int64 → List Nat → List Nat → List Nat → List Nat → Prop} (C : Cx E p s m args meth c cc nL ret RL A) (X : LX E A z2 z3 ao g v2 kd K L N S P v fk gl go gi ga gs s H locs) (hM : M2w l E y bytes maxL rt k (.ref (z2 0) :: As) z2 v2 kd K L N S P post) (hy : Wy y bytes maxL rt n) (hse : Cond.selects y.cls y y ∈ LT) (hl : Cond.methodLink RL idx y ∈ LT) (hc : vwCl[2]? = some (y.cls, TX2, 19)) (hR : k + 1 ≤ R.frames ∧ 28 * (k + 1) ≤ R.locals) (hn : As.length = n) (hsz : ls.size = nL) (hst : st0 = As.reverse ++ .ref (z2 0) :: rest) (hW : (rest.map fun v => v.category).sum ≤ 8) (hf : cells ≤ R.cells ∧ slots ≤ R.slots) (hdg : decode cc pc = .ok (.invokevirtual idx, 3))
    (kk : ∀ (r : Option Value) (v2' : Nat → Int32) (kd' : Nat) (K' : List Int64) (L' N' S' P' : List Nat) (H1 : Heap) (locs1 : List Loc), post r v2' kd' K' L' N' S' P' → LX E A z2 z3 ao g v2' kd' K' L' N' S' P' v fk gl go gi ga gs s H1 locs1 → W p l e R s m args below meth c H1 locs1 cells slots Q (F0 m (pc + 3) ls (r.toList ++ rest))) : W p l e R s m args below meth c H locs cells slots Q (F0 m pc ls st0) := by
  obtain ⟨f, Wd, h⟩ := X
  refine call_w2 C Wd (runV (As := As) (rest := rest) C Wd.left (hM f h) hy hse hl hc (q0 := 0) rfl hR hn hsz hst hW hdg hf) (fun r ws' H1 locs1 hp Wd => ?_)
  obtain ⟨v', kd', K', L', N', S', P', f', rfl, hok, hpp⟩ := hp
  exact kk r v' kd' K' L' N' S' P' H1 locs1 hpp ⟨f', Wd, hok⟩
theorem l_c3 {post : Option Value → (Nat → Int32) → (Nat → Int64) → (Nat → Nat) → (Nat → Nat) → (Nat → Nat) → (Nat → Nat) → (Nat → Int32) → Prop} (C : Cx E p s m args meth c cc nL ret RL A) (X : LX E A z2 z3 ao g v2 kd K L N S P v fk gl go gi ga gs s H locs) (hM : M3w l E y bytes maxL rt k (.ref (z3 0) :: As) z3 v fk gl go gi ga gs post) (hy : Wy y bytes maxL rt n) (hse : Cond.selects y.cls y y ∈ LT) (hl : Cond.methodLink RL idx y ∈ LT) (hc : vwCl[3]? = some (y.cls, TX3, 20)) (hR : k + 1 ≤ R.frames ∧ 28 * (k + 1) ≤ R.locals) (hn : As.length = n) (hsz : ls.size = nL) (hst : st0 = As.reverse ++ .ref (z3 0) :: rest) (hW : (rest.map fun v => v.category).sum ≤ 8) (hf : cells ≤ R.cells ∧ slots ≤ R.slots) (hdg : decode cc pc = .ok (.invokevirtual idx, 3))
    (kk : ∀ (r : Option Value) (v' : Nat → Int32) (fk' : Nat → Int64) (gl' go' gi' ga' : Nat → Nat) (gs' : Nat → Int32) (H1 : Heap) (locs1 : List Loc), post r v' fk' gl' go' gi' ga' gs' → LX E A z2 z3 ao g v2 kd K L N S P v' fk' gl' go' gi' ga' gs' s H1 locs1 → W p l e R s m args below meth c H1 locs1 cells slots Q (F0 m (pc + 3) ls (r.toList ++ rest))) : W p l e R s m args below meth c H locs cells slots Q (F0 m pc ls st0) := by
  obtain ⟨f, Wd, h⟩ := X
  refine call_w2 C Wd.swap.csa (runV (As := As) (rest := rest) C Wd.swap.csa.left hM hy hse hl hc (q0 := 0) rfl hR hn hsz hst hW hdg hf) (fun r ws' H1 locs1 hp Wd => ?_)
  obtain ⟨v', fk', gl', go', gi', ga', gs', rfl, hpp⟩ := hp
  exact kk r v' fk' gl' go' gi' ga' gs' H1 locs1 hpp ⟨f, Wd.asc.swap, h⟩
theorem l_c3r {post : Option Value → Prop} (C : Cx E p s m args meth c cc nL ret RL A) (X : LX E A z2 z3 ao g v2 kd K L N S P v fk gl go gi ga gs s H locs) (hM : M3r l E y bytes maxL rt k (.ref (z3 0) :: As) z3 v fk gl go gi ga gs post) (hy : Wy y bytes maxL rt n) (hse : Cond.selects y.cls y y ∈ LT) (hl : Cond.methodLink RL idx y ∈ LT) (hc : vwCl[3]? = some (y.cls, TX3, 20)) (hR : k + 1 ≤ R.frames ∧ 28 * (k + 1) ≤ R.locals) (hn : As.length = n) (hsz : ls.size = nL) (hst : st0 = As.reverse ++ .ref (z3 0) :: rest) (hW : (rest.map fun v => v.category).sum ≤ 8) (hf : cells ≤ R.cells ∧ slots ≤ R.slots) (hdg : decode cc pc = .ok (.invokevirtual idx, 3))
    (kk : ∀ r : Option Value, post r → W p l e R s m args below meth c H locs cells slots Q (F0 m (pc + 3) ls (r.toList ++ rest))) : W p l e R s m args below meth c H locs cells slots Q (F0 m pc ls st0) := by
  obtain ⟨f, Wd, h⟩ := X
  exact call_r (runV (As := As) (rest := rest) C Wd.swap.csa.left hM hy hse hl hc (q0 := 0) rfl hR hn hsz hst hW hdg hf) kk
end LO
theorem l_ix_x (C : Cx E p s m args meth c cc nL ret RL A) (hT : TQ A s s.heap) (hcw : (Cond.codeWith yL_index cL_index 5 (some .int) [(0, 10, 13, 13)]).before args s = true) (X : LX E A z2 z3 ao g v2 kd K L N S P v fk gl go gi ga gs s H locs) {lev i : Int32} (hfl : ∀ e, l.admits e → e.platform.stackTraces = false) (hb0 : ¬ (lev = 0 ∧ hld S.length i ≠ 0)) (hb1 : ¬ (lev = 1 ∧ hld P.length i ≠ 0)) (hR : 9 ≤ R.frames ∧ 252 ≤ R.locals) (hsz : ls.size = nL) (hW : (rest.map fun v => v.category).sum ≤ 8) (hf : cells + 1 ≤ R.cells ∧ slots + 6 ≤ R.slots) (hdg : decode cc pc = .ok (.invokestatic 65, 3))
    (kk : ∀ (H1 : Heap) (locs1 : List Loc), LX E A z2 z3 ao (g) v2 kd K L N S P v fk gl go gi ga gs s H1 locs1 → W p l e R s m args below meth c H1 locs1 (cells + 1) (slots + 6) Q (F0 m (pc + 3) ls (.int (nI 1) :: rest))) : W p l e R s m args below meth c H locs cells slots Q (F0 m pc ls (.ref ao :: .int i :: .int lev :: .ref (z2 0) :: rest)) := by
  obtain ⟨f, Wd, h⟩ := X
  have Wd := Wd.swapR.asc
  refine call_w2 C Wd (runSW (As := [.ref (z2 0), .int lev, .int i, .ref ao]) (rest := rest) (n := 4) C (cL_index_x hfl hb0 hb1 h H.size) (PwT.blind _ _ _ _) hcw tw_0 tw_274 tw_273 (by decide +kernel) (by decide) (hT.pre C Wd.left [.ref (z2 0), .int lev, .int i, .ref ao]) hR rfl hsz rfl hW hdg hf) (fun r ws' H1 locs1 hp Wd => ?_)
  obtain ⟨rfl, rfl⟩ := hp
  exact kk H1 locs1 ⟨f, Wd.csa.swapR, h⟩
theorem l_ix_0 (C : Cx E p s m args meth c cc nL ret RL A) (hT : TQ A s s.heap) (hcw : (Cond.codeWith yL_index cL_index 5 (some .int) [(0, 10, 13, 13)]).before args s = true) (X : LX E A z2 z3 ao g v2 kd K L N S P v fk gl go gi ga gs s H locs) {lev i : Int32} {j : Nat} (hJ : J2 K L N S P) (hj : j < S.length) (hlv : lev = nI 0) (hi : i = nI j) (hR : 9 ≤ R.frames ∧ 252 ≤ R.locals) (hsz : ls.size = nL) (hW : (rest.map fun v => v.category).sum ≤ 8) (hf : cells + 0 ≤ R.cells ∧ slots + 0 ≤ R.slots) (hdg : decode cc pc = .ok (.invokestatic 65, 3))
    (kk : ∀ (H1 : Heap) (locs1 : List Loc), LX E A z2 z3 ao (vp_updL g 0 ((K.getD (sm S 0 j) 0).toInt32).toInt64) v2 kd K L N S P v fk gl go gi ga gs s H1 locs1 → W p l e R s m args below meth c H1 locs1 (cells + 0) (slots + 0) Q (F0 m (pc + 3) ls (.int (nI 0) :: rest))) : W p l e R s m args below meth c H locs cells slots Q (F0 m pc ls (.ref ao :: .int i :: .int lev :: .ref (z2 0) :: rest)) := by
  obtain ⟨f, Wd, h⟩ := X
  have Wd := Wd.swapR.asc
  refine call_w2 C Wd (runSW (As := [.ref (z2 0), .int lev, .int i, .ref ao]) (rest := rest) (n := 4) C (cL_index_0 hJ hj hlv hi h H.size) (PwT.blind _ _ _ _) hcw tw_0 tw_274 tw_273 (by decide +kernel) (by decide) (hT.pre C Wd.left [.ref (z2 0), .int lev, .int i, .ref ao]) hR rfl hsz rfl hW hdg hf) (fun r ws' H1 locs1 hp Wd => ?_)
  obtain ⟨rfl, rfl⟩ := hp
  exact kk H1 locs1 ⟨f, Wd.csa.swapR, h⟩
theorem l_ix_1 (C : Cx E p s m args meth c cc nL ret RL A) (hT : TQ A s s.heap) (hcw : (Cond.codeWith yL_index cL_index 5 (some .int) [(0, 10, 13, 13)]).before args s = true) (X : LX E A z2 z3 ao g v2 kd K L N S P v fk gl go gi ga gs s H locs) {lev i : Int32} {j : Nat} (hJ : J2 K L N S P) (hj : j < P.length) (hlv : lev = nI 1) (hi : i = nI j) (hR : 9 ≤ R.frames ∧ 252 ≤ R.locals) (hsz : ls.size = nL) (hW : (rest.map fun v => v.category).sum ≤ 8) (hf : cells + 0 ≤ R.cells ∧ slots + 0 ≤ R.slots) (hdg : decode cc pc = .ok (.invokestatic 65, 3))
    (kk : ∀ (H1 : Heap) (locs1 : List Loc), LX E A z2 z3 ao (vp_updL g 0 ((K.getD (sm S 0 (sm P 0 j)) 0).toInt32).toInt64) v2 kd K L N S P v fk gl go gi ga gs s H1 locs1 → W p l e R s m args below meth c H1 locs1 (cells + 0) (slots + 0) Q (F0 m (pc + 3) ls (.int (nI 0) :: rest))) : W p l e R s m args below meth c H locs cells slots Q (F0 m pc ls (.ref ao :: .int i :: .int lev :: .ref (z2 0) :: rest)) := by
  obtain ⟨f, Wd, h⟩ := X
  have Wd := Wd.swapR.asc
  refine call_w2 C Wd (runSW (As := [.ref (z2 0), .int lev, .int i, .ref ao]) (rest := rest) (n := 4) C (cL_index_1 hJ hj hlv hi h H.size) (PwT.blind _ _ _ _) hcw tw_0 tw_274 tw_273 (by decide +kernel) (by decide) (hT.pre C Wd.left [.ref (z2 0), .int lev, .int i, .ref ao]) hR rfl hsz rfl hW hdg hf) (fun r ws' H1 locs1 hp Wd => ?_)
  obtain ⟨rfl, rfl⟩ := hp
  exact kk H1 locs1 ⟨f, Wd.csa.swapR, h⟩
end LR
def PcX (E : Gq) (b L : Nat) (xs : Nat → Int32) (k sz : Nat) : Array Value → State → Prop := fun a U => Pw E [.ref b, .int (nI k)] [] sz a U ∧ va_X b L xs U U.heap
theorem PcX.blind (E : Gq) (b L : Nat) (xs : Nat → Int32) (k sz : Nat) : FrameBlind (PcX E b L xs k sz) := fun a U g mk q => ⟨Pw.blind E _ _ sz a U g mk q.1, va_X.moved (u := U) (U := U.calling g mk a) (Vm.Alike.refl U.vm) q.2⟩
theorem cL_cellc {l : Launch} {E : Gq} {b L k : Nat} {xs : Nat → Int32} (hL : L ≤ 2052) (hk : k < 4) : ∀ sz : Nat, Met l yL_cell (.code yL_cell cL_cell 2 (some .int) :: LT) (Rm 0 0 0) (PcX E b L xs k sz) (Qr (fun r => r = some (.int (if k < L then xs k else 0)))) 0 0 (fun _ => False) := by
  intro sz
  refine Met.ofW (cc := cL_cell) (maxL := 2) (ret := some .int) (by decide) rfl ?_
  intro p e s m args below meth c s₁ B hml hv
  obtain ⟨⟨rfl, hsz, hP, hD0, hK, hE⟩, hX⟩ := hv
  have hts := atoms_spec (ws := .code yL_cell cL_cell 2 (some .int) :: LT) B.pre
  subst hsz
  have hl := lv_entry ([.ref b, .int (nI k)] : List Value) (n := 2) (Nat.le_of_ble_eq_true rfl)
  rw [lg_entry_eq]
  have C : Cx E p s m ([.ref b, .int (nI k)] : List Value).toArray meth c cL_cell 2 (some .int) RL (va_A [] s.heap.size) := ⟨B.exec, B.bytes, hml, B.returns, B.notSynchronized, findClass_of_methodNamed B.named, fun w h => hts w (List.mem_cons_of_mem _ h), hK, hE, fun q h => Or.inr h⟩
  have hbl : b < s.heap.size := by
    obtain ⟨scr, h1, -⟩ := hX
    exact (Array.getElem?_eq_some_iff.mp h1).1
  have hS : va_S (va_A [] s.heap.size) s.heap s.heap [] := va_S.rf
  generalize (lg_sl ([.ref b, .int (nI k)] : List Value) ++ List.replicate (2 - (lg_sl ([.ref b, .int (nI k)] : List Value)).length) Slot.unset).toArray = ls at hl ⊢
  have hl : lv_has ls 2 [(0, .ref b), (1, .int (nI k))] := hl
  refine lv_iload_n C.hx C.hb dL_cell_0 rfl (lv_at hl 1 rfl) ?_
  refine lv_aload_n C.hx C.hb dL_cell_1 rfl (lv_at hl 0 rfl) ?_
  refine va_slen C.hx C.hb hX hbl (notA hbl) hS dL_cell_2 ?_
  refine n_icmp_ge (b := L) (tgt := 12) C dL_cell_3 (by decide) (by omega) (by omega) (fun c3 => ?_) (fun c3 => ?_)
  · refine lv_iconst (v := 0) C.hx C.hb dL_cell_12 (by decide) ?_
    exact ret_ir C (by rw [if_neg (by omega)]) dL_cell_13
  · refine lv_aload_n C.hx C.hb dL_cell_6 rfl (lv_at hl 0 rfl) ?_
    refine lv_iload_n C.hx C.hb dL_cell_7 rfl (lv_at hl 1 rfl) ?_
    refine va_sld C.hx C.hb hX hbl (notA hbl) hS (vp_in_nI c3 (by omega)) dL_cell_8 ?_
    refine lv_goto (tgt := 13) C.hx C.hb dL_cell_9 (by decide) ?_
    exact ret_ir C (by rw [if_pos c3, nI_clamp (by omega)]) dL_cell_13
theorem l_cell {p : Program} {l : Launch} {e : Env} {R : Room} {s : State} {m : MethodId} {args : Array Value} {below : List Frame} {meth : Method} {c : Code} {H : Heap} {locs : List Loc} {cells slots : Nat} {Q : State → Prop} {E : Gq} {cc : ByteArray} {nL : Nat} {ret : Option FieldType} {A : Nat → Prop} {ws : va_W} {pc : Nat} {ls : Array Slot} {rest : List Value} {b L k : Nat} {xs : Nat → Int32} (hL : L ≤ 2052) (hk : k < 4) (C : Cx E p s m args meth c cc nL ret RL A) (Wd : Wl E A ws s H locs) (hX : va_X b L xs s s.heap) (hbl : b < s.heap.size) (hbA : ¬ A b) (hR : 1 ≤ R.frames ∧ 28 ≤ R.locals) (hsz : ls.size = nL) (hW : (rest.map fun v => v.category).sum ≤ 8) (hf : cells ≤ R.cells ∧ slots ≤ R.slots) (hdg : decode cc pc = .ok (.invokestatic 15, 3))
    (kk : W p l e R s m args below meth c H locs cells slots Q (F0 m (pc + 3) ls (.int (if k < L then xs k else 0) :: rest))) : W p l e R s m args below meth c H locs cells slots Q (F0 m pc ls (.int (nI k) :: .ref b :: rest)) := by
  have Wd0 : Wl E A [] s H locs := Wd.sub [] rfl rfl rfl
  refine call_r (va_runS (As := [.ref b, .int (nI k)]) (rest := rest) (index := 15) ⟨C.hx, C.hb, C.hml, C.hown, C.hts⟩ (cL_cellc (l := l) (E := E) (b := b) (xs := xs) hL hk H.size) ⟨callB_of 2 C.hts (gLT tw_272) rfl rfl rfl (C.hts _ tw_0) (C.hts _ tw_270) (by decide +kernel) ⟨hR.1, by show 8 + (2 + 11) + 28 * 0 ≤ R.locals; have := hR.2; omega⟩, C.hts _ tw_271⟩ ⟨PcX.blind _ _ _ _ _ _, fun U hU hWm => ⟨C.pre Wd0 [.ref b, .int (nI k)] U hU hWm, ?_⟩⟩ rfl rfl hsz rfl (lv_room hW) hdg hf) (fun r hp => ?_)
  · rw [hU]
    exact va_X.moved hWm.alike (hX.kept (Wd.2.2.2.1 b hbl hbA))
  · subst hp
    exact kk
/-- both objects, new -/
theorem Cpl.new {rm wd lr lw lq : Nat} {v2 v : Nat → Int32} (hp : Par rm wd lr lw lq) (h : v2 0 = nI rm ∧ v2 1 = nI wd ∧ v2 2 = nI lr ∧ v2 3 = nI lw ∧ v2 9 = nI 2 ∧ v2 10 = nI 0 ∧ v2 11 = nI 0 ∧ v2 15 = nI 0 ∧ v2 16 = nI 0 ∧ v2 17 = nI 0 ∧ v2 18 = nI 0) (h3 : v 1 = nI rm ∧ v 2 = nI wd ∧ v 3 = nI lr ∧ v 4 = nI lq ∧ v 8 = nI 0 ∧ v 11 = nI 1 ∧ v 12 = nI 2 ∧ v 13 = nI 1 ∧ v 14 = nI 0 ∧ v 17 = nI 0) : Cpl rm wd lr lw lq 3 v2 0 [] [] [1] [0] (lay [] lw) v (fun _ => 0) (fun _ => 0) (fun _ => 0) (va_up (fun _ => 0) 0 1) (va_up (fun _ => 0) 0 0) (fun _ => nI 0) := by
  obtain ⟨p1, p2, p3, p4, p5, p6, p7⟩ := hp
  obtain ⟨a0, a1, a2, a3, a9, a10, a11, a15, a16, a17, a18⟩ := h
  obtain ⟨d1, d2, d3, d4, d8, d11, d12, d13, d14, d17⟩ := h3
  have hC : Core rm wd 2 1 [] [] [1] [0] (lay [] lw) [0] (fun _ => 0) (fun _ => 0) (fun _ => 0) (va_up (fun _ => 0) 0 1) (va_up (fun _ => 0) 0 0) := by
    have e : lay [] lw = [1] := by simp [lay, ins]
    rw [e]
    refine ⟨⟨fun j hj => absurd hj (Nat.not_lt_zero _), fun j hj => absurd hj (Nat.not_lt_zero _), fun j hj => absurd hj (Nat.not_lt_zero _), fun q hq => ?_, fun q hq => ?_, by simp, by simp, rfl⟩, ⟨rfl, rfl, rfl, rfl, by decide, fun x hx => by simp at hx; omega, Or.inl rfl, Nat.zero_le _⟩, fun i j _ hj => absurd hj (Nat.not_lt_zero _), fun x hx => by simp at hx; omega, fun x hx => absurd hx List.not_mem_nil, fun i hi => ?_, fun x hx => by simp at hx; omega, fun x hx => by simp at hx; omega, fun k => Nat.two_pow_pos 31, fun k => Nat.two_pow_pos 31, fun k => ?_, fun k => ?_⟩
    · have : q = 0 := by simp at hq; omega
      subst this; simp [va_up]
    · have : q = 0 := by simp at hq; omega
      subst this; simp [va_up, gIx]
    · unfold lin sm; simp
    · unfold va_up; split <;> (show _ < 2147483648; first | exact Nat.zero_lt_succ _ | omega)
    · unfold va_up; split <;> (show _ < 2147483648; first | exact Nat.zero_lt_succ _ | omega)
  exact ⟨2, 1, 0, 0, 0, 0, [0], hC, ⟨a0, a1, a2, a3, a9, a10, a11, a15, a16, a17, a18, d1, d2, d3, d4, d8, d11, d12, d13, d14, d17, fun h => absurd h (by decide)⟩, ⟨by decide, by decide, fun h => absurd h (by decide)⟩, by decide, by decide⟩
