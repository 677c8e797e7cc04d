theorem wy_X1_init : Wy yX1_init cX1_init 2 none 1 := ⟨tw_25, tw_2, tw_24, by decide, by decide +kernel⟩
theorem wy_X1_holds : Wy yX1_holds cX1_holds 2 (some .boolean) 1 := ⟨tw_225, tw_2, tw_224, by decide, by decide +kernel⟩
theorem wy_X1_at : Wy yX1_at cX1_at 2 (some .long) 1 := ⟨tw_70, tw_2, tw_69, by decide, by decide +kernel⟩
theorem wy_X1_intAt : Wy yX1_intAt cX1_intAt 2 (some .int) 1 := ⟨tw_66, tw_2, tw_65, by decide, by decide +kernel⟩
theorem wy_X1_raise : Wy yX1_raise cX1_raise 3 none 2 := ⟨tw_74, tw_2, tw_73, by decide, by decide +kernel⟩
theorem wy_X1_insertAt : Wy yX1_insertAt cX1_insertAt 4 none 2 := ⟨tw_59, tw_2, tw_58, by decide, by decide +kernel⟩
theorem wy_X1_deleteAt : Wy yX1_deleteAt cX1_deleteAt 2 none 1 := ⟨tw_213, tw_2, tw_212, by decide, by decide +kernel⟩
theorem wy_X1_sum : Wy yX1_sum cX1_sum 6 (some .int) 2 := ⟨tw_161, tw_2, tw_160, by decide, by decide +kernel⟩
theorem wy_X1_groupOf : Wy yX1_groupOf cX1_groupOf 4 (some .int) 1 := ⟨tw_153, tw_2, tw_152, by decide, by decide +kernel⟩
theorem wy_X2_init : Wy yX2_init cX2_init 7 none 4 := ⟨tw_17, tw_1, tw_16, by decide, by decide +kernel⟩
theorem wy_X2_put : Wy yX2_put cX2_put 4 (some .int) 2 := ⟨tw_136, tw_1, tw_134, by decide, by decide +kernel⟩
theorem wy_X2_find : Wy yX2_find cX2_find 4 (some .int) 1 := ⟨tw_201, tw_1, tw_199, by decide, by decide +kernel⟩
theorem wy_X2_next : Wy yX2_next cX2_next 4 (some .int) 1 := ⟨tw_205, tw_1, tw_203, by decide, by decide +kernel⟩
theorem wy_X2_remove : Wy yX2_remove cX2_remove 5 (some .int) 1 := ⟨tw_209, tw_1, tw_207, by decide, by decide +kernel⟩
theorem wy_X2_interval : Wy yX2_interval cX2_interval 3 (some .int) 2 := ⟨tw_221, tw_1, tw_219, by decide, by decide +kernel⟩
theorem wy_X2_cut : Wy yX2_cut cX2_cut 3 (some .int) 1 := ⟨tw_229, tw_1, tw_227, by decide, by decide +kernel⟩
theorem wy_X2_open : Wy yX2_open cX2_open 1 (some .int) 0 := ⟨tw_233, tw_1, tw_231, by decide, by decide +kernel⟩
theorem wy_X2_split : Wy yX2_split cX2_split 2 (some .int) 1 := ⟨tw_241, tw_1, tw_239, by decide, by decide +kernel⟩
theorem wy_X2_index : Wy yX2_index cX2_index 3 (some .int) 2 := ⟨tw_280, tw_1, tw_278, by decide, by decide +kernel⟩
theorem wy_X2_verify : Wy yX2_verify cX2_verify 1 (some .int) 0 := ⟨tw_245, tw_1, tw_243, by decide, by decide +kernel⟩
theorem wy_X2_reorganise : Wy yX2_reorganise cX2_reorganise 5 (some .int) 0 := ⟨tw_261, tw_1, tw_259, by decide, by decide +kernel⟩
theorem wy_X2_order : Wy yX2_order cX2_order 2 (some .long) 1 := ⟨tw_265, tw_1, tw_263, by decide, by decide +kernel⟩
theorem wy_X2_count : Wy yX2_count cX2_count 2 (some .int) 1 := ⟨tw_269, tw_1, tw_267, by decide, by decide +kernel⟩
theorem wy_X2_heldTo : Wz yX2_heldTo cX2_heldTo 3 (some .int) 3 := ⟨tw_43, tw_1, tw_42, by decide, by decide +kernel⟩
theorem wy_X2_notGreaterThan : Wy yX2_notGreaterThan cX2_notGreaterThan 4 (some .int) 1 := ⟨tw_144, tw_1, tw_143, by decide, by decide +kernel⟩
theorem wy_X2_positionOf : Wy yX2_positionOf cX2_positionOf 4 (some .int) 1 := ⟨tw_140, tw_1, tw_139, by decide, by decide +kernel⟩
theorem wy_X2_lengthsIn : Wy yX2_lengthsIn cX2_lengthsIn 3 (some .int) 1 := ⟨tw_157, tw_1, tw_156, by decide, by decide +kernel⟩
theorem wy_X2_lowBitsOfFirstKey : Wy yX2_lowBitsOfFirstKey cX2_lowBitsOfFirstKey 2 (some .int) 1 := ⟨tw_284, tw_1, tw_283, by decide, by decide +kernel⟩
theorem wy_X2_place : Wy yX2_place cX2_place 7 (some .boolean) 2 := ⟨tw_149, tw_1, tw_148, by decide, by decide +kernel⟩
theorem wy_X2_insertRecord : Wy yX2_insertRecord cX2_insertRecord 6 none 3 := ⟨tw_165, tw_1, tw_164, by decide, by decide +kernel⟩
theorem wy_X2_kindOfSplit : Wy yX2_kindOfSplit cX2_kindOfSplit 2 (some (.object "IntervalSplits$Kind")) 1 := ⟨tw_169, tw_1, tw_168, by decide, by decide +kernel⟩
theorem wy_X2_takeNumber : Wy yX2_takeNumber cX2_takeNumber 2 (some .int) 0 := ⟨tw_55, tw_1, tw_54, by decide, by decide +kernel⟩
theorem wy_X2_splitArea : Wy yX2_splitArea cX2_splitArea 3 none 1 := ⟨tw_189, tw_1, tw_188, by decide, by decide +kernel⟩
theorem wy_X2_halveInterval : Wy yX2_halveInterval cX2_halveInterval 5 none 2 := ⟨tw_193, tw_1, tw_192, by decide, by decide +kernel⟩
theorem wy_X2_keptByHalving : Wy yX2_keptByHalving cX2_keptByHalving 7 (some .int) 1 := ⟨tw_197, tw_1, tw_196, by decide, by decide +kernel⟩
theorem wy_X2_giveOwnInterval : Wy yX2_giveOwnInterval cX2_giveOwnInterval 7 none 3 := ⟨tw_181, tw_1, tw_180, by decide, by decide +kernel⟩
theorem wy_X2_insertInterval : Wy yX2_insertInterval cX2_insertInterval 5 none 4 := ⟨tw_185, tw_1, tw_184, by decide, by decide +kernel⟩
theorem wy_X2_dropInterval : Wy yX2_dropInterval cX2_dropInterval 3 none 1 := ⟨tw_217, tw_1, tw_216, by decide, by decide +kernel⟩
theorem wy_X2_closeAhead : Wy yX2_closeAhead cX2_closeAhead 3 none 2 := ⟨tw_177, tw_1, tw_176, by decide, by decide +kernel⟩
theorem wy_X2_finishCutSplit : Wy yX2_finishCutSplit cX2_finishCutSplit 1 none 0 := ⟨tw_237, tw_1, tw_236, by decide, by decide +kernel⟩
theorem wy_X2_layInterval : Wy yX2_layInterval cX2_layInterval 3 none 1 := ⟨tw_51, tw_1, tw_50, by decide, by decide +kernel⟩
theorem wy_X2_brokenOrders : Wy yX2_brokenOrders cX2_brokenOrders 3 (some .int) 0 := ⟨tw_249, tw_1, tw_248, by decide, by decide +kernel⟩
theorem wy_X2_brokenRooms : Wy yX2_brokenRooms cX2_brokenRooms 5 (some .int) 0 := ⟨tw_253, tw_1, tw_252, by decide, by decide +kernel⟩
theorem wy_X2_brokenWidths : Wy yX2_brokenWidths cX2_brokenWidths 3 (some .int) 0 := ⟨tw_257, tw_1, tw_256, by decide, by decide +kernel⟩
set_option maxHeartbeats 4000000 in
set_option maxRecDepth 100000 in
/-- Row.at -/
theorem c1_at {l : Launch} {E : Gq} {ws : va_W} {q0 qa h a cap : Nat} {f : Nat → Int64} {M : List Int64} (he : ws[q0]? = some (h, .inr (1, [.ref a, .int (nI M.length)]))) (ha : ws[qa]? = some (a, .inl (E.2.2.1, cap, .inr (.inl f)))) (hok : RowOk f cap M) (hcap : cap ≤ 601) (i : Int32) : ∀ sz : Nat, Met l yX1_at (.code yX1_at cX1_at 2 (some .long) :: LT) (Rm 0 0 0) (Pw E [.ref h, .int i] ws sz) (Qr (fun r => r = some (.long (lAt M i)))) 0 0 (fun _ => False) := by
  refine mk_r (by decide) (Nat.le_of_ble_eq_true rfl) ?_
  intro p e s m below meth c ls C Wd hl
  have hl : lv_has ls 2 [(0, .ref h), (1, .int i)] := hl
  have hlen := hok.1
  by_cases hi : i < 0
  · refine lv_iload_n C.hx C.hb dX1_at_0 rfl (lv_at hl 1 rfl) ?_
    refine lv_if_lt (tgt := 30) C.hx C.hb dX1_at_1 (by decide) (fun c1 => ?_) (fun c1 => ?_)
    · refine lv_lconst (v := 0) C.hx C.hb dX1_at_30 (by decide) ?_
      exact ret_lr C (by unfold lAt; rw [if_pos hi]) dX1_at_31
    · exact absurd hi c1
  · obtain ⟨j, hj, rfl⟩ := nI_of hi
    refine lv_iload_n C.hx C.hb dX1_at_0 rfl (lv_at hl 1 rfl) ?_
    refine n_if_lt (tgt := 30) C dX1_at_1 (by decide) (by omega) ?_
    refine lv_iload_n C.hx C.hb dX1_at_4 rfl (lv_at hl 1 rfl) ?_
    refine lv_aload_n C.hx C.hb dX1_at_5 rfl (lv_at hl 0 rfl) ?_
    refine getf C Wd q0 he rfl in_X1 1 (by decide) tw_31 rfl dX1_at_6 ?_
    refine n_icmp_ge (tgt := 30) C dX1_at_9 (by decide) (by omega) (by omega) (fun c9 => ?_) (fun c9 => ?_)
    · refine lv_lconst (v := 0) C.hx C.hb dX1_at_30 (by decide) ?_
      exact ret_lr C (by rw [lAt_n hj, List.getD_eq_getElem?_getD, List.getElem?_eq_none (by omega)]; rfl) dX1_at_31
    · refine lv_iload_n C.hx C.hb dX1_at_12 rfl (lv_at hl 1 rfl) ?_
      refine lv_aload_n C.hx C.hb dX1_at_13 rfl (lv_at hl 0 rfl) ?_
      refine getf C Wd q0 he rfl in_X1 0 (by decide) tw_30 rfl dX1_at_14 ?_
      refine alenJ C Wd qa ha dX1_at_17 ?_
      refine n_icmp_ge (tgt := 30) C dX1_at_18 (by decide) (by omega) (by omega) (fun c18 => ?_) (fun c18 => ?_)
      · omega
      · refine lv_aload_n C.hx C.hb dX1_at_21 rfl (lv_at hl 0 rfl) ?_
        refine getf C Wd q0 he rfl in_X1 0 (by decide) tw_30 rfl dX1_at_22 ?_
        refine lv_iload_n C.hx C.hb dX1_at_25 rfl (lv_at hl 1 rfl) ?_
        refine lald C Wd qa ha (vp_in_nI (by omega) (by omega)) dX1_at_26 ?_
        refine n_rel (y := M.getD j 0) (by rw [nI_clamp (by omega)]; exact hok.2 _ (by omega)) ?_
        refine lv_goto (tgt := 31) C.hx C.hb dX1_at_27 (by decide) ?_
        exact ret_lr C (by rw [lAt_n hj]) dX1_at_31
set_option maxHeartbeats 4000000 in
set_option maxRecDepth 100000 in
/-- Row.intAt -/
theorem c1_intAt {l : Launch} {E : Gq} {ws : va_W} {q0 qa h a cap : Nat} {f : Nat → Int64} {M : List Int64} (he : ws[q0]? = some (h, .inr (1, [.ref a, .int (nI M.length)]))) (ha : ws[qa]? = some (a, .inl (E.2.2.1, cap, .inr (.inl f)))) (hok : RowOk f cap M) (hcap : cap ≤ 601) (i : Int32) : ∀ sz : Nat, Met l yX1_intAt (.code yX1_intAt cX1_intAt 2 (some .int) :: LT) (Rm 1 0 0) (Pw E [.ref h, .int i] ws sz) (Qr (fun r => r = some (.int (lAt M i).toInt32))) 0 0 (fun _ => False) := by
  refine mk_r (by decide) (Nat.le_of_ble_eq_true rfl) ?_
  intro p e s m below meth c ls C Wd hl
  have hl : lv_has ls 2 [(0, .ref h), (1, .int i)] := hl
  have hlen := hok.1
  refine lv_aload_n C.hx C.hb dX1_intAt_0 rfl (lv_at hl 0 rfl) ?_
  refine lv_iload_n C.hx C.hb dX1_intAt_1 rfl (lv_at hl 1 rfl) ?_
  refine call_r (runV (As := [.int (i)]) (rest := []) C Wd (c1_at (l := l) he ha hok hcap (i)) wy_X1_at ts_4 tw_67 rfl he ⟨by decide, by decide⟩ rfl hl.1 rfl (Nat.le_of_ble_eq_true rfl) dX1_intAt_2 ⟨Nat.le_refl _, Nat.le_refl _⟩) (fun v hv => ?_)
  subst hv
  refine W.eq (g2 := F0 m 5 ls [.long (lAt M (i))]) rfl ?_
  refine lv_l2i C.hx C.hb dX1_intAt_5 rfl ?_
  exact ret_ir C (rfl) dX1_intAt_6
def hld (n : Nat) (i : Int32) : Int32 := if i < 0 then 0 else if i.toNatClampNeg < n then 1 else 0
set_option maxHeartbeats 4000000 in
set_option maxRecDepth 100000 in
/-- Row.holds -/
theorem c1_holds {l : Launch} {E : Gq} {ws : va_W} {q0 qa h a cap : Nat} {f : Nat → Int64} {M : List Int64} (he : ws[q0]? = some (h, .inr (1, [.ref a, .int (nI M.length)]))) (ha : ws[qa]? = some (a, .inl (E.2.2.1, cap, .inr (.inl f)))) (hok : RowOk f cap M) (hcap : cap ≤ 601) (i : Int32) : ∀ sz : Nat, Met l yX1_holds (.code yX1_holds cX1_holds 2 (some .boolean) :: LT) (Rm 0 0 0) (Pw E [.ref h, .int i] ws sz) (Qr (fun r => r = some (.int (hld M.length i)))) 0 0 (fun _ => False) := by
  refine mk_r (by decide) (Nat.le_of_ble_eq_true rfl) ?_
  intro p e s m below meth c ls C Wd hl
  have hl : lv_has ls 2 [(0, .ref h), (1, .int i)] := hl
  have hlen := hok.1
  by_cases hi : i < 0
  · refine lv_iload_n C.hx C.hb dX1_holds_0 rfl (lv_at hl 1 rfl) ?_
    refine lv_if_lt (tgt := 16) C.hx C.hb dX1_holds_1 (by decide) (fun c1 => ?_) (fun c1 => ?_)
    · refine lv_iconst (v := nI (0)) C.hx C.hb dX1_holds_16 (by decide) ?_
      exact ret_zr C (by unfold hld; rw [if_pos hi]; rfl) (by decide) dX1_holds_17
    · exact absurd hi c1
  · obtain ⟨j, hj, rfl⟩ := nI_of hi
    refine lv_iload_n C.hx C.hb dX1_holds_0 rfl (lv_at hl 1 rfl) ?_
    refine n_if_lt (tgt := 16) C dX1_holds_1 (by decide) (by omega) ?_
    refine lv_iload_n C.hx C.hb dX1_holds_4 rfl (lv_at hl 1 rfl) ?_
    refine lv_aload_n C.hx C.hb dX1_holds_5 rfl (lv_at hl 0 rfl) ?_
    refine getf C Wd q0 he rfl in_X1 1 (by decide) tw_31 rfl dX1_holds_6 ?_
    refine n_icmp_ge (tgt := 16) C dX1_holds_9 (by decide) (by omega) (by omega) (fun c9 => ?_) (fun c9 => ?_)
    · refine lv_iconst (v := nI (0)) C.hx C.hb dX1_holds_16 (by decide) ?_
      exact ret_zr C (by unfold hld; rw [if_neg hi, nI_clamp hj, if_neg (by omega)]; rfl) (by decide) dX1_holds_17
    · refine lv_iconst (v := nI (1)) C.hx C.hb dX1_holds_12 (by decide) ?_
      refine lv_goto (tgt := 17) C.hx C.hb dX1_holds_13 (by decide) ?_
      exact ret_zr C (by unfold hld; rw [if_neg hi, nI_clamp hj, if_pos (by omega)]; rfl) (by decide) dX1_holds_17
/-- the numbers from place a to ahead of place b, together -/
def sm (L : List Nat) (a b : Nat) : Nat := ((L.take b).drop a).sum
theorem sm_step {L : List Nat} {j b : Nat} (h : j < b) (hb : j < L.length) : sm L j b = L.getD j 0 + sm L (j + 1) b := by
  unfold sm
  have h1 : j < (L.take b).length := by simp; omega
  rw [List.drop_eq_getElem_cons h1, List.sum_cons]
  congr 1
  simp [List.getD_eq_getElem?_getD, List.getElem?_eq_getElem hb]
theorem sm_end {L : List Nat} {j b : Nat} (h : b ≤ j ∨ L.length ≤ j) : sm L j b = 0 := by
  unfold sm
  rw [List.drop_eq_nil_of_le (by simp; omega)]
  rfl
theorem lAt_m {L : List Nat} {j : Nat} (h : j < 2 ^ 31) : (lAt (L.map lN) (nI j)).toInt32 = nI (L.getD j 0) := by rw [lAt_n h, map_getD, lN_i]
set_option maxHeartbeats 4000000 in
set_option maxRecDepth 100000 in
theorem l1_sum {p : Program} {l : Launch} {e : Env} {s : State} {m : MethodId} {args : Array Value} {below : List Frame} {meth : Method} {c : Code} {A : Nat → Prop} {E : Gq} {ws : va_W} {q0 qa h a cap : Nat} {f : Nat → Int64} {L : List Nat} (he : ws[q0]? = some (h, .inr (1, [.ref a, .int (nI (L.map lN).length)]))) (ha : ws[qa]? = some (a, .inl (E.2.2.1, cap, .inr (.inl f)))) (hok : RowOk f cap (L.map lN)) (hcap : cap ≤ 601) {x0 x1 : Value} (C : Cx E p s m args meth c cX1_sum 6 (some .int) RX1 A) (Wd : Wl E A ws s s.heap []) {b t0 : Nat} {en : Nat} (hen : en = b ∨ (en = L.length ∧ L.length ≤ b)) (hle : en ≤ L.length) : ∀ (n j t : Nat), en - j = n → j ≤ 2 ^ 30 → nI (t + sm L j b) = nI t0 → ∀ ls : Array Slot, lv_has ls 6 [(5, .int (nI j)), (4, .int (nI t)), (3, .int (nI en)), (0, .ref h)] → W p l e (Rm 1 0 0) s m args below meth c s.heap [] 0 0 (MQ below (Qr (fun r => r = some (.int (nI t0)))) args s 0 0 (fun _ => False)) (F0 m 23 ls []) := by
  have hlen := hok.1
  rw [List.length_map] at hlen
  intro n
  induction n with
  | zero =>
    intro j t hn hj ht ls hl
    refine lv_iload C.hx C.hb dX1_sum_23 (lv_at hl 0 rfl) ?_
    refine lv_iload_n C.hx C.hb dX1_sum_25 rfl (lv_at hl 2 rfl) ?_
    refine n_icmp_ge (tgt := 47) C dX1_sum_26 (by decide) (by omega) (by omega) (fun c26 => ?_) (fun c26 => ?_)
    · refine lv_iload C.hx C.hb dX1_sum_47 (lv_at hl 1 rfl) ?_
      exact ret_ir C (by rw [sm_end (by omega)] at ht; rw [← ht]; rfl) dX1_sum_49
    · omega
  | succ n ih =>
    intro j t hn hj ht ls hl
    refine lv_iload C.hx C.hb dX1_sum_23 (lv_at hl 0 rfl) ?_
    refine lv_iload_n C.hx C.hb dX1_sum_25 rfl (lv_at hl 2 rfl) ?_
    refine n_icmp_ge (tgt := 47) C dX1_sum_26 (by decide) (by omega) (by omega) (fun c26 => ?_) (fun c26 => ?_)
    · omega
    · refine lv_iload C.hx C.hb dX1_sum_29 (lv_at hl 1 rfl) ?_
      refine lv_aload_n C.hx C.hb dX1_sum_31 rfl (lv_at hl 3 rfl) ?_
      refine lv_iload C.hx C.hb dX1_sum_32 (lv_at hl 0 rfl) ?_
      refine call_r (runV (As := [.int (nI (j))]) (rest := [.int (nI (t))]) C Wd (c1_at (l := l) he ha hok hcap (nI (j))) wy_X1_at ts_4 tw_67 rfl he ⟨by decide, by decide⟩ rfl hl.1 rfl (Nat.le_of_ble_eq_true rfl) dX1_sum_34 ⟨Nat.le_refl _, Nat.le_refl _⟩) (fun v hv => ?_)
      subst hv
      refine W.eq (g2 := F0 m 37 ls [.long (lAt (L.map lN) (nI (j))), .int (nI (t))]) rfl ?_
      refine lv_l2i C.hx C.hb dX1_sum_37 rfl ?_
      refine n_re (j := nI (L.getD j 0)) (lAt_m (by omega)) ?_
      refine n_add C dX1_sum_38 ?_
      refine lv_istore (lv' := [(4, .int (nI (t + (L.getD j 0)))), (5, .int (nI (j))), (3, .int (nI (en))), (0, .ref (h))]) C.hx C.hb dX1_sum_39 hl (by decide) rfl (fun ls hl => ?_)
      refine lv_iinc (v := nI (j + 1)) (lv' := [(5, .int (nI (j + 1))), (4, .int (nI (t + (L.getD j 0)))), (3, .int (nI (en))), (0, .ref (h))]) C.hx C.hb dX1_sum_41 hl (k := 1) rfl (nI_1 _) (by decide) rfl (fun ls hl => ?_)
      refine lv_goto (tgt := 23) C.hx C.hb dX1_sum_44 (by decide) ?_
      exact ih (j + 1) (t + L.getD j 0) (by omega) (by omega) (by rw [← ht, sm_step (L := L) (j := j) (b := b) (by omega) (by omega), Nat.add_assoc]) ls (lv_sub hl [0, 1, 2, 3] rfl)
set_option maxHeartbeats 4000000 in
set_option maxRecDepth 100000 in
/-- Row.sum -/
theorem c1_sum {l : Launch} {E : Gq} {ws : va_W} {q0 qa h a cap : Nat} {f : Nat → Int64} {L : List Nat} (he : ws[q0]? = some (h, .inr (1, [.ref a, .int (nI (L.map lN).length)]))) (ha : ws[qa]? = some (a, .inl (E.2.2.1, cap, .inr (.inl f)))) (hok : RowOk f cap (L.map lN)) (hcap : cap ≤ 601) {x y : Nat} (hx : x ≤ 2 ^ 30) (hy : y ≤ 2 ^ 30) : ∀ sz : Nat, Met l yX1_sum (.code yX1_sum cX1_sum 6 (some .int) :: LT) (Rm 1 0 0) (Pw E [.ref h, .int (nI x), .int (nI y)] ws sz) (Qr (fun r => r = some (.int (nI (sm L x y))))) 0 0 (fun _ => False) := by
  refine mk_r (by decide) (Nat.le_of_ble_eq_true rfl) ?_
  intro p e s m below meth c ls C Wd hl
  have hl : lv_has ls 6 [(0, .ref h), (1, .int (nI x)), (2, .int (nI y))] := hl
  have hlen := hok.1
  have hlm : (L.map lN).length = L.length := List.length_map _
  refine lv_iload_n C.hx C.hb dX1_sum_0 rfl (lv_at hl 2 rfl) ?_
  refine lv_aload_n C.hx C.hb dX1_sum_1 rfl (lv_at hl 0 rfl) ?_
  refine getf C Wd q0 he rfl in_X1 1 (by decide) tw_31 rfl dX1_sum_2 ?_
  refine n_icmp_ge (tgt := 12) C dX1_sum_5 (by decide) (by omega) (by omega) (fun c5 => ?_) (fun c5 => ?_)
  · refine lv_aload_n C.hx C.hb dX1_sum_12 rfl (lv_at hl 0 rfl) ?_
    refine getf C Wd q0 he rfl in_X1 1 (by decide) tw_31 rfl dX1_sum_13 ?_
    refine lv_istore_n (lv' := [(3, .int (nI ((L.map lN).length))), (0, .ref (h)), (1, .int (nI (x))), (2, .int (nI (y)))]) C.hx C.hb dX1_sum_16 rfl hl (by decide) rfl (fun ls hl => ?_)
    refine lv_iconst (v := nI (0)) C.hx C.hb dX1_sum_17 (by decide) ?_
    refine lv_istore (lv' := [(4, .int (nI (0))), (3, .int (nI ((L.map lN).length))), (0, .ref (h)), (1, .int (nI (x))), (2, .int (nI (y)))]) C.hx C.hb dX1_sum_18 hl (by decide) rfl (fun ls hl => ?_)
    refine lv_iload_n C.hx C.hb dX1_sum_20 rfl (lv_at hl 3 rfl) ?_
    refine lv_istore (lv' := [(5, .int (nI (x))), (4, .int (nI (0))), (3, .int (nI ((L.map lN).length))), (0, .ref (h)), (1, .int (nI (x))), (2, .int (nI (y)))]) C.hx C.hb dX1_sum_21 hl (by decide) rfl (fun ls hl => ?_)
    exact l1_sum he ha hok hcap (x0 := .null) (x1 := .null) C Wd (b := y) (en := (L.map lN).length) (by omega) (by omega) _ x 0 rfl hx (by rw [Nat.zero_add]) ls (lv_sub hl [0, 1, 2, 3] rfl)
  · refine lv_iload_n C.hx C.hb dX1_sum_8 rfl (lv_at hl 2 rfl) ?_
    refine lv_goto (tgt := 16) C.hx C.hb dX1_sum_9 (by decide) ?_
    refine lv_istore_n (lv' := [(3, .int (nI (y))), (0, .ref (h)), (1, .int (nI (x))), (2, .int (nI (y)))]) C.hx C.hb dX1_sum_16 rfl hl (by decide) rfl (fun ls hl => ?_)
    refine lv_iconst (v := nI (0)) C.hx C.hb dX1_sum_17 (by decide) ?_
    refine lv_istore (lv' := [(4, .int (nI (0))), (3, .int (nI (y))), (0, .ref (h)), (1, .int (nI (x))), (2, .int (nI (y)))]) C.hx C.hb dX1_sum_18 hl (by decide) rfl (fun ls hl => ?_)
    refine lv_iload_n C.hx C.hb dX1_sum_20 rfl (lv_at hl 3 rfl) ?_
    refine lv_istore (lv' := [(5, .int (nI (x))), (4, .int (nI (0))), (3, .int (nI (y))), (0, .ref (h)), (1, .int (nI (x))), (2, .int (nI (y)))]) C.hx C.hb dX1_sum_21 hl (by decide) rfl (fun ls hl => ?_)
    exact l1_sum he ha hok hcap (x0 := .null) (x1 := .null) C Wd (b := y) (en := y) (by omega) (by omega) _ x 0 rfl hx (by rw [Nat.zero_add]) ls (lv_sub hl [0, 1, 2, 3] rfl)
/-- which group a member is in -/
def gIx : List Nat → Nat → Nat
  | [], _ => 0
  | x :: l, m => if m < x then 0 else gIx l (m - x) + 1
def gOf (L : List Nat) (m : Nat) : Nat := if m < L.sum then gIx L m else 0
theorem take_s {L : List Nat} {j : Nat} (h : j < L.length) : (L.take (j + 1)).sum = (L.take j).sum + L.getD j 0 := by
  rw [List.take_succ_eq_append_getElem h, List.sum_append]
  simp [List.getD_eq_getElem?_getD, List.getElem?_eq_getElem h]
theorem sum_split (L : List Nat) (j : Nat) : L.sum = (L.take j).sum + (L.drop j).sum := by
  rw [← List.sum_append, List.take_append_drop]
theorem gIx_at {L : List Nat} : ∀ {j m : Nat}, j < L.length → (L.take j).sum ≤ m → m < (L.take (j + 1)).sum → gIx L m = j := by
  induction L with
  | nil => intro j m h; simp at h
  | cons x l ih =>
    intro j m h h1 h2
    cases j with
    | zero =>
      have h3 : m < x := by simpa using h2
      simp [gIx, h3]
    | succ j =>
      simp only [List.take_succ_cons, List.sum_cons] at h1 h2
      have h3 : ¬ m < x := by omega
      simp only [gIx, if_neg h3]
      rw [ih (j := j) (m := m - x) (by simpa using h) (by omega) (by omega)]
set_option maxHeartbeats 4000000 in
set_option maxRecDepth 100000 in
theorem l1_groupOf {p : Program} {l : Launch} {e : Env} {s : State} {m : MethodId} {args : Array Value} {below : List Frame} {meth : Method} {c : Code} {A : Nat → Prop} {E : Gq} {ws : va_W} {q0 qa h a cap : Nat} {f : Nat → Int64} {L : List Nat} (he : ws[q0]? = some (h, .inr (1, [.ref a, .int (nI (L.map lN).length)]))) (ha : ws[qa]? = some (a, .inl (E.2.2.1, cap, .inr (.inl f)))) (hok : RowOk f cap (L.map lN)) (hcap : cap ≤ 601) (C : Cx E p s m args meth c cX1_groupOf 4 (some .int) RX1 A) (Wd : Wl E A ws s s.heap []) {b : Nat} (hb : b < 2 ^ 31) (hsum : L.sum < 2 ^ 31) : ∀ (n j : Nat), L.length - j = n → j ≤ L.length → (L.take j).sum ≤ b → ∀ ls : Array Slot, lv_has ls 4 [(3, .int (nI j)), (2, .int (nI (L.take j).sum)), (1, .int (nI b)), (0, .ref h)] → W p l e (Rm 1 0 0) s m args below meth c s.heap [] 0 0 (MQ below (Qr (fun r => r = some (.int (nI (gOf L b))))) args s 0 0 (fun _ => False)) (F0 m 4 ls []) := by
  have hlen := hok.1
  have hlm : (L.map lN).length = L.length := List.length_map _
  intro n
  induction n with
  | zero =>
    intro j hn hj ht ls hl
    refine lv_iload_n C.hx C.hb dX1_groupOf_4 rfl (lv_at hl 0 rfl) ?_
    refine lv_aload_n C.hx C.hb dX1_groupOf_5 rfl (lv_at hl 3 rfl) ?_
    refine getf C Wd q0 he rfl in_X1 1 (by decide) tw_31 rfl dX1_groupOf_6 ?_
    refine n_icmp_ge (tgt := 34) C dX1_groupOf_9 (by decide) (by omega) (by omega) (fun c9 => ?_) (fun c9 => ?_)
    · refine lv_iconst (v := nI (0)) C.hx C.hb dX1_groupOf_34 (by decide) ?_
      exact ret_ir C (by have e : j = L.length := (by omega); subst e; rw [List.take_length] at ht; unfold gOf; rw [if_neg (by omega)]) dX1_groupOf_35
    · omega
  | succ n ih =>
    intro j hn hj ht ls hl
    have hs := take_s (L := L) (j := j) (by omega)
    have hs2 := sum_split L (j + 1)
    refine lv_iload_n C.hx C.hb dX1_groupOf_4 rfl (lv_at hl 0 rfl) ?_
    refine lv_aload_n C.hx C.hb dX1_groupOf_5 rfl (lv_at hl 3 rfl) ?_
    refine getf C Wd q0 he rfl in_X1 1 (by decide) tw_31 rfl dX1_groupOf_6 ?_
    refine n_icmp_ge (tgt := 34) C dX1_groupOf_9 (by decide) (by omega) (by omega) (fun c9 => ?_) (fun c9 => ?_)
    · omega
    · refine lv_iload_n C.hx C.hb dX1_groupOf_12 rfl (lv_at hl 1 rfl) ?_
      refine lv_aload_n C.hx C.hb dX1_groupOf_13 rfl (lv_at hl 3 rfl) ?_
      refine lv_iload_n C.hx C.hb dX1_groupOf_14 rfl (lv_at hl 0 rfl) ?_
      refine call_r (runV (As := [.int (nI (j))]) (rest := [.int (nI ((L.take j).sum))]) C Wd (c1_at (l := l) he ha hok hcap (nI (j))) wy_X1_at ts_4 tw_67 rfl he ⟨by decide, by decide⟩ rfl hl.1 rfl (Nat.le_of_ble_eq_true rfl) dX1_groupOf_15 ⟨Nat.le_refl _, Nat.le_refl _⟩) (fun v hv => ?_)
      subst hv
      refine W.eq (g2 := F0 m 18 ls [.long (lAt (L.map lN) (nI (j))), .int (nI ((L.take j).sum))]) rfl ?_
      refine lv_l2i C.hx C.hb dX1_groupOf_18 rfl ?_
      refine n_re (j := nI (L.getD j 0)) (lAt_m (by omega)) ?_
      refine n_add C dX1_groupOf_19 ?_
      refine n_re (j := nI (L.take (j + 1)).sum) (by rw [hs]) ?_
      refine lv_istore_n (lv' := [(2, .int (nI ((L.take (j + 1)).sum))), (3, .int (nI (j))), (1, .int (nI (b))), (0, .ref (h))]) C.hx C.hb dX1_groupOf_20 rfl hl (by decide) rfl (fun ls hl => ?_)
      refine lv_iload_n C.hx C.hb dX1_groupOf_21 rfl (lv_at hl 2 rfl) ?_
      refine lv_iload_n C.hx C.hb dX1_groupOf_22 rfl (lv_at hl 0 rfl) ?_
      refine n_icmp_ge (tgt := 28) C dX1_groupOf_23 (by decide) (by omega) (by omega) (fun c23 => ?_) (fun c23 => ?_)
      · refine lv_iinc (v := nI (j + 1)) (lv' := [(3, .int (nI (j + 1))), (2, .int (nI ((L.take (j + 1)).sum))), (1, .int (nI (b))), (0, .ref (h))]) C.hx C.hb dX1_groupOf_28 hl (k := 1) rfl (nI_1 _) (by decide) rfl (fun ls hl => ?_)
        refine lv_goto (tgt := 4) C.hx C.hb dX1_groupOf_31 (by decide) ?_
        exact ih (j + 1) (by omega) (by omega) (by omega) ls (lv_sub hl [0, 1, 2, 3] rfl)
      · refine lv_iload_n C.hx C.hb dX1_groupOf_26 rfl (lv_at hl 1 rfl) ?_
        exact ret_ir C (by unfold gOf; rw [if_pos (by omega), gIx_at (j := j) (by omega) ht (by omega)]) dX1_groupOf_27
set_option maxHeartbeats 4000000 in
set_option maxRecDepth 100000 in
/-- Row.groupOf -/
theorem c1_groupOf {l : Launch} {E : Gq} {ws : va_W} {q0 qa h a cap : Nat} {f : Nat → Int64} {L : List Nat} (he : ws[q0]? = some (h, .inr (1, [.ref a, .int (nI (L.map lN).length)]))) (ha : ws[qa]? = some (a, .inl (E.2.2.1, cap, .inr (.inl f)))) (hok : RowOk f cap (L.map lN)) (hcap : cap ≤ 601) {b : Nat} (hb : b < 2 ^ 31) (hsum : L.sum < 2 ^ 31) : ∀ sz : Nat, Met l yX1_groupOf (.code yX1_groupOf cX1_groupOf 4 (some .int) :: LT) (Rm 1 0 0) (Pw E [.ref h, .int (nI b)] ws sz) (Qr (fun r => r = some (.int (nI (gOf L b))))) 0 0 (fun _ => False) := by
  refine mk_r (by decide) (Nat.le_of_ble_eq_true rfl) ?_
  intro p e s m below meth c ls C Wd hl
  have hl : lv_has ls 4 [(0, .ref h), (1, .int (nI b))] := hl
  have hlen := hok.1
  refine lv_iconst (v := nI (0)) C.hx C.hb dX1_groupOf_0 (by decide) ?_
  refine lv_istore_n (lv' := [(2, .int (nI (0))), (0, .ref (h)), (1, .int (nI (b)))]) C.hx C.hb dX1_groupOf_1 rfl hl (by decide) rfl (fun ls hl => ?_)
  refine lv_iconst (v := nI (0)) C.hx C.hb dX1_groupOf_2 (by decide) ?_
  refine lv_istore_n (lv' := [(3, .int (nI (0))), (2, .int (nI (0))), (0, .ref (h)), (1, .int (nI (b)))]) C.hx C.hb dX1_groupOf_3 rfl hl (by decide) rfl (fun ls hl => ?_)
  exact l1_groupOf he ha hok hcap C Wd hb hsum _ 0 rfl (Nat.zero_le _) (Nat.zero_le _) ls (lv_sub hl [0, 1, 3, 2] rfl)
/-- a world whose row at q0, qa holds n numbers of f -/
def rwS (E : Gq) (ws : va_W) (q0 qa h a cap : Nat) (f : Nat → Int64) (n : Nat) : va_W := (ws.set q0 (h, .inr (1, [.ref a, .int (nI n)]))).set qa (a, .inl (E.2.2.1, cap, .inr (.inl f)))
theorem set_same {α : Type} {l : List α} {i : Nat} {x : α} (h : l[i]? = some x) : l.set i x = l := by
  apply List.ext_getElem?
  intro j
  by_cases e : i = j
  · subst e
    obtain ⟨h1, -⟩ := List.getElem?_eq_some_iff.mp h
    rw [List.getElem?_set_self h1]
    exact h.symm
  · simp [List.getElem?_set, e]
theorem rw_ne {E : Gq} {ws : va_W} {q0 qa h a cap : Nat} {f : Nat → Int64} {fs : List Value} (he : ws[q0]? = some (h, .inr (1, fs))) (ha : ws[qa]? = some (a, .inl (E.2.2.1, cap, .inr (.inl f)))) : q0 ≠ qa := by
  intro e
  subst e
  rw [he] at ha
  cases ha
theorem row_set {f : Nat → Int64} {cap j : Nat} {M : List Int64} {x : Int64} (hok : RowOk f cap M) : RowOk (vp_updL f j x) cap (M.set j x) := by
  refine ⟨by rw [List.length_set]; exact hok.1, fun i hi => ?_⟩
  rw [List.length_set] at hi
  by_cases e : i = j
  · subst e
    rw [pk_uLs]
    simp [List.getD_eq_getElem?_getD, hi]
  · rw [pk_uLn e, hok.2 i hi]
    simp [List.getD_eq_getElem?_getD, List.getElem?_set, Ne.symm e]
theorem row_ins {f : Nat → Int64} {cap j : Nat} {M : List Int64} {x : Int64} (hok : RowOk f cap M) (hj : j ≤ M.length) (hc : M.length < cap) : RowOk (vp_updL (va_cpy f f j (j + 1) (M.length - j)) j x) cap (ins M j x) := by
  refine ⟨by rw [ins_len hj]; omega, fun i hi => ?_⟩
  rw [ins_len hj] at hi
  rw [ins_get hj]
  by_cases e : i = j
  · subst e
    rw [pk_uLs, if_neg (Nat.lt_irrefl _), if_pos rfl]
  · rw [pk_uLn e]
    by_cases h1 : i < j
    · rw [if_pos h1, pk_cpy_out (Or.inl (by omega)), hok.2 i (by omega)]
    · rw [if_neg h1, if_neg e, pk_cpy_in (by omega) (by omega), hok.2 _ (by omega)]
      congr 1
      omega
theorem row_del {f : Nat → Int64} {cap j : Nat} {M : List Int64} (hok : RowOk f cap M) (hj : j < M.length) : RowOk (va_cpy f f (j + 1) j (M.length - j - 1)) cap (del M j) := by
  have := hok.1
  refine ⟨by rw [del_len hj]; omega, fun i hi => ?_⟩
  rw [del_len hj] at hi
  rw [del_get hj]
  by_cases h1 : i < j
  · rw [if_pos h1, pk_cpy_out (Or.inl (by omega)), hok.2 i (by omega)]
  · rw [if_neg h1, pk_cpy_in (by omega) (by omega), hok.2 _ (by omega)]
    congr 1
    omega
theorem at_set_self {α : Type} {l : List α} {i : Nat} {x y : α} (h : l[i]? = some y) : (l.set i x)[i]? = some x := by
  obtain ⟨h1, -⟩ := List.getElem?_eq_some_iff.mp h
  simp [List.getElem?_set, h1]
set_option maxHeartbeats 4000000 in
set_option maxRecDepth 100000 in
/-- Row.raise -/
theorem c1_raise {l : Launch} {E : Gq} {ws : va_W} {q0 qa h a cap : Nat} {f : Nat → Int64} {M : List Int64} (he : ws[q0]? = some (h, .inr (1, [.ref a, .int (nI M.length)]))) (ha : ws[qa]? = some (a, .inl (E.2.2.1, cap, .inr (.inl f)))) (hok : RowOk f cap M) (hcap : cap ≤ 601) {j : Nat} (hj : j < M.length) (d : Int32) : ∀ sz : Nat, Met l yX1_raise (.code yX1_raise cX1_raise 3 none :: LT) (Rm 0 0 0) (Pw E [.ref h, .int (nI j), .int d] ws sz) (Qw E ws sz (fun r ws' => r = none ∧ ∃ f', ws' = rwS E ws q0 qa h a cap f' M.length ∧ RowOk f' cap (M.set j (M.getD j 0 + d.toInt64)))) 0 0 (va_A ws sz) := by
  refine mk_w (by decide) (Nat.le_of_ble_eq_true rfl) ?_
  intro p e s m below meth c ls C Wd hl
  have hl : lv_has ls 3 [(0, .ref h), (1, .int (nI j)), (2, .int d)] := hl
  have hlen := hok.1
  have hne := rw_ne he ha
  refine lv_iload_n C.hx C.hb dX1_raise_0 rfl (lv_at hl 1 rfl) ?_
  refine n_if_lt (tgt := 32) C dX1_raise_1 (by decide) (by omega) ?_
  refine lv_iload_n C.hx C.hb dX1_raise_4 rfl (lv_at hl 1 rfl) ?_
  refine lv_aload_n C.hx C.hb dX1_raise_5 rfl (lv_at hl 0 rfl) ?_
  refine getf C Wd q0 he rfl in_X1 1 (by decide) tw_31 rfl dX1_raise_6 ?_
  refine n_icmp_ge (tgt := 32) C dX1_raise_9 (by decide) (by omega) (by omega) (fun c9 => ?_) (fun c9 => ?_)
  · omega
  · refine lv_iload_n C.hx C.hb dX1_raise_12 rfl (lv_at hl 1 rfl) ?_
    refine lv_aload_n C.hx C.hb dX1_raise_13 rfl (lv_at hl 0 rfl) ?_
    refine getf C Wd q0 he rfl in_X1 0 (by decide) tw_30 rfl dX1_raise_14 ?_
    refine alenJ C Wd qa ha dX1_raise_17 ?_
    refine n_icmp_ge (tgt := 32) C dX1_raise_18 (by decide) (by omega) (by omega) (fun c18 => ?_) (fun c18 => ?_)
    · omega
    · refine lv_aload_n C.hx C.hb dX1_raise_21 rfl (lv_at hl 0 rfl) ?_
      refine getf C Wd q0 he rfl in_X1 0 (by decide) tw_30 rfl dX1_raise_22 ?_
      refine lv_iload_n C.hx C.hb dX1_raise_25 rfl (lv_at hl 1 rfl) ?_
      refine lv_dup2_11 C.hx C.hb dX1_raise_26 rfl rfl ?_
      refine lald C Wd qa ha (vp_in_nI (by omega) (by omega)) dX1_raise_27 ?_
      refine n_rel (y := M.getD j 0) (by rw [nI_clamp (by omega)]; exact hok.2 _ (by omega)) ?_
      refine lv_iload_n C.hx C.hb dX1_raise_28 rfl (lv_at hl 2 rfl) ?_
      refine lv_i2l C.hx C.hb dX1_raise_29 rfl ?_
      refine lv_ladd C.hx C.hb dX1_raise_30 ?_
      refine last C Wd qa ha (vp_in_nI (by omega) (by omega)) dX1_raise_31 (fun H locs Wd => ?_)
      rw [nI_clamp (show j < 2 ^ 31 by omega)] at Wd
      exact ret_vw C Wd (⟨rfl, _, by unfold rwS; rw [set_same he], row_set hok⟩) dX1_raise_32
set_option maxHeartbeats 4000000 in
set_option maxRecDepth 100000 in
/-- Row.insertAt -/
theorem c1_insertAt {l : Launch} {E : Gq} {ws : va_W} {q0 qa h a cap : Nat} {f : Nat → Int64} {M : List Int64} (he : ws[q0]? = some (h, .inr (1, [.ref a, .int (nI M.length)]))) (ha : ws[qa]? = some (a, .inl (E.2.2.1, cap, .inr (.inl f)))) (hok : RowOk f cap M) (hcap : cap ≤ 601) {j : Nat} (hj : j ≤ M.length) (hc : M.length < cap) (x : Int64) : ∀ sz : Nat, Met l yX1_insertAt (.code yX1_insertAt cX1_insertAt 4 none :: LT) (Rm 1 0 0) (Pw E [.ref h, .int (nI j), .long x] ws sz) (Qw E ws sz (fun r ws' => r = none ∧ ∃ f', ws' = rwS E ws q0 qa h a cap f' (M.length + 1) ∧ RowOk f' cap (ins M j x))) 0 0 (va_A ws sz) := by
  refine mk_w (by decide) (Nat.le_of_ble_eq_true rfl) ?_
  intro p e s m below meth c ls C Wd hl
  have hl : lv_has ls 4 [(0, .ref h), (1, .int (nI j)), (2, .long x)] := hl
  have hlen := hok.1
  have hne := rw_ne he ha
  have he0 := he
  refine lv_iload_n C.hx C.hb dX1_insertAt_0 rfl (lv_at hl 1 rfl) ?_
  refine n_if_lt (tgt := 24) C dX1_insertAt_1 (by decide) (by omega) ?_
  refine lv_iload_n C.hx C.hb dX1_insertAt_4 rfl (lv_at hl 1 rfl) ?_
  refine lv_aload_n C.hx C.hb dX1_insertAt_5 rfl (lv_at hl 0 rfl) ?_
  refine getf C Wd q0 he rfl in_X1 1 (by decide) tw_31 rfl dX1_insertAt_6 ?_
  refine n_icmp_gt (tgt := 24) C dX1_insertAt_9 (by decide) (by omega) (by omega) (fun c9 => ?_) (fun c9 => ?_)
  · omega
  · refine lv_aload_n C.hx C.hb dX1_insertAt_12 rfl (lv_at hl 0 rfl) ?_
    refine getf C Wd q0 he rfl in_X1 1 (by decide) tw_31 rfl dX1_insertAt_13 ?_
    refine lv_aload_n C.hx C.hb dX1_insertAt_16 rfl (lv_at hl 0 rfl) ?_
    refine getf C Wd q0 he rfl in_X1 0 (by decide) tw_30 rfl dX1_insertAt_17 ?_
    refine alenJ C Wd qa ha dX1_insertAt_20 ?_
    refine n_icmp_lt (tgt := 25) C dX1_insertAt_21 (by decide) (by omega) (by omega) (fun c21 => ?_) (fun c21 => ?_)
    · refine lv_aload_n C.hx C.hb dX1_insertAt_25 rfl (lv_at hl 0 rfl) ?_
      refine getf C Wd q0 he rfl in_X1 0 (by decide) tw_30 rfl dX1_insertAt_26 ?_
      refine lv_iload_n C.hx C.hb dX1_insertAt_29 rfl (lv_at hl 1 rfl) ?_
      refine lv_aload_n C.hx C.hb dX1_insertAt_30 rfl (lv_at hl 0 rfl) ?_
      refine getf C Wd q0 he rfl in_X1 0 (by decide) tw_30 rfl dX1_insertAt_31 ?_
      refine lv_iload_n C.hx C.hb dX1_insertAt_34 rfl (lv_at hl 1 rfl) ?_
      refine lv_iconst (v := nI (1)) C.hx C.hb dX1_insertAt_35 (by decide) ?_
      refine n_add C dX1_insertAt_36 ?_
      refine lv_aload_n C.hx C.hb dX1_insertAt_37 rfl (lv_at hl 0 rfl) ?_
      refine getf C Wd q0 he rfl in_X1 1 (by decide) tw_31 rfl dX1_insertAt_38 ?_
      refine lv_iload_n C.hx C.hb dX1_insertAt_41 rfl (lv_at hl 1 rfl) ?_
      refine n_sub C dX1_insertAt_42 (by omega) ?_
      refine va_copyl C.hx C.hb (C.hml.trans hl.1.symm) C.hown (C.hts _ tw_60) (C.hts _ tw_62) (C.hts _ tw_61) (C.hts _ tw_6) C.hK.1 Wd.1 Wd.2.1 Wd.2.2 qa qa 1 1 ha ha rfl rfl rfl (nI_pos (by omega)) (nI_pos (by omega)) (nI_pos (by omega)) (by rw [nI_clamp (by omega), nI_clamp (by omega)]; omega) (by rw [nI_clamp (by omega), nI_clamp (by omega)]; omega) (fun _ _ => rfl) (by decide) (by decide) dX1_insertAt_43 (fun H locs a1 a2 a3 => ?_)
      have Wd : Wl E _ _ s H locs := ⟨a1, a2, a3⟩
      rw [nI_clamp (show j < 2 ^ 31 by omega), nI_clamp (show j + 1 < 2 ^ 31 by omega), nI_clamp (show M.length - j < 2 ^ 31 by omega)] at Wd
      have he := (List.getElem?_set_ne (l := ws) (a := (a, (.inl (E.2.2.1, cap, .inr (.inl (va_cpy f f (j) (j + 1) (M.length - j)))) : va_E))) (Ne.symm hne)).trans he
      have ha := at_set_self (x := (a, (.inl (E.2.2.1, cap, .inr (.inl (va_cpy f f (j) (j + 1) (M.length - j)))) : va_E))) ha
      refine lv_aload_n C.hx C.hb dX1_insertAt_46 rfl (lv_at hl 0 rfl) ?_
      refine getf C Wd q0 he rfl in_X1 0 (by decide) tw_30 rfl dX1_insertAt_47 ?_
      refine lv_iload_n C.hx C.hb dX1_insertAt_50 rfl (lv_at hl 1 rfl) ?_
      refine lv_lload_n C.hx C.hb dX1_insertAt_51 rfl (lv_at hl 2 rfl) ?_
      refine last C Wd qa ha (vp_in_nI (by omega) (by omega)) dX1_insertAt_52 (fun H locs Wd => ?_)
      rw [nI_clamp (show j < 2 ^ 31 by omega)] at Wd
      rw [List.set_set] at Wd
      have he := (List.getElem?_set_ne (l := ws) (a := (a, (.inl (E.2.2.1, cap, .inr (.inl (vp_updL (va_cpy f f j (j + 1) (M.length - j)) j x))) : va_E))) (Ne.symm hne)).trans he0
      refine lv_aload_n C.hx C.hb dX1_insertAt_53 rfl (lv_at hl 0 rfl) ?_
      refine lv_dup C.hx C.hb dX1_insertAt_54 rfl ?_
      refine getf C Wd q0 he rfl in_X1 1 (by decide) tw_31 rfl dX1_insertAt_55 ?_
      refine lv_iconst (v := nI (1)) C.hx C.hb dX1_insertAt_58 (by decide) ?_
      refine n_add C dX1_insertAt_59 ?_
      refine putf C Wd q0 he rfl in_X1 tyX1 tyX1_ok nmX1 1 (by decide) tw_31 rfl (ty := .int) (by decide +kernel) rfl rfl (Nat.le_of_ble_eq_true rfl) dX1_insertAt_60 (fun H locs Wd => ?_)
      exact ret_vw C Wd (⟨rfl, _, by unfold rwS; rw [List.set_comm _ _ hne]; rfl, row_ins hok hj hc⟩) dX1_insertAt_63
    · omega
set_option maxHeartbeats 4000000 in
set_option maxRecDepth 100000 in
/-- Row.deleteAt -/
theorem c1_deleteAt {l : Launch} {E : Gq} {ws : va_W} {q0 qa h a cap : Nat} {f : Nat → Int64} {M : List Int64} (he : ws[q0]? = some (h, .inr (1, [.ref a, .int (nI M.length)]))) (ha : ws[qa]? = some (a, .inl (E.2.2.1, cap, .inr (.inl f)))) (hok : RowOk f cap M) (hcap : cap ≤ 601) {j : Nat} (hj : j < M.length) : ∀ sz : Nat, Met l yX1_deleteAt (.code yX1_deleteAt cX1_deleteAt 2 none :: LT) (Rm 1 0 0) (Pw E [.ref h, .int (nI j)] ws sz) (Qw E ws sz (fun r ws' => r = none ∧ ∃ f', ws' = rwS E ws q0 qa h a cap f' (M.length - 1) ∧ RowOk f' cap (del M j))) 0 0 (va_A ws sz) := by
  refine mk_w (by decide) (Nat.le_of_ble_eq_true rfl) ?_
  intro p e s m below meth c ls C Wd hl
  have hl : lv_has ls 2 [(0, .ref h), (1, .int (nI j))] := hl
  have hlen := hok.1
  have hne := rw_ne he ha
  refine lv_iload_n C.hx C.hb dX1_deleteAt_0 rfl (lv_at hl 1 rfl) ?_
  refine n_if_lt (tgt := 57) C dX1_deleteAt_1 (by decide) (by omega) ?_
  refine lv_iload_n C.hx C.hb dX1_deleteAt_4 rfl (lv_at hl 1 rfl) ?_
  refine lv_aload_n C.hx C.hb dX1_deleteAt_5 rfl (lv_at hl 0 rfl) ?_
  refine getf C Wd q0 he rfl in_X1 1 (by decide) tw_31 rfl dX1_deleteAt_6 ?_
  refine n_icmp_ge (tgt := 57) C dX1_deleteAt_9 (by decide) (by omega) (by omega) (fun c9 => ?_) (fun c9 => ?_)
  · omega
  · refine lv_aload_n C.hx C.hb dX1_deleteAt_12 rfl (lv_at hl 0 rfl) ?_
    refine getf C Wd q0 he rfl in_X1 1 (by decide) tw_31 rfl dX1_deleteAt_13 ?_
    refine lv_aload_n C.hx C.hb dX1_deleteAt_16 rfl (lv_at hl 0 rfl) ?_
    refine getf C Wd q0 he rfl in_X1 0 (by decide) tw_30 rfl dX1_deleteAt_17 ?_
    refine alenJ C Wd qa ha dX1_deleteAt_20 ?_
    refine n_icmp_gt (tgt := 57) C dX1_deleteAt_21 (by decide) (by omega) (by omega) (fun c21 => ?_) (fun c21 => ?_)
    · omega
    · refine lv_aload_n C.hx C.hb dX1_deleteAt_24 rfl (lv_at hl 0 rfl) ?_
      refine getf C Wd q0 he rfl in_X1 0 (by decide) tw_30 rfl dX1_deleteAt_25 ?_
      refine lv_iload_n C.hx C.hb dX1_deleteAt_28 rfl (lv_at hl 1 rfl) ?_
      refine lv_iconst (v := nI (1)) C.hx C.hb dX1_deleteAt_29 (by decide) ?_
      refine n_add C dX1_deleteAt_30 ?_
      refine lv_aload_n C.hx C.hb dX1_deleteAt_31 rfl (lv_at hl 0 rfl) ?_
      refine getf C Wd q0 he rfl in_X1 0 (by decide) tw_30 rfl dX1_deleteAt_32 ?_
      refine lv_iload_n C.hx C.hb dX1_deleteAt_35 rfl (lv_at hl 1 rfl) ?_
      refine lv_aload_n C.hx C.hb dX1_deleteAt_36 rfl (lv_at hl 0 rfl) ?_
      refine getf C Wd q0 he rfl in_X1 1 (by decide) tw_31 rfl dX1_deleteAt_37 ?_
      refine lv_iload_n C.hx C.hb dX1_deleteAt_40 rfl (lv_at hl 1 rfl) ?_
      refine n_sub C dX1_deleteAt_41 (by omega) ?_
      refine lv_iconst (v := nI (1)) C.hx C.hb dX1_deleteAt_42 (by decide) ?_
      refine n_sub C dX1_deleteAt_43 (by omega) ?_
      refine va_copyl C.hx C.hb (C.hml.trans hl.1.symm) C.hown (C.hts _ tw_60) (C.hts _ tw_62) (C.hts _ tw_61) (C.hts _ tw_6) C.hK.1 Wd.1 Wd.2.1 Wd.2.2 qa qa 1 1 ha ha rfl rfl rfl (nI_pos (by omega)) (nI_pos (by omega)) (nI_pos (by omega)) (by rw [nI_clamp (by omega), nI_clamp (by omega)]; omega) (by rw [nI_clamp (by omega), nI_clamp (by omega)]; omega) (fun _ _ => rfl) (by decide) (by decide) dX1_deleteAt_44 (fun H locs a1 a2 a3 => ?_)
      have Wd : Wl E _ _ s H locs := ⟨a1, a2, a3⟩
      rw [nI_clamp (show j + 1 < 2 ^ 31 by omega), nI_clamp (show j < 2 ^ 31 by omega), nI_clamp (show (M.length - j) - 1 < 2 ^ 31 by omega)] at Wd
      have he := (List.getElem?_set_ne (l := ws) (a := (a, (.inl (E.2.2.1, cap, .inr (.inl (va_cpy f f (j + 1) (j) ((M.length - j) - 1)))) : va_E))) (Ne.symm hne)).trans he
      have ha := at_set_self (x := (a, (.inl (E.2.2.1, cap, .inr (.inl (va_cpy f f (j + 1) (j) ((M.length - j) - 1)))) : va_E))) ha
      refine lv_aload_n C.hx C.hb dX1_deleteAt_47 rfl (lv_at hl 0 rfl) ?_
      refine lv_dup C.hx C.hb dX1_deleteAt_48 rfl ?_
      refine getf C Wd q0 he rfl in_X1 1 (by decide) tw_31 rfl dX1_deleteAt_49 ?_
      refine lv_iconst (v := nI (1)) C.hx C.hb dX1_deleteAt_52 (by decide) ?_
      refine n_sub C dX1_deleteAt_53 (by omega) ?_
      refine putf C Wd q0 he rfl in_X1 tyX1 tyX1_ok nmX1 1 (by decide) tw_31 rfl (ty := .int) (by decide +kernel) rfl rfl (Nat.le_of_ble_eq_true rfl) dX1_deleteAt_54 (fun H locs Wd => ?_)
      exact ret_vw C Wd (⟨rfl, _, by unfold rwS; rw [List.set_comm _ _ hne]; rfl, row_del hok hj⟩) dX1_deleteAt_57
