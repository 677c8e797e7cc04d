theorem nmax {a b : Nat} (ha : a < 2 ^ 31) (hb : b < 2 ^ 31) : (if nI a < nI b then nI b else nI a) = nI (max a b) := by
  by_cases h : a < b
  · rw [if_pos ((nI_ltI ha hb).mpr h)]; congr 1; omega
  · rw [if_neg (fun q => h ((nI_ltI ha hb).mp q))]; congr 1; omega
set_option maxHeartbeats 4000000 in
set_option maxRecDepth 100000 in
theorem l2_ngt {p : Program} {l : Launch} {e : Env} {s : State} {m : MethodId} {args : Array Value} {below : List Frame} {meth : Method} {c : Code} {E : Gq} {A : Nat → Prop} {z : Nat → Nat} {v : Nat → Int32} {kd : Nat} {K : List Int64} {L N S P : List Nat} {key : Int64} (C : Cx E p s m args meth c cX2_notGreaterThan 4 (some .int) RX2 A) (X : X2w E A z v kd K L N S P s s.heap []) (b1 : K.length ≤ 600) : ∀ (n j : Nat), K.length - j = n → j ≤ K.length → ngt K key = j + ngt (K.drop j) key → ∀ ls : Array Slot, lv_has ls 4 [(3, .int (nI j)), (0, .ref (z 0)), (1, .long key)] → W p l e (Rm 1 0 0) s m args below meth c s.heap [] 0 0 (MQ below (Qr (fun r => r = some (.int (nI (ngt K key))))) args s 0 0 (fun _ => False)) (F0 m 2 ls []) := by
  intro n
  induction n with
  | zero =>
    intro j hn hj ht ls hl
    refine lv_iload_n C.hx C.hb dX2_notGreaterThan_2 rfl (lv_at hl 0 rfl) ?_
    refine lv_aload_n C.hx C.hb dX2_notGreaterThan_3 rfl (lv_at hl 1 rfl) ?_
    refine x2g_4 C X dX2_notGreaterThan_4 ?_
    refine x2s_1 C X dX2_notGreaterThan_7 ?_
    refine n_icmp_ge (tgt := 32) C dX2_notGreaterThan_10 (by decide) (by omega) (by omega) (fun c10 => ?_) (fun c10 => ?_)
    · refine lv_iload_n C.hx C.hb dX2_notGreaterThan_32 rfl (lv_at hl 0 rfl) ?_
      exact ret_ir C (by rw [ht, List.drop_eq_nil_of_le (by omega)]; rfl) dX2_notGreaterThan_33
    · omega
  | succ n ih =>
    intro j hn hj ht ls hl
    have hd := ngt_drop (K := K) (key := key) (j := j) (by omega)
    refine lv_iload_n C.hx C.hb dX2_notGreaterThan_2 rfl (lv_at hl 0 rfl) ?_
    refine lv_aload_n C.hx C.hb dX2_notGreaterThan_3 rfl (lv_at hl 1 rfl) ?_
    refine x2g_4 C X dX2_notGreaterThan_4 ?_
    refine x2s_1 C X dX2_notGreaterThan_7 ?_
    refine n_icmp_ge (tgt := 32) C dX2_notGreaterThan_10 (by decide) (by omega) (by omega) (fun c10 => ?_) (fun c10 => ?_)
    · omega
    · refine lv_aload_n C.hx C.hb dX2_notGreaterThan_13 rfl (lv_at hl 1 rfl) ?_
      refine x2g_4 C X dX2_notGreaterThan_14 ?_
      refine lv_iload_n C.hx C.hb dX2_notGreaterThan_17 rfl (lv_at hl 0 rfl) ?_
      refine x2_at C X ⟨by decide, by decide⟩ hl.1 (Nat.le_of_ble_eq_true rfl) ⟨Nat.le_refl _, Nat.le_refl _⟩ dX2_notGreaterThan_18 ?_
      refine n_rel (lAt_n (by omega)) ?_
      refine lv_lload_n C.hx C.hb dX2_notGreaterThan_21 rfl (lv_at hl 2 rfl) ?_
      refine n_lcmp_gt (tgt := 32) C dX2_notGreaterThan_22 dX2_notGreaterThan_23 (by decide) (fun c22 => ?_) (fun c22 => ?_)
      · refine lv_iload_n C.hx C.hb dX2_notGreaterThan_32 rfl (lv_at hl 0 rfl) ?_
        exact ret_ir C (by rw [ht, hd, if_neg (Int64.not_le.mpr c22)]; rfl) dX2_notGreaterThan_33
      · refine lv_iinc (v := nI (j + 1)) (lv' := [(3, .int (nI (j + 1))), (0, .ref (z 0)), (1, .long (key))]) C.hx C.hb dX2_notGreaterThan_26 hl (k := 0) rfl (nI_1 _) (by decide) rfl (fun ls hl => ?_)
        refine lv_goto (tgt := 2) C.hx C.hb dX2_notGreaterThan_29 (by decide) ?_
        exact ih (j + 1) (by omega) (by omega) (by rw [ht, hd, if_pos c22]; omega) ls (lv_sub hl [0, 1, 2] rfl)
set_option maxHeartbeats 4000000 in
set_option maxRecDepth 100000 in
/-- how many keys are not greater -/
theorem c2_notGreaterThan {l : Launch} {E : Gq} {z : Nat → Nat} {v : Nat → Int32} {kd : Nat} {K : List Int64} {L N S P : List Nat} {key : Int64} : M2r l E yX2_notGreaterThan cX2_notGreaterThan 4 (some .int) 1 [.ref (z 0), .long (key)] z v kd K L N S P (fun r => r = some (.int (nI (ngt K key)))) := by
  intro f hf
  obtain ⟨b1, b2, b3, b4, b5⟩ := hf.lens
  refine mk_r (by decide) (Nat.le_of_ble_eq_true rfl) ?_
  intro p e s m below meth c ls C Wd hl
  have X : X2w E _ z v kd K L N S P s s.heap [] := ⟨f, Wd, hf⟩
  have hl : lv_has ls 4 [(0, .ref (z 0)), (1, .long (key))] := hl
  refine lv_iconst (v := nI (0)) C.hx C.hb dX2_notGreaterThan_0 (by decide) ?_
  refine lv_istore_n (lv' := [(3, .int (nI (0))), (0, .ref (z 0)), (1, .long (key))]) C.hx C.hb dX2_notGreaterThan_1 rfl hl (by decide) rfl (fun ls hl => ?_)
  exact l2_ngt C X b1 _ 0 rfl (Nat.zero_le _) (by rw [List.drop_zero, Nat.zero_add]) ls (lv_sub hl [0, 1, 2] rfl)
noncomputable def pof (K : List Int64) (key : Int64) : Int32 := @ite _ (hask K key) (Classical.propDecidable _) (nI (ngt K key - 1)) (-1)
theorem pof_y {K : List Int64} {key : Int64} (h : hask K key) : pof K key = nI (ngt K key - 1) := by unfold pof; rw [if_pos h]
theorem pof_n {K : List Int64} {key : Int64} (h : ¬ hask K key) : pof K key = -1 := by unfold pof; rw [if_neg h]
set_option maxHeartbeats 4000000 in
set_option maxRecDepth 100000 in
/-- where a key is -/
theorem c2_positionOf {l : Launch} {E : Gq} {z : Nat → Nat} {v : Nat → Int32} {kd : Nat} {K : List Int64} {L N S P : List Nat} {key : Int64} : M2r l E yX2_positionOf cX2_positionOf 4 (some .int) 2 [.ref (z 0), .long (key)] z v kd K L N S P (fun r => r = some (.int (pof K key))) := by
  intro f hf
  obtain ⟨b1, b2, b3, b4, b5⟩ := hf.lens
  refine mk_r (by decide) (Nat.le_of_ble_eq_true rfl) ?_
  intro p e s m below meth c ls C Wd hl
  have X : X2w E _ z v kd K L N S P s s.heap [] := ⟨f, Wd, hf⟩
  have hl : lv_has ls 4 [(0, .ref (z 0)), (1, .long (key))] := hl
  have hng := ngt_le K key
  rcases Nat.eq_zero_or_pos (ngt K key) with h0 | h0
  · refine lv_aload_n C.hx C.hb dX2_positionOf_0 rfl (lv_at hl 0 rfl) ?_
    refine lv_lload_n C.hx C.hb dX2_positionOf_1 rfl (lv_at hl 1 rfl) ?_
    refine x2_cr (As := [.long (key)]) (rest := []) C X (c2_notGreaterThan (key := key)) wy_X2_notGreaterThan ts_7 tw_141 rfl ⟨by decide, by decide⟩ rfl hl.1 rfl (Nat.le_of_ble_eq_true rfl) ⟨Nat.le_refl _, Nat.le_refl _⟩ dX2_positionOf_2 (fun r hp => ?_)
    subst hp
    refine W.eq (g2 := F0 m 5 ls [.int (nI (ngt K key))]) rfl ?_
    refine lv_iconst (v := nI (1)) C.hx C.hb dX2_positionOf_5 (by decide) ?_
    refine lv_isub C.hx C.hb dX2_positionOf_6 ?_
    refine lv_istore_n (lv' := [(3, .int ((nI (ngt K key)) - (nI (1)))), (0, .ref (z 0)), (1, .long (key))]) C.hx C.hb dX2_positionOf_7 rfl hl (by decide) rfl (fun ls hl => ?_)
    refine lv_iload_n C.hx C.hb dX2_positionOf_8 rfl (lv_at hl 0 rfl) ?_
    refine lv_if_lt (tgt := 29) C.hx C.hb dX2_positionOf_9 (by decide) (fun c9 => ?_) (fun c9 => ?_)
    · refine lv_iconst (v := (-1)) C.hx C.hb dX2_positionOf_29 (by decide) ?_
      exact ret_ir C (by rw [pof_n (fun h => absurd h.1 (by omega))]) dX2_positionOf_30
    · exact absurd (by rw [h0]; decide) c9
  · refine lv_aload_n C.hx C.hb dX2_positionOf_0 rfl (lv_at hl 0 rfl) ?_
    refine lv_lload_n C.hx C.hb dX2_positionOf_1 rfl (lv_at hl 1 rfl) ?_
    refine x2_cr (As := [.long (key)]) (rest := []) C X (c2_notGreaterThan (key := key)) wy_X2_notGreaterThan ts_7 tw_141 rfl ⟨by decide, by decide⟩ rfl hl.1 rfl (Nat.le_of_ble_eq_true rfl) ⟨Nat.le_refl _, Nat.le_refl _⟩ dX2_positionOf_2 (fun r hp => ?_)
    subst hp
    refine W.eq (g2 := F0 m 5 ls [.int (nI (ngt K key))]) rfl ?_
    refine lv_iconst (v := nI (1)) C.hx C.hb dX2_positionOf_5 (by decide) ?_
    refine n_sub C dX2_positionOf_6 (by omega) ?_
    refine lv_istore_n (lv' := [(3, .int (nI ((ngt K key) - 1))), (0, .ref (z 0)), (1, .long (key))]) C.hx C.hb dX2_positionOf_7 rfl hl (by decide) rfl (fun ls hl => ?_)
    refine lv_iload_n C.hx C.hb dX2_positionOf_8 rfl (lv_at hl 0 rfl) ?_
    refine n_if_lt (tgt := 29) C dX2_positionOf_9 (by decide) (by omega) ?_
    refine lv_aload_n C.hx C.hb dX2_positionOf_12 rfl (lv_at hl 1 rfl) ?_
    refine x2g_4 C X dX2_positionOf_13 ?_
    refine lv_iload_n C.hx C.hb dX2_positionOf_16 rfl (lv_at hl 0 rfl) ?_
    refine x2_at C X ⟨by decide, by decide⟩ hl.1 (Nat.le_of_ble_eq_true rfl) ⟨Nat.le_refl _, Nat.le_refl _⟩ dX2_positionOf_17 ?_
    refine n_rel (lAt_n (by omega)) ?_
    refine lv_lload_n C.hx C.hb dX2_positionOf_20 rfl (lv_at hl 2 rfl) ?_
    refine n_lcmp_ne (tgt := 29) C dX2_positionOf_21 dX2_positionOf_22 (by decide) (fun c21 => ?_) (fun c21 => ?_)
    · refine lv_iconst (v := (-1)) C.hx C.hb dX2_positionOf_29 (by decide) ?_
      exact ret_ir C (by rw [pof_n (fun h => c21 h.2)]) dX2_positionOf_30
    · refine lv_iload_n C.hx C.hb dX2_positionOf_25 rfl (lv_at hl 0 rfl) ?_
      refine lv_goto (tgt := 30) C.hx C.hb dX2_positionOf_26 (by decide) ?_
      exact ret_ir C (by rw [pof_y ⟨h0, c21⟩]) dX2_positionOf_30
set_option maxHeartbeats 4000000 in
set_option maxRecDepth 100000 in
/-- the lengths in an interval -/
theorem c2_lengthsIn {l : Launch} {E : Gq} {z : Nat → Nat} {v : Nat → Int32} {kd : Nat} {K : List Int64} {L N S P : List Nat} {i : Nat} (hi : i ≤ 2 ^ 20) (hS : S.sum ≤ 2 ^ 20) : M2r l E yX2_lengthsIn cX2_lengthsIn 3 (some .int) 2 [.ref (z 0), .int (nI (i))] z v kd K L N S P (fun r => r = some (.int (nI (lin L S i)))) := by
  intro f hf
  obtain ⟨b1, b2, b3, b4, b5⟩ := hf.lens
  refine mk_r (by decide) (Nat.le_of_ble_eq_true rfl) ?_
  intro p e s m below meth c ls C Wd hl
  have X : X2w E _ z v kd K L N S P s s.heap [] := ⟨f, Wd, hf⟩
  have hl : lv_has ls 3 [(0, .ref (z 0)), (1, .int (nI (i)))] := hl
  have q1 := sm0_get S i
  refine lv_aload_n C.hx C.hb dX2_lengthsIn_0 rfl (lv_at hl 0 rfl) ?_
  refine x2g_7 C X dX2_lengthsIn_1 ?_
  refine lv_iconst (v := nI (0)) C.hx C.hb dX2_lengthsIn_4 (by decide) ?_
  refine lv_iload_n C.hx C.hb dX2_lengthsIn_5 rfl (lv_at hl 1 rfl) ?_
  refine x2_sum_4 C X (by omega) (by omega) ⟨by decide, by decide⟩ hl.1 (Nat.le_of_ble_eq_true rfl) ⟨Nat.le_refl _, Nat.le_refl _⟩ dX2_lengthsIn_6 ?_
  refine lv_istore_n (lv' := [(2, .int (nI (sm S 0 i))), (0, .ref (z 0)), (1, .int (nI (i)))]) C.hx C.hb dX2_lengthsIn_9 rfl hl (by decide) rfl (fun ls hl => ?_)
  refine lv_aload_n C.hx C.hb dX2_lengthsIn_10 rfl (lv_at hl 1 rfl) ?_
  refine x2g_5 C X dX2_lengthsIn_11 ?_
  refine lv_iload_n C.hx C.hb dX2_lengthsIn_14 rfl (lv_at hl 0 rfl) ?_
  refine lv_iload_n C.hx C.hb dX2_lengthsIn_15 rfl (lv_at hl 0 rfl) ?_
  refine lv_aload_n C.hx C.hb dX2_lengthsIn_16 rfl (lv_at hl 1 rfl) ?_
  refine x2g_7 C X dX2_lengthsIn_17 ?_
  refine lv_iload_n C.hx C.hb dX2_lengthsIn_20 rfl (lv_at hl 2 rfl) ?_
  refine x2_intAt_4 C X (by omega) ⟨by decide, by decide⟩ hl.1 (Nat.le_of_ble_eq_true rfl) ⟨Nat.le_refl _, Nat.le_refl _⟩ dX2_lengthsIn_21 ?_
  refine n_add C dX2_lengthsIn_24 ?_
  refine x2_sum_2 C X (by omega) (by omega) ⟨by decide, by decide⟩ hl.1 (Nat.le_of_ble_eq_true rfl) ⟨Nat.le_refl _, Nat.le_refl _⟩ dX2_lengthsIn_25 ?_
  exact ret_ir C (rfl) dX2_lengthsIn_28
set_option maxHeartbeats 4000000 in
set_option maxRecDepth 100000 in
/-- the low bits of the first key of an interval -/
theorem c2_lowBitsOfFirstKey {l : Launch} {E : Gq} {z : Nat → Nat} {v : Nat → Int32} {kd : Nat} {K : List Int64} {L N S P : List Nat} {i : Nat} (hi : i ≤ 2 ^ 20) (hS : S.sum ≤ 2 ^ 20) : M2r l E yX2_lowBitsOfFirstKey cX2_lowBitsOfFirstKey 2 (some .int) 2 [.ref (z 0), .int (nI (i))] z v kd K L N S P (fun r => r = some (.int (K.getD (sm S 0 i) 0).toInt32)) := by
  intro f hf
  obtain ⟨b1, b2, b3, b4, b5⟩ := hf.lens
  refine mk_r (by decide) (Nat.le_of_ble_eq_true rfl) ?_
  intro p e s m below meth c ls C Wd hl
  have X : X2w E _ z v kd K L N S P s s.heap [] := ⟨f, Wd, hf⟩
  have hl : lv_has ls 2 [(0, .ref (z 0)), (1, .int (nI (i)))] := hl
  have q1 := sm0_get S i
  refine lv_aload_n C.hx C.hb dX2_lowBitsOfFirstKey_0 rfl (lv_at hl 0 rfl) ?_
  refine x2g_4 C X dX2_lowBitsOfFirstKey_1 ?_
  refine lv_aload_n C.hx C.hb dX2_lowBitsOfFirstKey_4 rfl (lv_at hl 0 rfl) ?_
  refine x2g_7 C X dX2_lowBitsOfFirstKey_5 ?_
  refine lv_iconst (v := nI (0)) C.hx C.hb dX2_lowBitsOfFirstKey_8 (by decide) ?_
  refine lv_iload_n C.hx C.hb dX2_lowBitsOfFirstKey_9 rfl (lv_at hl 1 rfl) ?_
  refine x2_sum_4 C X (by omega) (by omega) ⟨by decide, by decide⟩ hl.1 (Nat.le_of_ble_eq_true rfl) ⟨Nat.le_refl _, Nat.le_refl _⟩ dX2_lowBitsOfFirstKey_10 ?_
  refine x2_at C X ⟨by decide, by decide⟩ hl.1 (Nat.le_of_ble_eq_true rfl) ⟨Nat.le_refl _, Nat.le_refl _⟩ dX2_lowBitsOfFirstKey_13 ?_
  refine n_rel (lAt_n (by omega)) ?_
  refine lv_l2i C.hx C.hb dX2_lowBitsOfFirstKey_16 rfl ?_
  exact ret_ir C (rfl) dX2_lowBitsOfFirstKey_17
set_option maxHeartbeats 4000000 in
set_option maxRecDepth 100000 in
/-- which split -/
theorem c2_kindOfSplit {l : Launch} {E : Gq} {z : Nat → Nat} {v : Nat → Int32} {kd : Nat} {K : List Int64} {L N S P : List Nat} {i wd : Nat} (hi : i ≤ 2 ^ 20) (hP : P.sum ≤ 2 ^ 20) (hS : S.sum ≤ 2 ^ 20) (hw : v 1 = nI wd) (hwd : wd ≤ 20) : M2r l E yX2_kindOfSplit cX2_kindOfSplit 2 (some (.object "IntervalSplits$Kind")) 2 [.ref (z 0), .int (nI (i))] z v kd K L N S P (fun r => r = some (.ref (E.2.2.2 (kos P S wd i)))) := by
  intro f hf
  obtain ⟨b1, b2, b3, b4, b5⟩ := hf.lens
  refine mk_r (by decide) (Nat.le_of_ble_eq_true rfl) ?_
  intro p e s m below meth c ls C Wd hl
  have X : X2w E _ z v kd K L N S P s s.heap [] := ⟨f, Wd, hf⟩
  have hl : lv_has ls 2 [(0, .ref (z 0)), (1, .int (nI (i)))] := hl
  have q1 := getD_le P (gOf P i)
  have q2 := getD_le S i
  have hb : 0 < P.length ∨ P.length = 0 := by omega
  have q3 : gOf P i < 2 ^ 20 := by
    rcases hb with h | h
    · have := gOf_lt (L := P) (m := i) h; omega
    · have : P = [] := List.length_eq_zero_iff.mp h
      subst this; simp [gOf]
  refine lv_aload_n C.hx C.hb dX2_kindOfSplit_0 rfl (lv_at hl 0 rfl) ?_
  refine x2g_8 C X dX2_kindOfSplit_1 ?_
  refine lv_aload_n C.hx C.hb dX2_kindOfSplit_4 rfl (lv_at hl 0 rfl) ?_
  refine x2g_8 C X dX2_kindOfSplit_5 ?_
  refine lv_iload_n C.hx C.hb dX2_kindOfSplit_8 rfl (lv_at hl 1 rfl) ?_
  refine x2_groupOf_5 C X (by omega) (by omega) ⟨by decide, by decide⟩ hl.1 (Nat.le_of_ble_eq_true rfl) ⟨Nat.le_refl _, Nat.le_refl _⟩ dX2_kindOfSplit_9 ?_
  refine x2_intAt_5 C X (by omega) ⟨by decide, by decide⟩ hl.1 (Nat.le_of_ble_eq_true rfl) ⟨Nat.le_refl _, Nat.le_refl _⟩ dX2_kindOfSplit_12 ?_
  refine lv_aload_n C.hx C.hb dX2_kindOfSplit_15 rfl (lv_at hl 0 rfl) ?_
  refine x2g_1 C X (x := nI (wd)) hw dX2_kindOfSplit_16 ?_
  refine n_icmp_lt (tgt := 26) C dX2_kindOfSplit_19 (by decide) (by omega) (by omega) (fun c19 => ?_) (fun c19 => ?_)
  · refine lv_aload_n C.hx C.hb dX2_kindOfSplit_26 rfl (lv_at hl 0 rfl) ?_
    refine x2g_7 C X dX2_kindOfSplit_27 ?_
    refine lv_iload_n C.hx C.hb dX2_kindOfSplit_30 rfl (lv_at hl 1 rfl) ?_
    refine x2_intAt_4 C X (by omega) ⟨by decide, by decide⟩ hl.1 (Nat.le_of_ble_eq_true rfl) ⟨Nat.le_refl _, Nat.le_refl _⟩ dX2_kindOfSplit_31 ?_
    refine lv_iconst (v := nI (1)) C.hx C.hb dX2_kindOfSplit_34 (by decide) ?_
    refine n_icmp_gt (tgt := 44) C dX2_kindOfSplit_35 (by decide) (by omega) (by omega) (fun c35 => ?_) (fun c35 => ?_)
    · refine x2_kind_0 C X dX2_kindOfSplit_44 ?_
      exact ret_ar C (by unfold kos; rw [if_neg (by omega), if_neg (by omega)]) dX2_kindOfSplit_47
    · refine x2_kind_1 C X dX2_kindOfSplit_38 ?_
      refine lv_goto (tgt := 47) C.hx C.hb dX2_kindOfSplit_41 (by decide) ?_
      exact ret_ar C (by unfold kos; rw [if_neg (by omega), if_pos (by omega)]) dX2_kindOfSplit_47
  · refine x2_kind_2 C X dX2_kindOfSplit_22 ?_
    exact ret_ar C (by unfold kos; rw [if_pos (by omega)]) dX2_kindOfSplit_25
set_option maxHeartbeats 4000000 in
set_option maxRecDepth 100000 in
/-- the next number -/
theorem c2_takeNumber {l : Launch} {E : Gq} {z : Nat → Nat} {v : Nat → Int32} {kd : Nat} {K : List Int64} {L N S P : List Nat} {nx : Nat} (hv9 : v 9 = nI nx) : M2w l E yX2_takeNumber cX2_takeNumber 2 (some .int) 0 [.ref (z 0)] z v kd K L N S P (fun r v' kd' K' L' N' S' P' => some (.int (nI nx)) = r ∧ upd v 9 (nI (nx + 1)) = v' ∧ kd = kd' ∧ K = K' ∧ L = L' ∧ N = N' ∧ S = S' ∧ P = P') := by
  intro f hf
  obtain ⟨b1, b2, b3, b4, b5⟩ := hf.lens
  refine mk_w (by decide) (Nat.le_of_ble_eq_true rfl) ?_
  intro p e s m below meth c ls C Wd hl
  have X : X2w E _ z v kd K L N S P s s.heap [] := ⟨f, Wd, hf⟩
  have hl : lv_has ls 2 [(0, .ref (z 0))] := hl
  refine lv_aload_n C.hx C.hb dX2_takeNumber_0 rfl (lv_at hl 0 rfl) ?_
  refine x2g_9 C X (x := nI (nx)) hv9 dX2_takeNumber_1 ?_
  refine lv_istore_n (lv' := [(1, .int (nI (nx))), (0, .ref (z 0))]) C.hx C.hb dX2_takeNumber_4 rfl hl (by decide) rfl (fun ls hl => ?_)
  refine lv_aload_n C.hx C.hb dX2_takeNumber_5 rfl (lv_at hl 1 rfl) ?_
  refine lv_dup C.hx C.hb dX2_takeNumber_6 rfl ?_
  refine x2g_9 C X (x := nI (nx)) hv9 dX2_takeNumber_7 ?_
  refine lv_iconst (v := nI (1)) C.hx C.hb dX2_takeNumber_10 (by decide) ?_
  refine n_add C dX2_takeNumber_11 ?_
  refine x2p_9 C X dX2_takeNumber_12 (fun H locs X => ?_)
  refine lv_iload_n C.hx C.hb dX2_takeNumber_15 rfl (lv_at hl 0 rfl) ?_
  exact ret2_i C X (⟨rfl, rfl, rfl, rfl, rfl, rfl, rfl, rfl⟩) dX2_takeNumber_16
set_option maxHeartbeats 4000000 in
set_option maxRecDepth 100000 in
/-- a record comes -/
theorem c2_insertRecord {l : Launch} {E : Gq} {z : Nat → Nat} {v : Nat → Int32} {kd : Nat} {K : List Int64} {L N S P : List Nat} {i : Nat} {key : Int64} {len : Nat} (hi : i < S.length) (hk : K.length < 600) (hL : L.length = K.length) (hlen : len < 2 ^ 31) : M2w l E yX2_insertRecord cX2_insertRecord 6 none 2 [.ref (z 0), .int (nI (i)), .long (key), .int (nI (len))] z v kd K L N S P (fun r v' kd' K' L' N' S' P' => none = r ∧ v = v' ∧ kd = kd' ∧ ins K (ngt K key) key = K' ∧ ins L (ngt K key) len = L' ∧ N = N' ∧ S.set i (S.getD i 0 + 1) = S' ∧ P = P') := by
  intro f hf
  obtain ⟨b1, b2, b3, b4, b5⟩ := hf.lens
  refine mk_w (by decide) (Nat.le_of_ble_eq_true rfl) ?_
  intro p e s m below meth c ls C Wd hl
  have X : X2w E _ z v kd K L N S P s s.heap [] := ⟨f, Wd, hf⟩
  have hl : lv_has ls 6 [(0, .ref (z 0)), (1, .int (nI (i))), (2, .long (key)), (4, .int (nI (len)))] := hl
  have hng := ngt_le K key
  refine lv_aload_n C.hx C.hb dX2_insertRecord_0 rfl (lv_at hl 0 rfl) ?_
  refine lv_lload_n C.hx C.hb dX2_insertRecord_1 rfl (lv_at hl 2 rfl) ?_
  refine x2_cr (As := [.long (key)]) (rest := []) C X (c2_notGreaterThan (key := key)) wy_X2_notGreaterThan ts_7 tw_141 rfl ⟨by decide, by decide⟩ rfl hl.1 rfl (Nat.le_of_ble_eq_true rfl) ⟨Nat.le_refl _, Nat.le_refl _⟩ dX2_insertRecord_2 (fun r hp => ?_)
  subst hp
  refine W.eq (g2 := F0 m 5 ls [.int (nI (ngt K key))]) rfl ?_
  refine lv_istore (lv' := [(5, .int (nI (ngt K key))), (0, .ref (z 0)), (1, .int (nI (i))), (2, .long (key)), (4, .int (nI (len)))]) C.hx C.hb dX2_insertRecord_5 hl (by decide) rfl (fun ls hl => ?_)
  refine lv_aload_n C.hx C.hb dX2_insertRecord_7 rfl (lv_at hl 1 rfl) ?_
  refine x2g_4 C X dX2_insertRecord_8 ?_
  refine lv_iload C.hx C.hb dX2_insertRecord_11 (lv_at hl 0 rfl) ?_
  refine lv_lload_n C.hx C.hb dX2_insertRecord_13 rfl (lv_at hl 3 rfl) ?_
  refine x2_insertAt_1 C X (by omega) (by omega) ⟨by decide, by decide⟩ hl.1 (Nat.le_of_ble_eq_true rfl) ⟨Nat.le_refl _, Nat.le_refl _⟩ dX2_insertRecord_14 (fun H locs X => ?_)
  refine lv_aload_n C.hx C.hb dX2_insertRecord_17 rfl (lv_at hl 1 rfl) ?_
  refine x2g_5 C X dX2_insertRecord_18 ?_
  refine lv_iload C.hx C.hb dX2_insertRecord_21 (lv_at hl 0 rfl) ?_
  refine lv_iload C.hx C.hb dX2_insertRecord_23 (lv_at hl 4 rfl) ?_
  refine lv_i2l (v := lN (len)) C.hx C.hb dX2_insertRecord_25 (nI_l (by omega)) ?_
  refine x2_insertAt_2 C X (by omega) (by omega) ⟨by decide, by decide⟩ hl.1 (Nat.le_of_ble_eq_true rfl) ⟨Nat.le_refl _, Nat.le_refl _⟩ dX2_insertRecord_26 (fun H locs X => ?_)
  refine lv_aload_n C.hx C.hb dX2_insertRecord_29 rfl (lv_at hl 1 rfl) ?_
  refine x2g_7 C X dX2_insertRecord_30 ?_
  refine lv_iload_n C.hx C.hb dX2_insertRecord_33 rfl (lv_at hl 2 rfl) ?_
  refine lv_iconst (v := nI (1)) C.hx C.hb dX2_insertRecord_34 (by decide) ?_
  refine x2_raiseUp_4 C X (by omega) (by omega) ⟨by decide, by decide⟩ hl.1 (Nat.le_of_ble_eq_true rfl) ⟨Nat.le_refl _, Nat.le_refl _⟩ dX2_insertRecord_35 (fun H locs X => ?_)
  exact ret2_v C X (⟨rfl, rfl, rfl, rfl, rfl, rfl, rfl, rfl⟩) dX2_insertRecord_38
set_option maxHeartbeats 4000000 in
set_option maxRecDepth 100000 in
/-- an area splits -/
theorem c2_splitArea {l : Launch} {E : Gq} {z : Nat → Nat} {v : Nat → Int32} {kd : Nat} {K : List Int64} {L N S P : List Nat} {a wd : Nat} (hw : v 1 = nI wd) (hwd : wd ≤ 20) (ha : a < P.length) (hp : wd / 2 ≤ P.getD a 0) (hc : P.length < 601) : M2w l E yX2_splitArea cX2_splitArea 3 none 2 [.ref (z 0), .int (nI (a))] z v kd K L N S P (fun r v' kd' K' L' N' S' P' => none = r ∧ upd v 16 (v 16 + nI 1) = v' ∧ kd = kd' ∧ K = K' ∧ L = L' ∧ N = N' ∧ S = S' ∧ ins (P.set a (P.getD a 0 - wd / 2)) (a + 1) (wd / 2) = P') := by
  intro f hf
  obtain ⟨b1, b2, b3, b4, b5⟩ := hf.lens
  refine mk_w (by decide) (Nat.le_of_ble_eq_true rfl) ?_
  intro p e s m below meth c ls C Wd hl
  have X : X2w E _ z v kd K L N S P s s.heap [] := ⟨f, Wd, hf⟩
  have hl : lv_has ls 3 [(0, .ref (z 0)), (1, .int (nI (a)))] := hl
  have hsl : (P.set a (P.getD a 0 - wd / 2)).length = P.length := List.length_set ..
  refine lv_aload_n C.hx C.hb dX2_splitArea_0 rfl (lv_at hl 0 rfl) ?_
  refine x2g_1 C X (x := nI (wd)) hw dX2_splitArea_1 ?_
  refine lv_iconst (v := nI (2)) C.hx C.hb dX2_splitArea_4 (by decide) ?_
  refine n_div C dX2_splitArea_5 (by omega) (by omega) (by omega) ?_
  refine lv_istore_n (lv' := [(2, .int (nI (wd / 2))), (0, .ref (z 0)), (1, .int (nI (a)))]) C.hx C.hb dX2_splitArea_6 rfl hl (by decide) rfl (fun ls hl => ?_)
  refine lv_aload_n C.hx C.hb dX2_splitArea_7 rfl (lv_at hl 1 rfl) ?_
  refine x2g_8 C X dX2_splitArea_8 ?_
  refine lv_iload_n C.hx C.hb dX2_splitArea_11 rfl (lv_at hl 2 rfl) ?_
  refine lv_iload_n C.hx C.hb dX2_splitArea_12 rfl (lv_at hl 0 rfl) ?_
  refine lv_ineg C.hx C.hb dX2_splitArea_13 ?_
  refine x2_raiseDn_5 C X (q := wd / 2) rfl (by omega) (by omega) (by omega) ⟨by decide, by decide⟩ hl.1 (Nat.le_of_ble_eq_true rfl) ⟨Nat.le_refl _, Nat.le_refl _⟩ dX2_splitArea_14 (fun H locs X => ?_)
  refine lv_aload_n C.hx C.hb dX2_splitArea_17 rfl (lv_at hl 1 rfl) ?_
  refine x2g_8 C X dX2_splitArea_18 ?_
  refine lv_iload_n C.hx C.hb dX2_splitArea_21 rfl (lv_at hl 2 rfl) ?_
  refine lv_iconst (v := nI (1)) C.hx C.hb dX2_splitArea_22 (by decide) ?_
  refine n_add C dX2_splitArea_23 ?_
  refine lv_iload_n C.hx C.hb dX2_splitArea_24 rfl (lv_at hl 0 rfl) ?_
  refine lv_i2l (v := lN (wd / 2)) C.hx C.hb dX2_splitArea_25 (nI_l (by omega)) ?_
  refine x2_insertAt_5 C X (by omega) (by omega) ⟨by decide, by decide⟩ hl.1 (Nat.le_of_ble_eq_true rfl) ⟨Nat.le_refl _, Nat.le_refl _⟩ dX2_splitArea_26 (fun H locs X => ?_)
  refine lv_aload_n C.hx C.hb dX2_splitArea_29 rfl (lv_at hl 1 rfl) ?_
  refine lv_dup C.hx C.hb dX2_splitArea_30 rfl ?_
  refine x2g_16 C X (x := v 16) rfl dX2_splitArea_31 ?_
  refine lv_iconst (v := nI (1)) C.hx C.hb dX2_splitArea_34 (by decide) ?_
  refine lv_iadd C.hx C.hb dX2_splitArea_35 ?_
  refine x2p_16 C X dX2_splitArea_36 (fun H locs X => ?_)
  exact ret2_v C X (⟨rfl, rfl, rfl, rfl, rfl, rfl, rfl, rfl⟩) dX2_splitArea_39
set_option maxHeartbeats 4000000 in
set_option maxRecDepth 100000 in
/-- an interval comes -/
theorem c2_insertInterval {l : Launch} {E : Gq} {z : Nat → Nat} {v : Nat → Int32} {kd : Nat} {K : List Int64} {L N S P : List Nat} {at_ ar num sz : Nat} (h1 : at_ ≤ N.length) (h2 : at_ ≤ S.length) (hc1 : N.length < 601) (hc2 : S.length < 601) (ha : ar < P.length) (hn : num < 2 ^ 31) (hs : sz < 2 ^ 31) : M2w l E yX2_insertInterval cX2_insertInterval 5 none 2 [.ref (z 0), .int (nI (at_)), .int (nI (ar)), .int (nI (num)), .int (nI (sz))] z v kd K L N S P (fun r v' kd' K' L' N' S' P' => none = r ∧ v = v' ∧ kd = kd' ∧ K = K' ∧ L = L' ∧ ins N at_ num = N' ∧ ins S at_ sz = S' ∧ P.set ar (P.getD ar 0 + 1) = P') := by
  intro f hf
  obtain ⟨b1, b2, b3, b4, b5⟩ := hf.lens
  refine mk_w (by decide) (Nat.le_of_ble_eq_true rfl) ?_
  intro p e s m below meth c ls C Wd hl
  have X : X2w E _ z v kd K L N S P s s.heap [] := ⟨f, Wd, hf⟩
  have hl : lv_has ls 5 [(0, .ref (z 0)), (1, .int (nI (at_))), (2, .int (nI (ar))), (3, .int (nI (num))), (4, .int (nI (sz)))] := hl
  refine lv_aload_n C.hx C.hb dX2_insertInterval_0 rfl (lv_at hl 0 rfl) ?_
  refine x2g_6 C X dX2_insertInterval_1 ?_
  refine lv_iload_n C.hx C.hb dX2_insertInterval_4 rfl (lv_at hl 1 rfl) ?_
  refine lv_iload_n C.hx C.hb dX2_insertInterval_5 rfl (lv_at hl 3 rfl) ?_
  refine lv_i2l (v := lN (num)) C.hx C.hb dX2_insertInterval_6 (nI_l (by omega)) ?_
  refine x2_insertAt_3 C X (by omega) (by omega) ⟨by decide, by decide⟩ hl.1 (Nat.le_of_ble_eq_true rfl) ⟨Nat.le_refl _, Nat.le_refl _⟩ dX2_insertInterval_7 (fun H locs X => ?_)
  refine lv_aload_n C.hx C.hb dX2_insertInterval_10 rfl (lv_at hl 0 rfl) ?_
  refine x2g_7 C X dX2_insertInterval_11 ?_
  refine lv_iload_n C.hx C.hb dX2_insertInterval_14 rfl (lv_at hl 1 rfl) ?_
  refine lv_iload C.hx C.hb dX2_insertInterval_15 (lv_at hl 4 rfl) ?_
  refine lv_i2l (v := lN (sz)) C.hx C.hb dX2_insertInterval_17 (nI_l (by omega)) ?_
  refine x2_insertAt_4 C X (by omega) (by omega) ⟨by decide, by decide⟩ hl.1 (Nat.le_of_ble_eq_true rfl) ⟨Nat.le_refl _, Nat.le_refl _⟩ dX2_insertInterval_18 (fun H locs X => ?_)
  refine lv_aload_n C.hx C.hb dX2_insertInterval_21 rfl (lv_at hl 0 rfl) ?_
  refine x2g_8 C X dX2_insertInterval_22 ?_
  refine lv_iload_n C.hx C.hb dX2_insertInterval_25 rfl (lv_at hl 2 rfl) ?_
  refine lv_iconst (v := nI (1)) C.hx C.hb dX2_insertInterval_26 (by decide) ?_
  refine x2_raiseUp_5 C X (by omega) (by omega) ⟨by decide, by decide⟩ hl.1 (Nat.le_of_ble_eq_true rfl) ⟨Nat.le_refl _, Nat.le_refl _⟩ dX2_insertInterval_27 (fun H locs X => ?_)
  exact ret2_v C X (⟨rfl, rfl, rfl, rfl, rfl, rfl, rfl, rfl⟩) dX2_insertInterval_30
