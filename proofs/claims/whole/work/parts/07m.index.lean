theorem gIx_last {P : List Nat} (h : ∀ x ∈ P, 1 ≤ x) (h0 : 0 < P.length) : gIx P (P.sum - 1) = P.length - 1 := by
  have hl := sm0_s (S := P) (j := P.length - 1) (by omega)
  have hf : sm P 0 (P.length - 1 + 1) = P.sum := by rw [sm0, List.take_of_length_le (by omega)]
  have h1 := h _ (getD_mem (show P.length - 1 < P.length by omega))
  exact gIx_eq (by omega) (by omega) (by omega)
theorem sm0_lt {P : List Nat} (h : ∀ x ∈ P, 1 ≤ x) {j : Nat} (hj : j < P.length) : sm P 0 j < P.sum := by
  have h1 := h _ (getD_mem hj)
  have h2 := sm0_get P j
  omega
set_option maxHeartbeats 4000000 in
set_option maxRecDepth 100000 in
/-- index, level 0 -/
theorem c2_index_0 {l : Launch} {E : Gq} {z : Nat → Nat} {v : Nat → Int32} {kd : Nat} {K : List Int64} {L N S P : List Nat} {j : Nat} (hJ : J2 K L N S P) (hj : j < S.length) : M2r l E yX2_index cX2_index 3 (some .int) 3 [.ref (z 0), .int (nI (0)), .int (nI (j))] z v kd K L N S P (fun r => r = some (.int (K.getD (sm S 0 j) 0).toInt32)) := by
  intro f hf
  obtain ⟨b1, b2, b3, b4, b5⟩ := hf.lens
  refine mk_r (by decide) (Nat.le_of_ble_eq_true rfl) ?_
  intro p e s m below meth c ls C Wd hl
  have X : X2w E _ z v kd K L N S P s s.heap [] := ⟨f, Wd, hf⟩
  have hl : lv_has ls 3 [(0, .ref (z 0)), (1, .int (nI (0))), (2, .int (nI (j)))] := hl
  obtain ⟨j1, j2, j3, j4, j5, j6, j7, j8⟩ := id hJ
  obtain ⟨k1, k2, k3, k4⟩ := hJ.b
  refine lv_iload_n C.hx C.hb dX2_index_0 rfl (lv_at hl 1 rfl) ?_
  refine n_if_ne (tgt := 21) C dX2_index_1 (by decide) (by decide) (fun h => absurd h (by decide)) (fun _ => ?_)
  refine lv_aload_n C.hx C.hb dX2_index_4 rfl (lv_at hl 0 rfl) ?_
  refine x2g_7 C X dX2_index_5 ?_
  refine lv_iload_n C.hx C.hb dX2_index_8 rfl (lv_at hl 2 rfl) ?_
  refine x2_holds_4 C X ⟨by decide, by decide⟩ hl.1 (Nat.le_of_ble_eq_true rfl) ⟨Nat.le_refl _, Nat.le_refl _⟩ dX2_index_9 ?_
  refine n_re (j := nI 1) (hld_y hj (by omega)) ?_
  refine n_if_eq (tgt := 21) C dX2_index_12 (by decide) (by decide) (fun h => absurd h (by decide)) (fun _ => ?_)
  refine lv_aload_n C.hx C.hb dX2_index_15 rfl (lv_at hl 0 rfl) ?_
  refine lv_iload_n C.hx C.hb dX2_index_16 rfl (lv_at hl 2 rfl) ?_
  refine x2_cr (As := [.int (nI (j))]) (rest := []) C X (c2_lowBitsOfFirstKey (i := j) (by omega) (by omega)) wy_X2_lowBitsOfFirstKey ts_27 tw_281 rfl ⟨by decide, by decide⟩ rfl hl.1 rfl (Nat.le_of_ble_eq_true rfl) ⟨Nat.le_refl _, Nat.le_refl _⟩ dX2_index_17 (fun r hp => ?_)
  subst hp
  refine W.eq (g2 := F0 m 20 ls [.int ((K.getD (sm S 0 j) 0).toInt32)]) rfl ?_
  exact ret_ir C (rfl) dX2_index_20
set_option maxHeartbeats 4000000 in
set_option maxRecDepth 100000 in
/-- index, level 1 -/
theorem c2_index_1 {l : Launch} {E : Gq} {z : Nat → Nat} {v : Nat → Int32} {kd : Nat} {K : List Int64} {L N S P : List Nat} {j : Nat} (hJ : J2 K L N S P) (hj : j < P.length) : M2r l E yX2_index cX2_index 3 (some .int) 3 [.ref (z 0), .int (nI (1)), .int (nI (j))] z v kd K L N S P (fun r => r = some (.int (K.getD (sm S 0 (sm P 0 j)) 0).toInt32)) := by
  intro f hf
  obtain ⟨b1, b2, b3, b4, b5⟩ := hf.lens
  refine mk_r (by decide) (Nat.le_of_ble_eq_true rfl) ?_
  intro p e s m below meth c ls C Wd hl
  have X : X2w E _ z v kd K L N S P s s.heap [] := ⟨f, Wd, hf⟩
  have hl : lv_has ls 3 [(0, .ref (z 0)), (1, .int (nI (1))), (2, .int (nI (j)))] := hl
  obtain ⟨j1, j2, j3, j4, j5, j6, j7, j8⟩ := id hJ
  obtain ⟨k1, k2, k3, k4⟩ := hJ.b
  have hpj := sm0_lt j6 hj
  refine lv_iload_n C.hx C.hb dX2_index_0 rfl (lv_at hl 1 rfl) ?_
  refine n_if_ne (tgt := 21) C dX2_index_1 (by decide) (by decide) (fun _ => ?_) (fun h => absurd h (by decide))
  refine lv_iload_n C.hx C.hb dX2_index_21 rfl (lv_at hl 1 rfl) ?_
  refine lv_iconst (v := nI (1)) C.hx C.hb dX2_index_22 (by decide) ?_
  refine n_icmp_ne (tgt := 51) C dX2_index_23 (by decide) (by decide) (by decide) (fun h => absurd h (by decide)) (fun _ => ?_)
  refine lv_aload_n C.hx C.hb dX2_index_26 rfl (lv_at hl 0 rfl) ?_
  refine x2g_8 C X dX2_index_27 ?_
  refine lv_iload_n C.hx C.hb dX2_index_30 rfl (lv_at hl 2 rfl) ?_
  refine x2_holds_5 C X ⟨by decide, by decide⟩ hl.1 (Nat.le_of_ble_eq_true rfl) ⟨Nat.le_refl _, Nat.le_refl _⟩ dX2_index_31 ?_
  refine n_re (j := nI 1) (hld_y hj (by omega)) ?_
  refine n_if_eq (tgt := 51) C dX2_index_34 (by decide) (by decide) (fun h => absurd h (by decide)) (fun _ => ?_)
  refine lv_aload_n C.hx C.hb dX2_index_37 rfl (lv_at hl 0 rfl) ?_
  refine lv_aload_n C.hx C.hb dX2_index_38 rfl (lv_at hl 0 rfl) ?_
  refine x2g_8 C X dX2_index_39 ?_
  refine lv_iconst (v := nI (0)) C.hx C.hb dX2_index_42 (by decide) ?_
  refine lv_iload_n C.hx C.hb dX2_index_43 rfl (lv_at hl 2 rfl) ?_
  refine x2_sum_5 C X (by omega) (by omega) ⟨by decide, by decide⟩ hl.1 (Nat.le_of_ble_eq_true rfl) ⟨Nat.le_refl _, Nat.le_refl _⟩ dX2_index_44 ?_
  refine x2_cr (As := [.int (nI (sm P 0 j))]) (rest := []) C X (c2_lowBitsOfFirstKey (i := sm P 0 j) (by omega) (by omega)) wy_X2_lowBitsOfFirstKey ts_27 tw_281 rfl ⟨by decide, by decide⟩ rfl hl.1 rfl (Nat.le_of_ble_eq_true rfl) ⟨Nat.le_refl _, Nat.le_refl _⟩ dX2_index_47 (fun r hp => ?_)
  subst hp
  refine W.eq (g2 := F0 m 50 ls [.int ((K.getD (sm S 0 (sm P 0 j)) 0).toInt32)]) rfl ?_
  exact ret_ir C (rfl) dX2_index_50
theorem hld_le {n : Nat} {i : Int32} (h1 : ¬ i < 0) (h2 : ¬ nI (n - 1) < i) (h0 : 0 < n) (hn : n < 2 ^ 31) : hld n i = 1 := by
  obtain ⟨j, hj, rfl⟩ := nI_of h1
  refine hld_y ?_ hn
  rcases Nat.lt_or_ge j n with q | q
  · exact q
  · exact absurd ((nI_ltI (by omega) hj).mpr (by omega)) h2
set_option maxHeartbeats 4000000 in
set_option maxRecDepth 100000 in
/-- the reference: index -/
theorem c3_index_b {l : Launch} {E : Gq} {z : Nat → Nat} {v : Nat → Int32} {fk : Nat → Int64} {gl go gi ga : Nat → Nat} {gs : Nat → Int32} {K : List Int64} {L N S P A : List Nat} (h3 : Ctx3 v fk gl go gi ga K L N S P A) {lev i : Int32} (hb0 : ¬ (lev = 0 ∧ hld S.length i ≠ 0)) (hb1 : ¬ (lev = 1 ∧ hld P.length i ≠ 0)) : M3w l E yX3_index cX3_index 6 (some .int) 1 [.ref (z 0), .int (lev), .int (i)] z v fk gl go gi ga gs (fun r v' fk' gl' go' gi' ga' gs' => some (.int (nI 0)) = r ∧ upd v 0 (nI 1) = v' ∧ fk = fk' ∧ gl = gl' ∧ go = go' ∧ gi = gi' ∧ ga = ga' ∧ gs = gs') := by
  refine mk_w (by decide) (Nat.le_of_ble_eq_true rfl) ?_
  intro p e s m below meth c ls C Wd hl
  have X : X3w E _ z v fk gl go gi ga gs s s.heap [] := Wd
  have hl : lv_has ls 6 [(0, .ref (z 0)), (1, .int (lev)), (2, .int (i))] := hl
  obtain ⟨hR, hJ, hk, hs8, hm, hbl, hbo, hbi, hba, hso⟩ := id h3
  obtain ⟨r1, r2, r3, r4, r5, r6, r7, r8⟩ := id hR
  obtain ⟨j1, j2, j3, j4, j5, j6, j7, j8⟩ := id hJ
  obtain ⟨k1, k2, k3, k4⟩ := hJ.b
  have hla : gIx P (S.length - 1) = P.length - 1 := by rw [← j4]; exact gIx_last j6 k2
  refine lv_iload_n C.hx C.hb dX3_index_0 rfl (lv_at hl 2 rfl) ?_
  refine lv_if_lt (tgt := 39) C.hx C.hb dX3_index_1 (by decide) (fun c1 => ?_) (fun c1 => ?_)
  · refine lv_iconst (v := nI (0)) C.hx C.hb dX3_index_39 (by decide) ?_
    refine lv_istore_n (lv' := [(3, .int (nI (0))), (0, .ref (z 0)), (1, .int (lev)), (2, .int (i))]) C.hx C.hb dX3_index_40 rfl hl (by decide) rfl (fun ls hl => ?_)
    refine lv_aload_n C.hx C.hb dX3_index_41 rfl (lv_at hl 1 rfl) ?_
    refine lv_iload_n C.hx C.hb dX3_index_42 rfl (lv_at hl 0 rfl) ?_
    refine n_if_eq (tgt := 50) C dX3_index_43 (by decide) (by decide) (fun _ => ?_) (fun h => absurd h (by decide))
    refine lv_iconst (v := nI (1)) C.hx C.hb dX3_index_50 (by decide) ?_
    refine x3p_0 C X dX3_index_51 (fun H locs X => ?_)
    refine lv_iload_n C.hx C.hb dX3_index_54 rfl (lv_at hl 0 rfl) ?_
    refine n_if_ne (tgt := 60) C dX3_index_55 (by decide) (by decide) (fun h => absurd h (by decide)) (fun _ => ?_)
    refine lv_iconst (v := nI (0)) C.hx C.hb dX3_index_58 (by decide) ?_
    exact ret3_i C X (⟨rfl, rfl, rfl, rfl, rfl, rfl, rfl, rfl⟩) dX3_index_59
  · refine lv_iload_n C.hx C.hb dX3_index_4 rfl (lv_at hl 1 rfl) ?_
    refine lv_if_ne (tgt := 16) C.hx C.hb dX3_index_5 (by decide) (fun c5 => ?_) (fun c5 => ?_)
    · refine lv_iload_n C.hx C.hb dX3_index_16 rfl (lv_at hl 1 rfl) ?_
      refine lv_iconst (v := nI (1)) C.hx C.hb dX3_index_17 (by decide) ?_
      refine lv_icmp_ne (tgt := 39) C.hx C.hb dX3_index_18 (by decide) (fun c18 => ?_) (fun c18 => ?_)
      · refine lv_iconst (v := nI (0)) C.hx C.hb dX3_index_39 (by decide) ?_
        refine lv_istore_n (lv' := [(3, .int (nI (0))), (0, .ref (z 0)), (1, .int (lev)), (2, .int (i))]) C.hx C.hb dX3_index_40 rfl hl (by decide) rfl (fun ls hl => ?_)
        refine lv_aload_n C.hx C.hb dX3_index_41 rfl (lv_at hl 1 rfl) ?_
        refine lv_iload_n C.hx C.hb dX3_index_42 rfl (lv_at hl 0 rfl) ?_
        refine n_if_eq (tgt := 50) C dX3_index_43 (by decide) (by decide) (fun _ => ?_) (fun h => absurd h (by decide))
        refine lv_iconst (v := nI (1)) C.hx C.hb dX3_index_50 (by decide) ?_
        refine x3p_0 C X dX3_index_51 (fun H locs X => ?_)
        refine lv_iload_n C.hx C.hb dX3_index_54 rfl (lv_at hl 0 rfl) ?_
        refine n_if_ne (tgt := 60) C dX3_index_55 (by decide) (by decide) (fun h => absurd h (by decide)) (fun _ => ?_)
        refine lv_iconst (v := nI (0)) C.hx C.hb dX3_index_58 (by decide) ?_
        exact ret3_i C X (⟨rfl, rfl, rfl, rfl, rfl, rfl, rfl, rfl⟩) dX3_index_59
      · refine lv_iload_n C.hx C.hb dX3_index_21 rfl (lv_at hl 2 rfl) ?_
        refine lv_aload_n C.hx C.hb dX3_index_22 rfl (lv_at hl 0 rfl) ?_
        refine lv_aload_n C.hx C.hb dX3_index_23 rfl (lv_at hl 0 rfl) ?_
        refine x3g_11 C X (x := nI (S.length)) hm dX3_index_24 ?_
        refine lv_iconst (v := nI (1)) C.hx C.hb dX3_index_27 (by decide) ?_
        refine n_sub C dX3_index_28 (by first | omega | exact hbo _ | exact hbi _ | exact hba _ | exact hbl _) ?_
        refine x3_cr (As := [.int (nI (S.length - 1))]) (rest := [.int (i)]) C X (c3_areaOf (i := S.length - 1) h3 (by omega)) wy_X3_areaOf ts_42 tw_515 rfl ⟨by decide, by decide⟩ rfl hl.1 rfl (Nat.le_of_ble_eq_true rfl) ⟨Nat.le_refl _, Nat.le_refl _⟩ dX3_index_29 (fun r hp => ?_)
        subst hp
        refine W.eq (g2 := F0 m 32 ls [.int (nI (gIx P (S.length - 1))), .int (i)]) rfl ?_
        refine n_re (j := nI (P.length - 1)) (by rw [hla]) ?_
        refine lv_icmp_gt (tgt := 39) C.hx C.hb dX3_index_32 (by decide) (fun c32 => ?_) (fun c32 => ?_)
        · refine lv_iconst (v := nI (0)) C.hx C.hb dX3_index_39 (by decide) ?_
          refine lv_istore_n (lv' := [(3, .int (nI (0))), (0, .ref (z 0)), (1, .int (lev)), (2, .int (i))]) C.hx C.hb dX3_index_40 rfl hl (by decide) rfl (fun ls hl => ?_)
          refine lv_aload_n C.hx C.hb dX3_index_41 rfl (lv_at hl 1 rfl) ?_
          refine lv_iload_n C.hx C.hb dX3_index_42 rfl (lv_at hl 0 rfl) ?_
          refine n_if_eq (tgt := 50) C dX3_index_43 (by decide) (by decide) (fun _ => ?_) (fun h => absurd h (by decide))
          refine lv_iconst (v := nI (1)) C.hx C.hb dX3_index_50 (by decide) ?_
          refine x3p_0 C X dX3_index_51 (fun H locs X => ?_)
          refine lv_iload_n C.hx C.hb dX3_index_54 rfl (lv_at hl 0 rfl) ?_
          refine n_if_ne (tgt := 60) C dX3_index_55 (by decide) (by decide) (fun h => absurd h (by decide)) (fun _ => ?_)
          refine lv_iconst (v := nI (0)) C.hx C.hb dX3_index_58 (by decide) ?_
          exact ret3_i C X (⟨rfl, rfl, rfl, rfl, rfl, rfl, rfl, rfl⟩) dX3_index_59
        · exact absurd ⟨c18, by rw [hld_le c1 c32 k2 (by omega)]; decide⟩ hb1
    · refine lv_iload_n C.hx C.hb dX3_index_8 rfl (lv_at hl 2 rfl) ?_
      refine lv_aload_n C.hx C.hb dX3_index_9 rfl (lv_at hl 0 rfl) ?_
      refine x3g_11 C X (x := nI (S.length)) hm dX3_index_10 ?_
      refine lv_icmp_lt (tgt := 35) C.hx C.hb dX3_index_13 (by decide) (fun c13 => ?_) (fun c13 => ?_)
      · exact absurd ⟨c5, by rw [hld_lt c1 c13 (by omega)]; decide⟩ hb0
      · refine lv_iload_n C.hx C.hb dX3_index_16 rfl (lv_at hl 1 rfl) ?_
        refine lv_iconst (v := nI (1)) C.hx C.hb dX3_index_17 (by decide) ?_
        refine lv_icmp_ne (tgt := 39) C.hx C.hb dX3_index_18 (by decide) (fun c18 => ?_) (fun c18 => ?_)
        · refine lv_iconst (v := nI (0)) C.hx C.hb dX3_index_39 (by decide) ?_
          refine lv_istore_n (lv' := [(3, .int (nI (0))), (0, .ref (z 0)), (1, .int (lev)), (2, .int (i))]) C.hx C.hb dX3_index_40 rfl hl (by decide) rfl (fun ls hl => ?_)
          refine lv_aload_n C.hx C.hb dX3_index_41 rfl (lv_at hl 1 rfl) ?_
          refine lv_iload_n C.hx C.hb dX3_index_42 rfl (lv_at hl 0 rfl) ?_
          refine n_if_eq (tgt := 50) C dX3_index_43 (by decide) (by decide) (fun _ => ?_) (fun h => absurd h (by decide))
          refine lv_iconst (v := nI (1)) C.hx C.hb dX3_index_50 (by decide) ?_
          refine x3p_0 C X dX3_index_51 (fun H locs X => ?_)
          refine lv_iload_n C.hx C.hb dX3_index_54 rfl (lv_at hl 0 rfl) ?_
          refine n_if_ne (tgt := 60) C dX3_index_55 (by decide) (by decide) (fun h => absurd h (by decide)) (fun _ => ?_)
          refine lv_iconst (v := nI (0)) C.hx C.hb dX3_index_58 (by decide) ?_
          exact ret3_i C X (⟨rfl, rfl, rfl, rfl, rfl, rfl, rfl, rfl⟩) dX3_index_59
        · refine lv_iload_n C.hx C.hb dX3_index_21 rfl (lv_at hl 2 rfl) ?_
          refine lv_aload_n C.hx C.hb dX3_index_22 rfl (lv_at hl 0 rfl) ?_
          refine lv_aload_n C.hx C.hb dX3_index_23 rfl (lv_at hl 0 rfl) ?_
          refine x3g_11 C X (x := nI (S.length)) hm dX3_index_24 ?_
          refine lv_iconst (v := nI (1)) C.hx C.hb dX3_index_27 (by decide) ?_
          refine n_sub C dX3_index_28 (by first | omega | exact hbo _ | exact hbi _ | exact hba _ | exact hbl _) ?_
          refine x3_cr (As := [.int (nI (S.length - 1))]) (rest := [.int (i)]) C X (c3_areaOf (i := S.length - 1) h3 (by omega)) wy_X3_areaOf ts_42 tw_515 rfl ⟨by decide, by decide⟩ rfl hl.1 rfl (Nat.le_of_ble_eq_true rfl) ⟨Nat.le_refl _, Nat.le_refl _⟩ dX3_index_29 (fun r hp => ?_)
          subst hp
          refine W.eq (g2 := F0 m 32 ls [.int (nI (gIx P (S.length - 1))), .int (i)]) rfl ?_
          refine n_re (j := nI (P.length - 1)) (by rw [hla]) ?_
          refine lv_icmp_gt (tgt := 39) C.hx C.hb dX3_index_32 (by decide) (fun c32 => ?_) (fun c32 => ?_)
          · refine lv_iconst (v := nI (0)) C.hx C.hb dX3_index_39 (by decide) ?_
            refine lv_istore_n (lv' := [(3, .int (nI (0))), (0, .ref (z 0)), (1, .int (lev)), (2, .int (i))]) C.hx C.hb dX3_index_40 rfl hl (by decide) rfl (fun ls hl => ?_)
            refine lv_aload_n C.hx C.hb dX3_index_41 rfl (lv_at hl 1 rfl) ?_
            refine lv_iload_n C.hx C.hb dX3_index_42 rfl (lv_at hl 0 rfl) ?_
            refine n_if_eq (tgt := 50) C dX3_index_43 (by decide) (by decide) (fun _ => ?_) (fun h => absurd h (by decide))
            refine lv_iconst (v := nI (1)) C.hx C.hb dX3_index_50 (by decide) ?_
            refine x3p_0 C X dX3_index_51 (fun H locs X => ?_)
            refine lv_iload_n C.hx C.hb dX3_index_54 rfl (lv_at hl 0 rfl) ?_
            refine n_if_ne (tgt := 60) C dX3_index_55 (by decide) (by decide) (fun h => absurd h (by decide)) (fun _ => ?_)
            refine lv_iconst (v := nI (0)) C.hx C.hb dX3_index_58 (by decide) ?_
            exact ret3_i C X (⟨rfl, rfl, rfl, rfl, rfl, rfl, rfl, rfl⟩) dX3_index_59
          · exact absurd ⟨c18, by rw [hld_le c1 c32 k2 (by omega)]; decide⟩ hb1
set_option maxHeartbeats 4000000 in
set_option maxRecDepth 100000 in
/-- the reference: index -/
theorem c3_index_0 {l : Launch} {E : Gq} {z : Nat → Nat} {v : Nat → Int32} {fk : Nat → Int64} {gl go gi ga : Nat → Nat} {gs : Nat → Int32} {K : List Int64} {L N S P A : List Nat} (h3 : Ctx3 v fk gl go gi ga K L N S P A) {j : Nat} (hj : j < S.length) (h1 : 1 ≤ S.getD j 0) : M3w l E yX3_index cX3_index 6 (some .int) 1 [.ref (z 0), .int (nI (0)), .int (nI (j))] z v fk gl go gi ga gs (fun r v' fk' gl' go' gi' ga' gs' => some (.int ((K.getD (sm S 0 j) 0).toInt32)) = r ∧ upd v 0 (nI 0) = v' ∧ fk = fk' ∧ gl = gl' ∧ go = go' ∧ gi = gi' ∧ ga = ga' ∧ gs = gs') := by
  refine mk_w (by decide) (Nat.le_of_ble_eq_true rfl) ?_
  intro p e s m below meth c ls C Wd hl
  have X : X3w E _ z v fk gl go gi ga gs s s.heap [] := Wd
  have hl : lv_has ls 6 [(0, .ref (z 0)), (1, .int (nI (0))), (2, .int (nI (j)))] := hl
  obtain ⟨hR, hJ, hk, hs8, hm, hbl, hbo, hbi, hba, hso⟩ := id h3
  obtain ⟨r1, r2, r3, r4, r5, r6, r7, r8⟩ := id hR
  obtain ⟨j1, j2, j3, j4, j5, j6, j7, j8⟩ := id hJ
  obtain ⟨k1, k2, k3, k4⟩ := hJ.b
  have hla : gIx P (S.length - 1) = P.length - 1 := by rw [← j4]; exact gIx_last j6 k2
  have q1 := sm0_get S j
  refine lv_iload_n C.hx C.hb dX3_index_0 rfl (lv_at hl 2 rfl) ?_
  refine n_if_lt (tgt := 39) C dX3_index_1 (by decide) (by first | omega | exact hbo _ | exact hbi _ | exact hba _ | exact hbl _) ?_
  refine lv_iload_n C.hx C.hb dX3_index_4 rfl (lv_at hl 1 rfl) ?_
  refine n_if_ne (tgt := 16) C dX3_index_5 (by decide) (by decide) (fun h => absurd h (by decide)) (fun _ => ?_)
  refine lv_iload_n C.hx C.hb dX3_index_8 rfl (lv_at hl 2 rfl) ?_
  refine lv_aload_n C.hx C.hb dX3_index_9 rfl (lv_at hl 0 rfl) ?_
  refine x3g_11 C X (x := nI (S.length)) hm dX3_index_10 ?_
  refine n_icmp_lt (tgt := 35) C dX3_index_13 (by decide) (by first | omega | exact hbo _ | exact hbi _ | exact hba _ | exact hbl _) (by first | omega | exact hbo _ | exact hbi _ | exact hba _ | exact hbl _) (fun c13 => ?_) (fun c13 => ?_)
  · refine lv_iconst (v := nI (1)) C.hx C.hb dX3_index_35 (by decide) ?_
    refine lv_goto (tgt := 40) C.hx C.hb dX3_index_36 (by decide) ?_
    refine lv_istore_n (lv' := [(3, .int (nI (1))), (0, .ref (z 0)), (1, .int (nI (0))), (2, .int (nI (j)))]) C.hx C.hb dX3_index_40 rfl hl (by decide) rfl (fun ls hl => ?_)
    refine lv_aload_n C.hx C.hb dX3_index_41 rfl (lv_at hl 1 rfl) ?_
    refine lv_iload_n C.hx C.hb dX3_index_42 rfl (lv_at hl 0 rfl) ?_
    refine n_if_eq (tgt := 50) C dX3_index_43 (by decide) (by decide) (fun h => absurd h (by decide)) (fun _ => ?_)
    refine lv_iconst (v := nI (0)) C.hx C.hb dX3_index_46 (by decide) ?_
    refine lv_goto (tgt := 51) C.hx C.hb dX3_index_47 (by decide) ?_
    refine x3p_0 C X dX3_index_51 (fun H locs X => ?_)
    have h3 : Ctx3 (upd v 0 (nI 0)) fk gl go gi ga K L N S P A := h3
    refine lv_iload_n C.hx C.hb dX3_index_54 rfl (lv_at hl 0 rfl) ?_
    refine n_if_ne (tgt := 60) C dX3_index_55 (by decide) (by decide) (fun _ => ?_) (fun h => absurd h (by decide))
    refine lv_iload_n C.hx C.hb dX3_index_60 rfl (lv_at hl 3 rfl) ?_
    refine lv_istore (lv' := [(4, .int (nI (j))), (3, .int (nI (1))), (0, .ref (z 0)), (1, .int (nI (0))), (2, .int (nI (j)))]) C.hx C.hb dX3_index_61 hl (by decide) rfl (fun ls hl => ?_)
    refine lv_iload_n C.hx C.hb dX3_index_63 rfl (lv_at hl 3 rfl) ?_
    refine lv_iconst (v := nI (1)) C.hx C.hb dX3_index_64 (by decide) ?_
    refine n_icmp_ne (tgt := 87) C dX3_index_65 (by decide) (by decide) (by decide) (fun _ => ?_) (fun h => absurd h (by decide))
    refine lv_aload_n C.hx C.hb dX3_index_87 rfl (lv_at hl 2 rfl) ?_
    refine lv_iload C.hx C.hb dX3_index_88 (lv_at hl 0 rfl) ?_
    refine x3_cr (As := [.int (nI (j))]) (rest := []) C X (c3_first (i := j) h3 (by omega) (by omega)) wy_X3_first ts_32 tw_447 rfl ⟨by decide, by decide⟩ rfl hl.1 rfl (Nat.le_of_ble_eq_true rfl) ⟨Nat.le_refl _, Nat.le_refl _⟩ dX3_index_90 (fun r hp => ?_)
    subst hp
    refine W.eq (g2 := F0 m 93 ls [.int (nI (sm S 0 j))]) rfl ?_
    refine lv_istore (lv' := [(5, .int (nI (sm S 0 j))), (4, .int (nI (j))), (3, .int (nI (1))), (0, .ref (z 0)), (1, .int (nI (0))), (2, .int (nI (j)))]) C.hx C.hb dX3_index_93 hl (by decide) rfl (fun ls hl => ?_)
    refine lv_iload C.hx C.hb dX3_index_95 (lv_at hl 0 rfl) ?_
    refine lv_iconst (v := (-1)) C.hx C.hb dX3_index_97 (by decide) ?_
    refine lv_icmp_ne (tgt := 105) C.hx C.hb dX3_index_98 (by decide) (fun c98 => ?_) (fun c98 => ?_)
    · refine lv_aload_n C.hx C.hb dX3_index_105 rfl (lv_at hl 3 rfl) ?_
      refine x3g_5 C X dX3_index_106 ?_
      refine lv_iload C.hx C.hb dX3_index_109 (lv_at hl 0 rfl) ?_
      refine x3l_1 C X (by first | omega | exact hbo _ | exact hbi _ | exact hba _ | exact hbl _) dX3_index_111 ?_
      refine lv_l2i C.hx C.hb dX3_index_112 rfl ?_
      exact ret3_i C X (⟨by rw [r1 _ (by omega)], rfl, rfl, rfl, rfl, rfl, rfl, rfl⟩) dX3_index_113
    · exact absurd c98 (nI_m1 (by omega))
  · omega
set_option maxHeartbeats 4000000 in
set_option maxRecDepth 100000 in
/-- the reference: index -/
theorem c3_index_0e {l : Launch} {E : Gq} {z : Nat → Nat} {v : Nat → Int32} {fk : Nat → Int64} {gl go gi ga : Nat → Nat} {gs : Nat → Int32} {K : List Int64} {L N S P A : List Nat} (h3 : Ctx3 v fk gl go gi ga K L N S P A) {j : Nat} (hj : j < S.length) (h0 : K.length = 0) : M3w l E yX3_index cX3_index 6 (some .int) 1 [.ref (z 0), .int (nI (0)), .int (nI (j))] z v fk gl go gi ga gs (fun r v' fk' gl' go' gi' ga' gs' => some (.int ((K.getD (sm S 0 j) 0).toInt32)) = r ∧ upd v 0 (nI 0) = v' ∧ fk = fk' ∧ gl = gl' ∧ go = go' ∧ gi = gi' ∧ ga = ga' ∧ gs = gs') := by
  refine mk_w (by decide) (Nat.le_of_ble_eq_true rfl) ?_
  intro p e s m below meth c ls C Wd hl
  have X : X3w E _ z v fk gl go gi ga gs s s.heap [] := Wd
  have hl : lv_has ls 6 [(0, .ref (z 0)), (1, .int (nI (0))), (2, .int (nI (j)))] := hl
  obtain ⟨hR, hJ, hk, hs8, hm, hbl, hbo, hbi, hba, hso⟩ := id h3
  obtain ⟨r1, r2, r3, r4, r5, r6, r7, r8⟩ := id hR
  obtain ⟨j1, j2, j3, j4, j5, j6, j7, j8⟩ := id hJ
  obtain ⟨k1, k2, k3, k4⟩ := hJ.b
  have hla : gIx P (S.length - 1) = P.length - 1 := by rw [← j4]; exact gIx_last j6 k2
  refine lv_iload_n C.hx C.hb dX3_index_0 rfl (lv_at hl 2 rfl) ?_
  refine n_if_lt (tgt := 39) C dX3_index_1 (by decide) (by first | omega | exact hbo _ | exact hbi _ | exact hba _ | exact hbl _) ?_
  refine lv_iload_n C.hx C.hb dX3_index_4 rfl (lv_at hl 1 rfl) ?_
  refine n_if_ne (tgt := 16) C dX3_index_5 (by decide) (by decide) (fun h => absurd h (by decide)) (fun _ => ?_)
  refine lv_iload_n C.hx C.hb dX3_index_8 rfl (lv_at hl 2 rfl) ?_
  refine lv_aload_n C.hx C.hb dX3_index_9 rfl (lv_at hl 0 rfl) ?_
  refine x3g_11 C X (x := nI (S.length)) hm dX3_index_10 ?_
  refine n_icmp_lt (tgt := 35) C dX3_index_13 (by decide) (by first | omega | exact hbo _ | exact hbi _ | exact hba _ | exact hbl _) (by first | omega | exact hbo _ | exact hbi _ | exact hba _ | exact hbl _) (fun c13 => ?_) (fun c13 => ?_)
  · refine lv_iconst (v := nI (1)) C.hx C.hb dX3_index_35 (by decide) ?_
    refine lv_goto (tgt := 40) C.hx C.hb dX3_index_36 (by decide) ?_
    refine lv_istore_n (lv' := [(3, .int (nI (1))), (0, .ref (z 0)), (1, .int (nI (0))), (2, .int (nI (j)))]) C.hx C.hb dX3_index_40 rfl hl (by decide) rfl (fun ls hl => ?_)
    refine lv_aload_n C.hx C.hb dX3_index_41 rfl (lv_at hl 1 rfl) ?_
    refine lv_iload_n C.hx C.hb dX3_index_42 rfl (lv_at hl 0 rfl) ?_
    refine n_if_eq (tgt := 50) C dX3_index_43 (by decide) (by decide) (fun h => absurd h (by decide)) (fun _ => ?_)
    refine lv_iconst (v := nI (0)) C.hx C.hb dX3_index_46 (by decide) ?_
    refine lv_goto (tgt := 51) C.hx C.hb dX3_index_47 (by decide) ?_
    refine x3p_0 C X dX3_index_51 (fun H locs X => ?_)
    have h3 : Ctx3 (upd v 0 (nI 0)) fk gl go gi ga K L N S P A := h3
    refine lv_iload_n C.hx C.hb dX3_index_54 rfl (lv_at hl 0 rfl) ?_
    refine n_if_ne (tgt := 60) C dX3_index_55 (by decide) (by decide) (fun _ => ?_) (fun h => absurd h (by decide))
    refine lv_iload_n C.hx C.hb dX3_index_60 rfl (lv_at hl 3 rfl) ?_
    refine lv_istore (lv' := [(4, .int (nI (j))), (3, .int (nI (1))), (0, .ref (z 0)), (1, .int (nI (0))), (2, .int (nI (j)))]) C.hx C.hb dX3_index_61 hl (by decide) rfl (fun ls hl => ?_)
    refine lv_iload_n C.hx C.hb dX3_index_63 rfl (lv_at hl 3 rfl) ?_
    refine lv_iconst (v := nI (1)) C.hx C.hb dX3_index_64 (by decide) ?_
    refine n_icmp_ne (tgt := 87) C dX3_index_65 (by decide) (by decide) (by decide) (fun _ => ?_) (fun h => absurd h (by decide))
    refine lv_aload_n C.hx C.hb dX3_index_87 rfl (lv_at hl 2 rfl) ?_
    refine lv_iload C.hx C.hb dX3_index_88 (lv_at hl 0 rfl) ?_
    refine x3_cr (As := [.int (nI (j))]) (rest := []) C X (c3_first_n (i := j) h3 (by omega) h0) wy_X3_first ts_32 tw_447 rfl ⟨by decide, by decide⟩ rfl hl.1 rfl (Nat.le_of_ble_eq_true rfl) ⟨Nat.le_refl _, Nat.le_refl _⟩ dX3_index_90 (fun r hp => ?_)
    subst hp
    refine W.eq (g2 := F0 m 93 ls [.int ((-1))]) rfl ?_
    refine lv_istore (lv' := [(5, .int ((-1))), (4, .int (nI (j))), (3, .int (nI (1))), (0, .ref (z 0)), (1, .int (nI (0))), (2, .int (nI (j)))]) C.hx C.hb dX3_index_93 hl (by decide) rfl (fun ls hl => ?_)
    refine lv_iload C.hx C.hb dX3_index_95 (lv_at hl 0 rfl) ?_
    refine lv_iconst (v := (-1)) C.hx C.hb dX3_index_97 (by decide) ?_
    refine lv_icmp_ne (tgt := 105) C.hx C.hb dX3_index_98 (by decide) (fun c98 => ?_) (fun c98 => ?_)
    · exact absurd rfl c98
    · refine lv_iconst (v := nI (0)) C.hx C.hb dX3_index_101 (by decide) ?_
      refine lv_goto (tgt := 113) C.hx C.hb dX3_index_102 (by decide) ?_
      exact ret3_i C X (⟨by rw [show K = [] from List.length_eq_zero_iff.mp h0]; rfl, rfl, rfl, rfl, rfl, rfl, rfl, rfl⟩) dX3_index_113
  · omega
set_option maxHeartbeats 4000000 in
set_option maxRecDepth 100000 in
theorem l3_index {p : Program} {l : Launch} {e : Env} {s : State} {m : MethodId} {args : Array Value} {below : List Frame} {meth : Method} {c : Code} {E : Gq} {A0 : Nat → Prop} {Q : State → Prop} {H : Heap} {locs : List Loc} {z : Nat → Nat} {v : Nat → Int32} {fk : Nat → Int64} {gl go gi ga : Nat → Nat} {gs : Nat → Int32} {K : List Int64} {L N S P A : List Nat} (h3 : Ctx3 v fk gl go gi ga K L N S P A) {j : Nat} (hj : j < P.length) (C : Cx E p s m args meth c cX3_index 6 (some .int) RX3 A0) (X : X3w E A0 z v fk gl go gi ga gs s H locs) (kk : ∀ ls : Array Slot, lv_has ls 6 [(4, .int (nI (sm P 0 j))), (0, .ref (z 0))] → W p l e (Rm 1 0 0) s m args below meth c H locs 0 0 Q (F0 m 87 ls [])) : ∀ (n k : Nat), sm P 0 j - k = n → k ≤ sm P 0 j → ∀ ls : Array Slot, lv_has ls 6 [(4, .int (nI k)), (0, .ref (z 0)), (2, .int (nI j))] → W p l e (Rm 1 0 0) s m args below meth c H locs 0 0 Q (F0 m 71 ls []) := by
  obtain ⟨hR, hJ, hk, hs8, hm, hbl, hbo, hbi, hba, hso⟩ := id h3
  obtain ⟨r1, r2, r3, r4, r5, r6, r7, r8⟩ := id hR
  obtain ⟨j1, j2, j3, j4, j5, j6, j7, j8⟩ := id hJ
  obtain ⟨k1, k2, k3, k4⟩ := hJ.b
  have hpj := sm0_lt j6 hj
  intro n
  induction n with
  | zero =>
    intro k hn hk ls hl
    have e : k = sm P 0 j := by omega
    subst e
    have hc := gI_cmp (S := P) (m := sm P 0 j) (i := j) hpj
    have hg := gIx_lt hpj
    refine lv_aload_n C.hx C.hb dX3_index_71 rfl (lv_at hl 1 rfl) ?_
    refine lv_iload C.hx C.hb dX3_index_72 (lv_at hl 0 rfl) ?_
    refine x3_cr (As := [.int (nI (sm P 0 j))]) (rest := []) C X (c3_areaOf (i := sm P 0 j) h3 (by omega)) wy_X3_areaOf ts_42 tw_515 rfl ⟨by decide, by decide⟩ rfl hl.1 rfl (Nat.le_of_ble_eq_true rfl) ⟨Nat.le_refl _, Nat.le_refl _⟩ dX3_index_74 (fun r hp => ?_)
    subst hp
    refine W.eq (g2 := F0 m 77 ls [.int (nI (gIx P (sm P 0 j)))]) rfl ?_
    refine lv_iload_n C.hx C.hb dX3_index_77 rfl (lv_at hl 2 rfl) ?_
    refine n_icmp_ge (tgt := 87) C dX3_index_78 (by decide) (by first | omega | exact hbo _ | exact hbi _ | exact hba _ | exact hbl _) (by first | omega | exact hbo _ | exact hbi _ | exact hba _ | exact hbl _) (fun c78 => ?_) (fun c78 => ?_)
    · exact kk ls (lv_sub hl [0, 1] rfl)
    · exact absurd (hc.mp c78) (Nat.lt_irrefl _)
  | succ n ih =>
    intro k hn hk ls hl
    have hc := gI_cmp (S := P) (m := k) (i := j) (by omega)
    have hg := gIx_lt (L := P) (m := k) (by omega)
    refine lv_aload_n C.hx C.hb dX3_index_71 rfl (lv_at hl 1 rfl) ?_
    refine lv_iload C.hx C.hb dX3_index_72 (lv_at hl 0 rfl) ?_
    refine x3_cr (As := [.int (nI (k))]) (rest := []) C X (c3_areaOf (i := k) h3 (by omega)) wy_X3_areaOf ts_42 tw_515 rfl ⟨by decide, by decide⟩ rfl hl.1 rfl (Nat.le_of_ble_eq_true rfl) ⟨Nat.le_refl _, Nat.le_refl _⟩ dX3_index_74 (fun r hp => ?_)
    subst hp
    refine W.eq (g2 := F0 m 77 ls [.int (nI (gIx P k))]) rfl ?_
    refine lv_iload_n C.hx C.hb dX3_index_77 rfl (lv_at hl 2 rfl) ?_
    refine n_icmp_ge (tgt := 87) C dX3_index_78 (by decide) (by first | omega | exact hbo _ | exact hbi _ | exact hba _ | exact hbl _) (by first | omega | exact hbo _ | exact hbi _ | exact hba _ | exact hbl _) (fun c78 => ?_) (fun c78 => ?_)
    · exact absurd (hc.mpr (by omega)) (Nat.not_lt.mpr c78)
    · refine lv_iinc (v := nI (k + 1)) (lv' := [(4, .int (nI (k + 1))), (0, .ref (z 0)), (2, .int (nI (j)))]) C.hx C.hb dX3_index_81 hl (k := 0) rfl (nI_1 _) (by decide) rfl (fun ls hl => ?_)
      refine lv_goto (tgt := 71) C.hx C.hb dX3_index_84 (by decide) ?_
      exact ih (k + 1) (by omega) (by omega) ls (lv_sub hl [0, 1, 2] rfl)
set_option maxHeartbeats 4000000 in
set_option maxRecDepth 100000 in
/-- the reference: index -/
theorem c3_index_1 {l : Launch} {E : Gq} {z : Nat → Nat} {v : Nat → Int32} {fk : Nat → Int64} {gl go gi ga : Nat → Nat} {gs : Nat → Int32} {K : List Int64} {L N S P A : List Nat} (h3 : Ctx3 v fk gl go gi ga K L N S P A) {j : Nat} (hj : j < P.length) (h1 : 1 ≤ S.getD (sm P 0 j) 0) : M3w l E yX3_index cX3_index 6 (some .int) 1 [.ref (z 0), .int (nI (1)), .int (nI (j))] z v fk gl go gi ga gs (fun r v' fk' gl' go' gi' ga' gs' => some (.int ((K.getD (sm S 0 (sm P 0 j)) 0).toInt32)) = r ∧ upd v 0 (nI 0) = v' ∧ fk = fk' ∧ gl = gl' ∧ go = go' ∧ gi = gi' ∧ ga = ga' ∧ gs = gs') := by
  refine mk_w (by decide) (Nat.le_of_ble_eq_true rfl) ?_
  intro p e s m below meth c ls C Wd hl
  have X : X3w E _ z v fk gl go gi ga gs s s.heap [] := Wd
  have hl : lv_has ls 6 [(0, .ref (z 0)), (1, .int (nI (1))), (2, .int (nI (j)))] := hl
  obtain ⟨hR, hJ, hk, hs8, hm, hbl, hbo, hbi, hba, hso⟩ := id h3
  obtain ⟨r1, r2, r3, r4, r5, r6, r7, r8⟩ := id hR
  obtain ⟨j1, j2, j3, j4, j5, j6, j7, j8⟩ := id hJ
  obtain ⟨k1, k2, k3, k4⟩ := hJ.b
  have hla : gIx P (S.length - 1) = P.length - 1 := by rw [← j4]; exact gIx_last j6 k2
  have hpj := sm0_lt j6 hj
  have q1 := sm0_get S (sm P 0 j)
  refine lv_iload_n C.hx C.hb dX3_index_0 rfl (lv_at hl 2 rfl) ?_
  refine n_if_lt (tgt := 39) C dX3_index_1 (by decide) (by first | omega | exact hbo _ | exact hbi _ | exact hba _ | exact hbl _) ?_
  refine lv_iload_n C.hx C.hb dX3_index_4 rfl (lv_at hl 1 rfl) ?_
  refine n_if_ne (tgt := 16) C dX3_index_5 (by decide) (by decide) (fun _ => ?_) (fun h => absurd h (by decide))
  refine lv_iload_n C.hx C.hb dX3_index_16 rfl (lv_at hl 1 rfl) ?_
  refine lv_iconst (v := nI (1)) C.hx C.hb dX3_index_17 (by decide) ?_
  refine n_icmp_ne (tgt := 39) C dX3_index_18 (by decide) (by decide) (by decide) (fun h => absurd h (by decide)) (fun _ => ?_)
  refine lv_iload_n C.hx C.hb dX3_index_21 rfl (lv_at hl 2 rfl) ?_
  refine lv_aload_n C.hx C.hb dX3_index_22 rfl (lv_at hl 0 rfl) ?_
  refine lv_aload_n C.hx C.hb dX3_index_23 rfl (lv_at hl 0 rfl) ?_
  refine x3g_11 C X (x := nI (S.length)) hm dX3_index_24 ?_
  refine lv_iconst (v := nI (1)) C.hx C.hb dX3_index_27 (by decide) ?_
  refine n_sub C dX3_index_28 (by first | omega | exact hbo _ | exact hbi _ | exact hba _ | exact hbl _) ?_
  refine x3_cr (As := [.int (nI (S.length - 1))]) (rest := [.int (nI (j))]) C X (c3_areaOf (i := S.length - 1) h3 (by omega)) wy_X3_areaOf ts_42 tw_515 rfl ⟨by decide, by decide⟩ rfl hl.1 rfl (Nat.le_of_ble_eq_true rfl) ⟨Nat.le_refl _, Nat.le_refl _⟩ dX3_index_29 (fun r hp => ?_)
  subst hp
  refine W.eq (g2 := F0 m 32 ls [.int (nI (gIx P (S.length - 1))), .int (nI (j))]) rfl ?_
  refine n_re (j := nI (P.length - 1)) (by rw [hla]) ?_
  refine n_icmp_gt (tgt := 39) C dX3_index_32 (by decide) (by first | omega | exact hbo _ | exact hbi _ | exact hba _ | exact hbl _) (by first | omega | exact hbo _ | exact hbi _ | exact hba _ | exact hbl _) (fun c32 => ?_) (fun c32 => ?_)
  · omega
  · refine lv_iconst (v := nI (1)) C.hx C.hb dX3_index_35 (by decide) ?_
    refine lv_goto (tgt := 40) C.hx C.hb dX3_index_36 (by decide) ?_
    refine lv_istore_n (lv' := [(3, .int (nI (1))), (0, .ref (z 0)), (1, .int (nI (1))), (2, .int (nI (j)))]) C.hx C.hb dX3_index_40 rfl hl (by decide) rfl (fun ls hl => ?_)
    refine lv_aload_n C.hx C.hb dX3_index_41 rfl (lv_at hl 1 rfl) ?_
    refine lv_iload_n C.hx C.hb dX3_index_42 rfl (lv_at hl 0 rfl) ?_
    refine n_if_eq (tgt := 50) C dX3_index_43 (by decide) (by decide) (fun h => absurd h (by decide)) (fun _ => ?_)
    refine lv_iconst (v := nI (0)) C.hx C.hb dX3_index_46 (by decide) ?_
    refine lv_goto (tgt := 51) C.hx C.hb dX3_index_47 (by decide) ?_
    refine x3p_0 C X dX3_index_51 (fun H locs X => ?_)
    have h3 : Ctx3 (upd v 0 (nI 0)) fk gl go gi ga K L N S P A := h3
    refine lv_iload_n C.hx C.hb dX3_index_54 rfl (lv_at hl 0 rfl) ?_
    refine n_if_ne (tgt := 60) C dX3_index_55 (by decide) (by decide) (fun _ => ?_) (fun h => absurd h (by decide))
    refine lv_iload_n C.hx C.hb dX3_index_60 rfl (lv_at hl 3 rfl) ?_
    refine lv_istore (lv' := [(4, .int (nI (j))), (3, .int (nI (1))), (0, .ref (z 0)), (1, .int (nI (1))), (2, .int (nI (j)))]) C.hx C.hb dX3_index_61 hl (by decide) rfl (fun ls hl => ?_)
    refine lv_iload_n C.hx C.hb dX3_index_63 rfl (lv_at hl 3 rfl) ?_
    refine lv_iconst (v := nI (1)) C.hx C.hb dX3_index_64 (by decide) ?_
    refine n_icmp_ne (tgt := 87) C dX3_index_65 (by decide) (by decide) (by decide) (fun h => absurd h (by decide)) (fun _ => ?_)
    refine lv_iconst (v := nI (0)) C.hx C.hb dX3_index_68 (by decide) ?_
    refine lv_istore (lv' := [(4, .int (nI (0))), (3, .int (nI (1))), (0, .ref (z 0)), (1, .int (nI (1))), (2, .int (nI (j)))]) C.hx C.hb dX3_index_69 hl (by decide) rfl (fun ls hl => ?_)
    refine l3_index h3 hj C X (fun ls hl => ?_) _ 0 rfl (Nat.zero_le _) ls (lv_sub hl [0, 2, 4] rfl)
    refine lv_aload_n C.hx C.hb dX3_index_87 rfl (lv_at hl 1 rfl) ?_
    refine lv_iload C.hx C.hb dX3_index_88 (lv_at hl 0 rfl) ?_
    refine x3_cr (As := [.int (nI (sm P 0 j))]) (rest := []) C X (c3_first (i := sm P 0 j) h3 (by omega) (by omega)) wy_X3_first ts_32 tw_447 rfl ⟨by decide, by decide⟩ rfl hl.1 rfl (Nat.le_of_ble_eq_true rfl) ⟨Nat.le_refl _, Nat.le_refl _⟩ dX3_index_90 (fun r hp => ?_)
    subst hp
    refine W.eq (g2 := F0 m 93 ls [.int (nI (sm S 0 (sm P 0 j)))]) rfl ?_
    refine lv_istore (lv' := [(5, .int (nI (sm S 0 (sm P 0 j)))), (4, .int (nI (sm P 0 j))), (0, .ref (z 0))]) C.hx C.hb dX3_index_93 hl (by decide) rfl (fun ls hl => ?_)
    refine lv_iload C.hx C.hb dX3_index_95 (lv_at hl 0 rfl) ?_
    refine lv_iconst (v := (-1)) C.hx C.hb dX3_index_97 (by decide) ?_
    refine lv_icmp_ne (tgt := 105) C.hx C.hb dX3_index_98 (by decide) (fun c98 => ?_) (fun c98 => ?_)
    · refine lv_aload_n C.hx C.hb dX3_index_105 rfl (lv_at hl 2 rfl) ?_
      refine x3g_5 C X dX3_index_106 ?_
      refine lv_iload C.hx C.hb dX3_index_109 (lv_at hl 0 rfl) ?_
      refine x3l_1 C X (by first | omega | exact hbo _ | exact hbi _ | exact hba _ | exact hbl _) dX3_index_111 ?_
      refine lv_l2i C.hx C.hb dX3_index_112 rfl ?_
      exact ret3_i C X (⟨by rw [r1 _ (by omega)], rfl, rfl, rfl, rfl, rfl, rfl, rfl⟩) dX3_index_113
    · exact absurd c98 (nI_m1 (by omega))
set_option maxHeartbeats 4000000 in
set_option maxRecDepth 100000 in
/-- the reference: index -/
theorem c3_index_1e {l : Launch} {E : Gq} {z : Nat → Nat} {v : Nat → Int32} {fk : Nat → Int64} {gl go gi ga : Nat → Nat} {gs : Nat → Int32} {K : List Int64} {L N S P A : List Nat} (h3 : Ctx3 v fk gl go gi ga K L N S P A) {j : Nat} (hj : j < P.length) (h0 : K.length = 0) : M3w l E yX3_index cX3_index 6 (some .int) 1 [.ref (z 0), .int (nI (1)), .int (nI (j))] z v fk gl go gi ga gs (fun r v' fk' gl' go' gi' ga' gs' => some (.int ((K.getD (sm S 0 (sm P 0 j)) 0).toInt32)) = r ∧ upd v 0 (nI 0) = v' ∧ fk = fk' ∧ gl = gl' ∧ go = go' ∧ gi = gi' ∧ ga = ga' ∧ gs = gs') := by
  refine mk_w (by decide) (Nat.le_of_ble_eq_true rfl) ?_
  intro p e s m below meth c ls C Wd hl
  have X : X3w E _ z v fk gl go gi ga gs s s.heap [] := Wd
  have hl : lv_has ls 6 [(0, .ref (z 0)), (1, .int (nI (1))), (2, .int (nI (j)))] := hl
  obtain ⟨hR, hJ, hk, hs8, hm, hbl, hbo, hbi, hba, hso⟩ := id h3
  obtain ⟨r1, r2, r3, r4, r5, r6, r7, r8⟩ := id hR
  obtain ⟨j1, j2, j3, j4, j5, j6, j7, j8⟩ := id hJ
  obtain ⟨k1, k2, k3, k4⟩ := hJ.b
  have hla : gIx P (S.length - 1) = P.length - 1 := by rw [← j4]; exact gIx_last j6 k2
  have hpj := sm0_lt j6 hj
  refine lv_iload_n C.hx C.hb dX3_index_0 rfl (lv_at hl 2 rfl) ?_
  refine n_if_lt (tgt := 39) C dX3_index_1 (by decide) (by first | omega | exact hbo _ | exact hbi _ | exact hba _ | exact hbl _) ?_
  refine lv_iload_n C.hx C.hb dX3_index_4 rfl (lv_at hl 1 rfl) ?_
  refine n_if_ne (tgt := 16) C dX3_index_5 (by decide) (by decide) (fun _ => ?_) (fun h => absurd h (by decide))
  refine lv_iload_n C.hx C.hb dX3_index_16 rfl (lv_at hl 1 rfl) ?_
  refine lv_iconst (v := nI (1)) C.hx C.hb dX3_index_17 (by decide) ?_
  refine n_icmp_ne (tgt := 39) C dX3_index_18 (by decide) (by decide) (by decide) (fun h => absurd h (by decide)) (fun _ => ?_)
  refine lv_iload_n C.hx C.hb dX3_index_21 rfl (lv_at hl 2 rfl) ?_
  refine lv_aload_n C.hx C.hb dX3_index_22 rfl (lv_at hl 0 rfl) ?_
  refine lv_aload_n C.hx C.hb dX3_index_23 rfl (lv_at hl 0 rfl) ?_
  refine x3g_11 C X (x := nI (S.length)) hm dX3_index_24 ?_
  refine lv_iconst (v := nI (1)) C.hx C.hb dX3_index_27 (by decide) ?_
  refine n_sub C dX3_index_28 (by first | omega | exact hbo _ | exact hbi _ | exact hba _ | exact hbl _) ?_
  refine x3_cr (As := [.int (nI (S.length - 1))]) (rest := [.int (nI (j))]) C X (c3_areaOf (i := S.length - 1) h3 (by omega)) wy_X3_areaOf ts_42 tw_515 rfl ⟨by decide, by decide⟩ rfl hl.1 rfl (Nat.le_of_ble_eq_true rfl) ⟨Nat.le_refl _, Nat.le_refl _⟩ dX3_index_29 (fun r hp => ?_)
  subst hp
  refine W.eq (g2 := F0 m 32 ls [.int (nI (gIx P (S.length - 1))), .int (nI (j))]) rfl ?_
  refine n_re (j := nI (P.length - 1)) (by rw [hla]) ?_
  refine n_icmp_gt (tgt := 39) C dX3_index_32 (by decide) (by first | omega | exact hbo _ | exact hbi _ | exact hba _ | exact hbl _) (by first | omega | exact hbo _ | exact hbi _ | exact hba _ | exact hbl _) (fun c32 => ?_) (fun c32 => ?_)
  · omega
  · refine lv_iconst (v := nI (1)) C.hx C.hb dX3_index_35 (by decide) ?_
    refine lv_goto (tgt := 40) C.hx C.hb dX3_index_36 (by decide) ?_
    refine lv_istore_n (lv' := [(3, .int (nI (1))), (0, .ref (z 0)), (1, .int (nI (1))), (2, .int (nI (j)))]) C.hx C.hb dX3_index_40 rfl hl (by decide) rfl (fun ls hl => ?_)
    refine lv_aload_n C.hx C.hb dX3_index_41 rfl (lv_at hl 1 rfl) ?_
    refine lv_iload_n C.hx C.hb dX3_index_42 rfl (lv_at hl 0 rfl) ?_
    refine n_if_eq (tgt := 50) C dX3_index_43 (by decide) (by decide) (fun h => absurd h (by decide)) (fun _ => ?_)
    refine lv_iconst (v := nI (0)) C.hx C.hb dX3_index_46 (by decide) ?_
    refine lv_goto (tgt := 51) C.hx C.hb dX3_index_47 (by decide) ?_
    refine x3p_0 C X dX3_index_51 (fun H locs X => ?_)
    have h3 : Ctx3 (upd v 0 (nI 0)) fk gl go gi ga K L N S P A := h3
    refine lv_iload_n C.hx C.hb dX3_index_54 rfl (lv_at hl 0 rfl) ?_
    refine n_if_ne (tgt := 60) C dX3_index_55 (by decide) (by decide) (fun _ => ?_) (fun h => absurd h (by decide))
    refine lv_iload_n C.hx C.hb dX3_index_60 rfl (lv_at hl 3 rfl) ?_
    refine lv_istore (lv' := [(4, .int (nI (j))), (3, .int (nI (1))), (0, .ref (z 0)), (1, .int (nI (1))), (2, .int (nI (j)))]) C.hx C.hb dX3_index_61 hl (by decide) rfl (fun ls hl => ?_)
    refine lv_iload_n C.hx C.hb dX3_index_63 rfl (lv_at hl 3 rfl) ?_
    refine lv_iconst (v := nI (1)) C.hx C.hb dX3_index_64 (by decide) ?_
    refine n_icmp_ne (tgt := 87) C dX3_index_65 (by decide) (by decide) (by decide) (fun h => absurd h (by decide)) (fun _ => ?_)
    refine lv_iconst (v := nI (0)) C.hx C.hb dX3_index_68 (by decide) ?_
    refine lv_istore (lv' := [(4, .int (nI (0))), (3, .int (nI (1))), (0, .ref (z 0)), (1, .int (nI (1))), (2, .int (nI (j)))]) C.hx C.hb dX3_index_69 hl (by decide) rfl (fun ls hl => ?_)
    refine l3_index h3 hj C X (fun ls hl => ?_) _ 0 rfl (Nat.zero_le _) ls (lv_sub hl [0, 2, 4] rfl)
    refine lv_aload_n C.hx C.hb dX3_index_87 rfl (lv_at hl 1 rfl) ?_
    refine lv_iload C.hx C.hb dX3_index_88 (lv_at hl 0 rfl) ?_
    refine x3_cr (As := [.int (nI (sm P 0 j))]) (rest := []) C X (c3_first_n (i := sm P 0 j) h3 (by omega) h0) wy_X3_first ts_32 tw_447 rfl ⟨by decide, by decide⟩ rfl hl.1 rfl (Nat.le_of_ble_eq_true rfl) ⟨Nat.le_refl _, Nat.le_refl _⟩ dX3_index_90 (fun r hp => ?_)
    subst hp
    refine W.eq (g2 := F0 m 93 ls [.int ((-1))]) rfl ?_
    refine lv_istore (lv' := [(5, .int ((-1))), (4, .int (nI (sm P 0 j))), (0, .ref (z 0))]) C.hx C.hb dX3_index_93 hl (by decide) rfl (fun ls hl => ?_)
    refine lv_iload C.hx C.hb dX3_index_95 (lv_at hl 0 rfl) ?_
    refine lv_iconst (v := (-1)) C.hx C.hb dX3_index_97 (by decide) ?_
    refine lv_icmp_ne (tgt := 105) C.hx C.hb dX3_index_98 (by decide) (fun c98 => ?_) (fun c98 => ?_)
    · exact absurd rfl c98
    · refine lv_iconst (v := nI (0)) C.hx C.hb dX3_index_101 (by decide) ?_
      refine lv_goto (tgt := 113) C.hx C.hb dX3_index_102 (by decide) ?_
      exact ret3_i C X (⟨by rw [show K = [] from List.length_eq_zero_iff.mp h0]; rfl, rfl, rfl, rfl, rfl, rfl, rfl, rfl⟩) dX3_index_113
