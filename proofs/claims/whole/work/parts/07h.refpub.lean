set_option maxHeartbeats 4000000 in
set_option maxRecDepth 100000 in
/-- the reference: put -/
theorem c3_put_c {l : Launch} {E : Gq} {z : Nat → Nat} {v : Nat → Int32} {fk : Nat → Int64} {gl go gi ga : Nat → Nat} {gs : Nat → Int32} {key : Int64} {ln : Int32} (d17 : v 17 = nI 1) : M3w l E yX3_put cX3_put 8 (some .int) 3 [.ref (z 0), .long (key), .int (ln)] z v fk gl go gi ga gs (fun r v' fk' gl' go' gi' ga' gs' => some (.int (-5)) = r ∧ upd v 0 (nI 0) = v' ∧ fk = fk' ∧ gl = gl' ∧ go = go' ∧ gi = gi' ∧ ga = ga' ∧ gs = gs') := by
  refine mk_w (by decide) (Nat.le_of_ble_eq_true rfl) ?_
  intro p e s m below meth c ls C Wd hl
  have X : X3w E _ z v fk gl go gi ga gs s s.heap [] := Wd
  have hl : lv_has ls 8 [(0, .ref (z 0)), (1, .long (key)), (3, .int (ln))] := hl
  refine lv_aload_n C.hx C.hb dX3_put_0 rfl (lv_at hl 0 rfl) ?_
  refine lv_iconst (v := nI (0)) C.hx C.hb dX3_put_1 (by decide) ?_
  refine x3p_0 C X dX3_put_2 (fun H locs X => ?_)
  refine lv_aload_n C.hx C.hb dX3_put_5 rfl (lv_at hl 0 rfl) ?_
  refine x3g_17 C X (x := nI (1)) d17 dX3_put_6 ?_
  refine n_if_eq (tgt := 15) C dX3_put_9 (by decide) (by decide) (fun h => absurd h (by decide)) (fun _ => ?_)
  refine lv_bipush (v := (-5)) C.hx C.hb dX3_put_12 (by decide) ?_
  exact ret3_i C X (⟨rfl, rfl, rfl, rfl, rfl, rfl, rfl, rfl⟩) dX3_put_14
set_option maxHeartbeats 4000000 in
set_option maxRecDepth 100000 in
/-- the reference: put -/
theorem c3_put_h {l : Launch} {E : Gq} {z : Nat → Nat} {v : Nat → Int32} {fk : Nat → Int64} {gl go gi ga : Nat → Nat} {gs : Nat → Int32} {K : List Int64} {L N S P A : List Nat} (h3 : Ctx3 v fk gl go gi ga K L N S P A) {key : Int64} {ln : Int32} (d17 : v 17 = nI 0) (hh : hask K key) : M3w l E yX3_put cX3_put 8 (some .int) 3 [.ref (z 0), .long (key), .int (ln)] z v fk gl go gi ga gs (fun r v' fk' gl' go' gi' ga' gs' => some (.int (nI 0)) = r ∧ upd v 0 (nI 0) = v' ∧ fk = fk' ∧ gl = gl' ∧ go = go' ∧ gi = gi' ∧ ga = ga' ∧ gs = gs') := by
  refine mk_w (by decide) (Nat.le_of_ble_eq_true rfl) ?_
  intro p e s m below meth c ls C Wd hl
  have X : X3w E _ z v fk gl go gi ga gs s s.heap [] := Wd
  have hl : lv_has ls 8 [(0, .ref (z 0)), (1, .long (key)), (3, .int (ln))] := hl
  obtain ⟨hR, hJ, hk, hs8, hm, hbl, hbo, hbi, hba, hso⟩ := id h3
  obtain ⟨r1, r2, r3, r4, r5, r6, r7, r8⟩ := id hR
  obtain ⟨j1, j2, j3, j4, j5, j6, j7, j8⟩ := id hJ
  obtain ⟨k1, k2, k3, k4⟩ := hJ.b
  refine lv_aload_n C.hx C.hb dX3_put_0 rfl (lv_at hl 0 rfl) ?_
  refine lv_iconst (v := nI (0)) C.hx C.hb dX3_put_1 (by decide) ?_
  refine x3p_0 C X dX3_put_2 (fun H locs X => ?_)
  have h3 : Ctx3 (upd v 0 (nI 0)) fk gl go gi ga K L N S P A := h3
  refine lv_aload_n C.hx C.hb dX3_put_5 rfl (lv_at hl 0 rfl) ?_
  refine x3g_17 C X (x := nI (0)) d17 dX3_put_6 ?_
  refine n_if_eq (tgt := 15) C dX3_put_9 (by decide) (by decide) (fun _ => ?_) (fun h => absurd h (by decide))
  refine lv_aload_n C.hx C.hb dX3_put_15 rfl (lv_at hl 0 rfl) ?_
  refine lv_lload_n C.hx C.hb dX3_put_16 rfl (lv_at hl 1 rfl) ?_
  refine x3_cr (As := [.long (key)]) (rest := []) C X (c3_has_y h3 hh) wy_X3_has ts_29 tw_435 rfl ⟨by decide, by decide⟩ rfl hl.1 rfl (Nat.le_of_ble_eq_true rfl) ⟨Nat.le_refl _, Nat.le_refl _⟩ dX3_put_17 (fun r hp => ?_)
  subst hp
  refine W.eq (g2 := F0 m 20 ls [.int (nI (1))]) rfl ?_
  refine n_if_eq (tgt := 25) C dX3_put_20 (by decide) (by decide) (fun h => absurd h (by decide)) (fun _ => ?_)
  refine lv_iconst (v := nI (0)) C.hx C.hb dX3_put_23 (by decide) ?_
  exact ret3_i C X (⟨rfl, rfl, rfl, rfl, rfl, rfl, rfl, rfl⟩) dX3_put_24
set_option maxHeartbeats 4000000 in
set_option maxRecDepth 100000 in
/-- the reference: put -/
theorem c3_put_b {l : Launch} {E : Gq} {z : Nat → Nat} {v : Nat → Int32} {fk : Nat → Int64} {gl go gi ga : Nat → Nat} {gs : Nat → Int32} {K : List Int64} {L N S P A : List Nat} (h3 : Ctx3 v fk gl go gi ga K L N S P A) {key : Int64} {ln : Int32} {rm : Nat} (d17 : v 17 = nI 0) (d1 : v 1 = nI rm) (hh : ¬ hask K key) (hb : ln < nI 1 ∨ nI rm < ln) : M3w l E yX3_put cX3_put 8 (some .int) 3 [.ref (z 0), .long (key), .int (ln)] z v fk gl go gi ga gs (fun r v' fk' gl' go' gi' ga' gs' => some (.int (-1)) = r ∧ upd v 0 (nI 0) = v' ∧ fk = fk' ∧ gl = gl' ∧ go = go' ∧ gi = gi' ∧ ga = ga' ∧ gs = gs') := by
  refine mk_w (by decide) (Nat.le_of_ble_eq_true rfl) ?_
  intro p e s m below meth c ls C Wd hl
  have X : X3w E _ z v fk gl go gi ga gs s s.heap [] := Wd
  have hl : lv_has ls 8 [(0, .ref (z 0)), (1, .long (key)), (3, .int (ln))] := hl
  obtain ⟨hR, hJ, hk, hs8, hm, hbl, hbo, hbi, hba, hso⟩ := id h3
  obtain ⟨r1, r2, r3, r4, r5, r6, r7, r8⟩ := id hR
  obtain ⟨j1, j2, j3, j4, j5, j6, j7, j8⟩ := id hJ
  obtain ⟨k1, k2, k3, k4⟩ := hJ.b
  refine lv_aload_n C.hx C.hb dX3_put_0 rfl (lv_at hl 0 rfl) ?_
  refine lv_iconst (v := nI (0)) C.hx C.hb dX3_put_1 (by decide) ?_
  refine x3p_0 C X dX3_put_2 (fun H locs X => ?_)
  have h3 : Ctx3 (upd v 0 (nI 0)) fk gl go gi ga K L N S P A := h3
  refine lv_aload_n C.hx C.hb dX3_put_5 rfl (lv_at hl 0 rfl) ?_
  refine x3g_17 C X (x := nI (0)) d17 dX3_put_6 ?_
  refine n_if_eq (tgt := 15) C dX3_put_9 (by decide) (by decide) (fun _ => ?_) (fun h => absurd h (by decide))
  refine lv_aload_n C.hx C.hb dX3_put_15 rfl (lv_at hl 0 rfl) ?_
  refine lv_lload_n C.hx C.hb dX3_put_16 rfl (lv_at hl 1 rfl) ?_
  refine x3_cr (As := [.long (key)]) (rest := []) C X (c3_has_n h3 hh) wy_X3_has ts_29 tw_435 rfl ⟨by decide, by decide⟩ rfl hl.1 rfl (Nat.le_of_ble_eq_true rfl) ⟨Nat.le_refl _, Nat.le_refl _⟩ dX3_put_17 (fun r hp => ?_)
  subst hp
  refine W.eq (g2 := F0 m 20 ls [.int (nI (0))]) rfl ?_
  refine n_if_eq (tgt := 25) C dX3_put_20 (by decide) (by decide) (fun _ => ?_) (fun h => absurd h (by decide))
  refine lv_iload_n C.hx C.hb dX3_put_25 rfl (lv_at hl 2 rfl) ?_
  refine lv_iconst (v := nI (1)) C.hx C.hb dX3_put_26 (by decide) ?_
  refine lv_icmp_lt (tgt := 48) C.hx C.hb dX3_put_27 (by decide) (fun c27 => ?_) (fun c27 => ?_)
  · refine lv_iconst (v := (-1)) C.hx C.hb dX3_put_48 (by decide) ?_
    exact ret3_i C X (⟨rfl, rfl, rfl, rfl, rfl, rfl, rfl, rfl⟩) dX3_put_49
  · refine lv_iload_n C.hx C.hb dX3_put_30 rfl (lv_at hl 2 rfl) ?_
    refine lv_aload_n C.hx C.hb dX3_put_31 rfl (lv_at hl 0 rfl) ?_
    refine x3g_1 C X (x := nI (rm)) d1 dX3_put_32 ?_
    refine lv_icmp_gt (tgt := 48) C.hx C.hb dX3_put_35 (by decide) (fun c35 => ?_) (fun c35 => ?_)
    · refine lv_iconst (v := (-1)) C.hx C.hb dX3_put_48 (by decide) ?_
      exact ret3_i C X (⟨rfl, rfl, rfl, rfl, rfl, rfl, rfl, rfl⟩) dX3_put_49
    · exact hb.elim (fun h => absurd h c27) (fun h => absurd h c35)
set_option maxHeartbeats 4000000 in
set_option maxRecDepth 100000 in
/-- the reference: put -/
theorem c3_put_g {l : Launch} {E : Gq} {z : Nat → Nat} {v : Nat → Int32} {fk : Nat → Int64} {gl go gi ga : Nat → Nat} {gs : Nat → Int32} {rm wd lr lw lq len tc B nx ac kd : Nat} {v2 : Nat → Int32} {key : Int64} {K : List Int64} {L N S P A : List Nat} (hrm : rm ≤ 1000) (hwd : wd ≤ 20) (hw2 : 2 ≤ wd) (hl1 : 1 ≤ len) (hl2 : len ≤ rm) (htc : tc ≤ 4) (hB : B < 2 ^ 30) (hC : Core rm wd nx ac K L N S P A fk gl go gi ga) (hS : Sc rm wd lr lw lq nx ac tc 0 0 0 kd v2 v gs K.length S.length) (hk : K.length < 600) (hh : ¬ hask K key) (hnx : nx + 2400 ≤ B) (hac : ac + 2400 ≤ B) : M3w l E yX3_put cX3_put 8 (some .int) 3 [.ref (z 0), .long (key), .int (nI (len))] z v fk gl go gi ga gs (fun r v' fk' gl' go' gi' ga' gs' => ∃ (q : Nat) (v2' : Nat → Int32) (kd' : Nat) (K' : List Int64) (L' N' S' P' : List Nat), plc rm wd key len tc 2400 nx v2 kd K L N S P = (q, v2', kd', K', L', N', S', P') ∧ some (.int (if q = 0 then -5 else nI 1)) = r ∧ Cpl rm wd lr lw lq B v2' kd' K' L' N' S' P' v' fk' gl' go' gi' ga' gs') := by
  refine mk_w (by decide) (Nat.le_of_ble_eq_true rfl) ?_
  intro p e s m below meth c ls C Wd hl
  have X : X3w E _ z v fk gl go gi ga gs s s.heap [] := Wd
  have hl : lv_has ls 8 [(0, .ref (z 0)), (1, .long (key)), (3, .int (nI (len)))] := hl
  obtain ⟨hR, hJ, hso, -, -, -, -, -, hbl, hbo, hbi, hba⟩ := id hC
  obtain ⟨a0, a1, a2, a3, a9, a10, a11, a15, a16, a17, a18, d1, d2, d3, d4, d8, d11, d12, d13, d14, d17, ec⟩ := id hS
  obtain ⟨j1, j2, j3, j4, j5, j6, j7, j8⟩ := id hJ
  have h3 : Ctx3 v fk gl go gi ga K L N S P A := ⟨hR, hJ, by omega, d8, d11, hbl, hbo, hbi, hba, hso⟩
  refine lv_aload_n C.hx C.hb dX3_put_0 rfl (lv_at hl 0 rfl) ?_
  refine lv_iconst (v := nI (0)) C.hx C.hb dX3_put_1 (by decide) ?_
  refine x3p_0 C X dX3_put_2 (fun H locs X => ?_)
  have h3 : Ctx3 (upd v 0 (nI 0)) fk gl go gi ga K L N S P A := h3
  refine lv_aload_n C.hx C.hb dX3_put_5 rfl (lv_at hl 0 rfl) ?_
  refine x3g_17 C X (x := nI (0)) d17 dX3_put_6 ?_
  refine n_if_eq (tgt := 15) C dX3_put_9 (by decide) (by decide) (fun _ => ?_) (fun h => absurd h (by decide))
  refine lv_aload_n C.hx C.hb dX3_put_15 rfl (lv_at hl 0 rfl) ?_
  refine lv_lload_n C.hx C.hb dX3_put_16 rfl (lv_at hl 1 rfl) ?_
  refine x3_cr (As := [.long (key)]) (rest := []) C X (c3_has_n h3 hh) wy_X3_has ts_29 tw_435 rfl ⟨by decide, by decide⟩ rfl hl.1 rfl (Nat.le_of_ble_eq_true rfl) ⟨Nat.le_refl _, Nat.le_refl _⟩ dX3_put_17 (fun r hp => ?_)
  subst hp
  refine W.eq (g2 := F0 m 20 ls [.int (nI (0))]) rfl ?_
  refine n_if_eq (tgt := 25) C dX3_put_20 (by decide) (by decide) (fun _ => ?_) (fun h => absurd h (by decide))
  refine lv_iload_n C.hx C.hb dX3_put_25 rfl (lv_at hl 2 rfl) ?_
  refine lv_iconst (v := nI (1)) C.hx C.hb dX3_put_26 (by decide) ?_
  refine n_icmp_lt (tgt := 48) C dX3_put_27 (by decide) (by first | omega | exact hbo _ | exact hbi _ | exact hba _ | exact hbl _) (by first | omega | exact hbo _ | exact hbi _ | exact hba _ | exact hbl _) (fun c27 => ?_) (fun c27 => ?_)
  · omega
  · refine lv_iload_n C.hx C.hb dX3_put_30 rfl (lv_at hl 2 rfl) ?_
    refine lv_aload_n C.hx C.hb dX3_put_31 rfl (lv_at hl 0 rfl) ?_
    refine x3g_1 C X (x := nI (rm)) d1 dX3_put_32 ?_
    refine n_icmp_gt (tgt := 48) C dX3_put_35 (by decide) (by first | omega | exact hbo _ | exact hbi _ | exact hba _ | exact hbl _) (by first | omega | exact hbo _ | exact hbi _ | exact hba _ | exact hbl _) (fun c35 => ?_) (fun c35 => ?_)
    · omega
    · refine lv_aload_n C.hx C.hb dX3_put_38 rfl (lv_at hl 0 rfl) ?_
      refine x3g_8 C X (x := nI (K.length)) d8 dX3_put_39 ?_
      refine lv_sipush (v := nI (600)) C.hx C.hb dX3_put_42 (by decide) ?_
      refine n_icmp_ne (tgt := 50) C dX3_put_45 (by decide) (by first | omega | exact hbo _ | exact hbi _ | exact hba _ | exact hbl _) (by first | omega | exact hbo _ | exact hbi _ | exact hba _ | exact hbl _) (fun c45 => ?_) (fun c45 => ?_)
      · have hgs := getD_le S (pIx K S key)
        exact l3_put (z := z) C hrm hwd hw2 hl1 hl2 htc hB 2400 nx ac v2 kd K L N S P A (upd v 0 (nI 0)) fk gl go gi ga gs H locs hC ⟨a0, a1, a2, a3, a9, a10, a11, a15, a16, a17, a18, d1, d2, d3, d4, d8, d11, d12, d13, d14, d17, fun h => absurd h (by decide)⟩ hk hh hnx hac rfl (by split <;> omega) X ls (lv_sub hl [0, 1, 2] rfl)
      · omega
set_option maxHeartbeats 4000000 in
set_option maxRecDepth 100000 in
/-- the reference: open_ -/
theorem c3_open_n {l : Launch} {E : Gq} {z : Nat → Nat} {v : Nat → Int32} {fk : Nat → Int64} {gl go gi ga : Nat → Nat} {gs : Nat → Int32} (d17 : v 17 = nI 0) : M3w l E yX3_open_ cX3_open_ 1 (some .int) 3 [.ref (z 0)] z v fk gl go gi ga gs (fun r v' fk' gl' go' gi' ga' gs' => some (.int (nI 0)) = r ∧ upd v 0 (nI 0) = v' ∧ fk = fk' ∧ gl = gl' ∧ go = go' ∧ gi = gi' ∧ ga = ga' ∧ gs = gs') := by
  refine mk_w (by decide) (Nat.le_of_ble_eq_true rfl) ?_
  intro p e s m below meth c ls C Wd hl
  have X : X3w E _ z v fk gl go gi ga gs s s.heap [] := Wd
  have hl : lv_has ls 1 [(0, .ref (z 0))] := hl
  refine lv_aload_n C.hx C.hb dX3_open__0 rfl (lv_at hl 0 rfl) ?_
  refine lv_iconst (v := nI (0)) C.hx C.hb dX3_open__1 (by decide) ?_
  refine x3p_0 C X dX3_open__2 (fun H locs X => ?_)
  refine lv_aload_n C.hx C.hb dX3_open__5 rfl (lv_at hl 0 rfl) ?_
  refine x3g_17 C X (x := nI (0)) d17 dX3_open__6 ?_
  refine n_if_ne (tgt := 14) C dX3_open__9 (by decide) (by decide) (fun h => absurd h (by decide)) (fun _ => ?_)
  refine lv_iconst (v := nI (0)) C.hx C.hb dX3_open__12 (by decide) ?_
  exact ret3_i C X (⟨rfl, rfl, rfl, rfl, rfl, rfl, rfl, rfl⟩) dX3_open__13
set_option maxHeartbeats 4000000 in
set_option maxRecDepth 100000 in
/-- the reference: open_ -/
theorem c3_open_u {l : Launch} {E : Gq} {z : Nat → Nat} {v : Nat → Int32} {fk : Nat → Int64} {gl go gi ga : Nat → Nat} {gs : Nat → Int32} (d17 : v 17 = nI 1) (d18 : v 18 = nI 0) : M3w l E yX3_open_ cX3_open_ 1 (some .int) 3 [.ref (z 0)] z v fk gl go gi ga gs (fun r v' fk' gl' go' gi' ga' gs' => some (.int (nI 1)) = r ∧ upd (upd v 0 (nI 0)) 17 (nI 0) = v' ∧ fk = fk' ∧ gl = gl' ∧ go = go' ∧ gi = gi' ∧ ga = ga' ∧ upd gs 2 (gs 2 + nI 1) = gs') := by
  refine mk_w (by decide) (Nat.le_of_ble_eq_true rfl) ?_
  intro p e s m below meth c ls C Wd hl
  have X : X3w E _ z v fk gl go gi ga gs s s.heap [] := Wd
  have hl : lv_has ls 1 [(0, .ref (z 0))] := hl
  refine lv_aload_n C.hx C.hb dX3_open__0 rfl (lv_at hl 0 rfl) ?_
  refine lv_iconst (v := nI (0)) C.hx C.hb dX3_open__1 (by decide) ?_
  refine x3p_0 C X dX3_open__2 (fun H locs X => ?_)
  refine lv_aload_n C.hx C.hb dX3_open__5 rfl (lv_at hl 0 rfl) ?_
  refine x3g_17 C X (x := nI (1)) d17 dX3_open__6 ?_
  refine n_if_ne (tgt := 14) C dX3_open__9 (by decide) (by decide) (fun _ => ?_) (fun h => absurd h (by decide))
  refine lv_aload_n C.hx C.hb dX3_open__14 rfl (lv_at hl 0 rfl) ?_
  refine lv_iconst (v := nI (0)) C.hx C.hb dX3_open__15 (by decide) ?_
  refine x3p_17 C X (by decide) (by decide) dX3_open__16 (fun H locs X => ?_)
  refine lv_aload_n C.hx C.hb dX3_open__19 rfl (lv_at hl 0 rfl) ?_
  refine x3g_18 C X (x := nI (0)) d18 dX3_open__20 ?_
  refine n_if_ne (tgt := 38) C dX3_open__23 (by decide) (by decide) (fun h => absurd h (by decide)) (fun _ => ?_)
  refine lv_aload_n C.hx C.hb dX3_open__26 rfl (lv_at hl 0 rfl) ?_
  refine x3g_19 C X dX3_open__27 ?_
  refine lv_iconst (v := nI (2)) C.hx C.hb dX3_open__30 (by decide) ?_
  refine lv_dup2_11 C.hx C.hb dX3_open__31 rfl rfl ?_
  refine x3l_6 C X (by omega) dX3_open__32 ?_
  refine lv_iconst (v := nI (1)) C.hx C.hb dX3_open__33 (by decide) ?_
  refine lv_iadd C.hx C.hb dX3_open__34 ?_
  refine x3t_6 C X (by omega) dX3_open__35 (fun H locs X => ?_)
  refine lv_iconst (v := nI (1)) C.hx C.hb dX3_open__36 (by decide) ?_
  exact ret3_i C X (⟨rfl, rfl, rfl, rfl, rfl, rfl, rfl, rfl⟩) dX3_open__37
set_option maxHeartbeats 4000000 in
set_option maxRecDepth 100000 in
/-- the reference: open_ -/
theorem c3_open_1 {l : Launch} {E : Gq} {z : Nat → Nat} {v : Nat → Int32} {fk : Nat → Int64} {gl go gi ga : Nat → Nat} {gs : Nat → Int32} (d17 : v 17 = nI 1) (d18 : v 18 = nI 1) (d15 : v 15 = nI 2) : M3w l E yX3_open_ cX3_open_ 1 (some .int) 3 [.ref (z 0)] z v fk gl go gi ga gs (fun r v' fk' gl' go' gi' ga' gs' => some (.int (nI 2)) = r ∧ upd (upd v 0 (nI 0)) 17 (nI 0) = v' ∧ fk = fk' ∧ gl = gl' ∧ go = go' ∧ gi = gi' ∧ ga = ga' ∧ upd (upd gs 0 (gs 0 + nI 1)) 3 (gs 3 + nI 1) = gs') := by
  refine mk_w (by decide) (Nat.le_of_ble_eq_true rfl) ?_
  intro p e s m below meth c ls C Wd hl
  have X : X3w E _ z v fk gl go gi ga gs s s.heap [] := Wd
  have hl : lv_has ls 1 [(0, .ref (z 0))] := hl
  refine lv_aload_n C.hx C.hb dX3_open__0 rfl (lv_at hl 0 rfl) ?_
  refine lv_iconst (v := nI (0)) C.hx C.hb dX3_open__1 (by decide) ?_
  refine x3p_0 C X dX3_open__2 (fun H locs X => ?_)
  refine lv_aload_n C.hx C.hb dX3_open__5 rfl (lv_at hl 0 rfl) ?_
  refine x3g_17 C X (x := nI (1)) d17 dX3_open__6 ?_
  refine n_if_ne (tgt := 14) C dX3_open__9 (by decide) (by decide) (fun _ => ?_) (fun h => absurd h (by decide))
  refine lv_aload_n C.hx C.hb dX3_open__14 rfl (lv_at hl 0 rfl) ?_
  refine lv_iconst (v := nI (0)) C.hx C.hb dX3_open__15 (by decide) ?_
  refine x3p_17 C X (by decide) (by decide) dX3_open__16 (fun H locs X => ?_)
  refine lv_aload_n C.hx C.hb dX3_open__19 rfl (lv_at hl 0 rfl) ?_
  refine x3g_18 C X (x := nI (1)) d18 dX3_open__20 ?_
  refine n_if_ne (tgt := 38) C dX3_open__23 (by decide) (by decide) (fun _ => ?_) (fun h => absurd h (by decide))
  refine lv_aload_n C.hx C.hb dX3_open__38 rfl (lv_at hl 0 rfl) ?_
  refine x3g_15 C X (x := nI (2)) d15 dX3_open__39 ?_
  refine lv_iconst (v := nI (1)) C.hx C.hb dX3_open__42 (by decide) ?_
  refine n_icmp_ne (tgt := 63) C dX3_open__43 (by decide) (by decide) (by decide) (fun _ => ?_) (fun h => absurd h (by decide))
  refine lv_aload_n C.hx C.hb dX3_open__63 rfl (lv_at hl 0 rfl) ?_
  refine x3g_15 C X (x := nI (2)) d15 dX3_open__64 ?_
  refine lv_iconst (v := nI (2)) C.hx C.hb dX3_open__67 (by decide) ?_
  refine n_icmp_ne (tgt := 84) C dX3_open__68 (by decide) (by decide) (by decide) (fun h => absurd h (by decide)) (fun _ => ?_)
  refine lv_aload_n C.hx C.hb dX3_open__71 rfl (lv_at hl 0 rfl) ?_
  refine x3g_19 C X dX3_open__72 ?_
  refine lv_iconst (v := nI (0)) C.hx C.hb dX3_open__75 (by decide) ?_
  refine lv_dup2_11 C.hx C.hb dX3_open__76 rfl rfl ?_
  refine x3l_6 C X (by omega) dX3_open__77 ?_
  refine lv_iconst (v := nI (1)) C.hx C.hb dX3_open__78 (by decide) ?_
  refine lv_iadd C.hx C.hb dX3_open__79 ?_
  refine x3t_6 C X (by omega) dX3_open__80 (fun H locs X => ?_)
  refine lv_goto (tgt := 92) C.hx C.hb dX3_open__81 (by decide) ?_
  refine lv_aload_n C.hx C.hb dX3_open__92 rfl (lv_at hl 0 rfl) ?_
  refine x3g_19 C X dX3_open__93 ?_
  refine lv_iconst (v := nI (3)) C.hx C.hb dX3_open__96 (by decide) ?_
  refine lv_dup2_11 C.hx C.hb dX3_open__97 rfl rfl ?_
  refine x3l_6 C X (by omega) dX3_open__98 ?_
  refine lv_iconst (v := nI (1)) C.hx C.hb dX3_open__99 (by decide) ?_
  refine lv_iadd C.hx C.hb dX3_open__100 ?_
  refine x3t_6 C X (by omega) dX3_open__101 (fun H locs X => ?_)
  refine lv_iconst (v := nI (2)) C.hx C.hb dX3_open__102 (by decide) ?_
  exact ret3_i C X (⟨rfl, rfl, rfl, rfl, rfl, rfl, rfl, rfl⟩) dX3_open__103
set_option maxHeartbeats 4000000 in
set_option maxRecDepth 100000 in
/-- the reference: open_ -/
theorem c3_open_2 {l : Launch} {E : Gq} {z : Nat → Nat} {v : Nat → Int32} {fk : Nat → Int64} {gl go gi ga : Nat → Nat} {gs : Nat → Int32} {K : List Int64} {L N S P A : List Nat} (h3 : Ctx3 v fk gl go gi ga K L N S P A) {wd ac cp : Nat} (d17 : v 17 = nI 1) (d18 : v 18 = nI 1) (d15 : v 15 = nI 3) (d16 : v 16 = nI cp) (d2 : v 2 = nI wd) (d13 : v 13 = nI ac) (hwd : wd ≤ 20) (hac : ac + 1 < 2 ^ 31) (hc : cp < S.length) (hpw : wd / 2 ≤ P.getD (gIx P cp) 0) : M3w l E yX3_open_ cX3_open_ 1 (some .int) 3 [.ref (z 0)] z v fk gl go gi ga gs (fun r v' fk' gl' go' gi' ga' gs' => some (.int (nI 2)) = r ∧ upd (upd (upd v 0 (nI 0)) 17 (nI 0)) 13 (nI (ac + 1)) = v' ∧ fk = fk' ∧ gl = gl' ∧ go = go' ∧ gi = gi' ∧ saf ga (sm P 0 (gIx P cp) + (P.getD (gIx P cp) 0 - wd / 2)) (sm P 0 (gIx P cp) + P.getD (gIx P cp) 0) S.length (ac + 1) = ga' ∧ upd (upd gs 1 (gs 1 + nI 1)) 3 (gs 3 + nI 1) = gs') := by
  refine mk_w (by decide) (Nat.le_of_ble_eq_true rfl) ?_
  intro p e s m below meth c ls C Wd hl
  have X : X3w E _ z v fk gl go gi ga gs s s.heap [] := Wd
  have hl : lv_has ls 1 [(0, .ref (z 0))] := hl
  obtain ⟨hR, hJ, hk, hs8, hm, hbl, hbo, hbi, hba, hso⟩ := id h3
  obtain ⟨r1, r2, r3, r4, r5, r6, r7, r8⟩ := id hR
  obtain ⟨j1, j2, j3, j4, j5, j6, j7, j8⟩ := id hJ
  obtain ⟨k1, k2, k3, k4⟩ := hJ.b
  refine lv_aload_n C.hx C.hb dX3_open__0 rfl (lv_at hl 0 rfl) ?_
  refine lv_iconst (v := nI (0)) C.hx C.hb dX3_open__1 (by decide) ?_
  refine x3p_0 C X dX3_open__2 (fun H locs X => ?_)
  have h3 : Ctx3 (upd v 0 (nI 0)) fk gl go gi ga K L N S P A := h3
  refine lv_aload_n C.hx C.hb dX3_open__5 rfl (lv_at hl 0 rfl) ?_
  refine x3g_17 C X (x := nI (1)) d17 dX3_open__6 ?_
  refine n_if_ne (tgt := 14) C dX3_open__9 (by decide) (by decide) (fun _ => ?_) (fun h => absurd h (by decide))
  refine lv_aload_n C.hx C.hb dX3_open__14 rfl (lv_at hl 0 rfl) ?_
  refine lv_iconst (v := nI (0)) C.hx C.hb dX3_open__15 (by decide) ?_
  refine x3p_17 C X (by decide) (by decide) dX3_open__16 (fun H locs X => ?_)
  have h3 : Ctx3 (upd (upd v 0 (nI 0)) 17 (nI 0)) fk gl go gi ga K L N S P A := h3
  refine lv_aload_n C.hx C.hb dX3_open__19 rfl (lv_at hl 0 rfl) ?_
  refine x3g_18 C X (x := nI (1)) d18 dX3_open__20 ?_
  refine n_if_ne (tgt := 38) C dX3_open__23 (by decide) (by decide) (fun _ => ?_) (fun h => absurd h (by decide))
  refine lv_aload_n C.hx C.hb dX3_open__38 rfl (lv_at hl 0 rfl) ?_
  refine x3g_15 C X (x := nI (3)) d15 dX3_open__39 ?_
  refine lv_iconst (v := nI (1)) C.hx C.hb dX3_open__42 (by decide) ?_
  refine n_icmp_ne (tgt := 63) C dX3_open__43 (by decide) (by decide) (by decide) (fun _ => ?_) (fun h => absurd h (by decide))
  refine lv_aload_n C.hx C.hb dX3_open__63 rfl (lv_at hl 0 rfl) ?_
  refine x3g_15 C X (x := nI (3)) d15 dX3_open__64 ?_
  refine lv_iconst (v := nI (2)) C.hx C.hb dX3_open__67 (by decide) ?_
  refine n_icmp_ne (tgt := 84) C dX3_open__68 (by decide) (by decide) (by decide) (fun _ => ?_) (fun h => absurd h (by decide))
  refine lv_aload_n C.hx C.hb dX3_open__84 rfl (lv_at hl 0 rfl) ?_
  refine lv_aload_n C.hx C.hb dX3_open__85 rfl (lv_at hl 0 rfl) ?_
  refine x3g_16 C X (x := nI (cp)) d16 dX3_open__86 ?_
  refine x3_cw (As := [.int (nI (cp))]) (rest := []) C X (c3_splitArea (i := cp) (wd := wd) (ac := ac) h3 (by omega) d2 hwd (by omega) d13 (by omega)) wy_X3_splitArea ts_38 tw_471 rfl ⟨by decide, by decide⟩ rfl hl.1 rfl (Nat.le_of_ble_eq_true rfl) ⟨Nat.le_refl _, Nat.le_refl _⟩ dX3_open__89 (fun r v' fk' gl' go' gi' ga' gs' H locs hp X => ?_)
  obtain ⟨rfl, rfl, rfl, rfl, rfl, rfl, rfl, rfl⟩ := hp
  refine W.eq (g2 := F0 m 92 ls []) rfl ?_
  refine lv_aload_n C.hx C.hb dX3_open__92 rfl (lv_at hl 0 rfl) ?_
  refine x3g_19 C X dX3_open__93 ?_
  refine lv_iconst (v := nI (3)) C.hx C.hb dX3_open__96 (by decide) ?_
  refine lv_dup2_11 C.hx C.hb dX3_open__97 rfl rfl ?_
  refine x3l_6 C X (by first | omega | exact hbo _ | exact hbi _ | exact hba _ | exact hbl _) dX3_open__98 ?_
  refine lv_iconst (v := nI (1)) C.hx C.hb dX3_open__99 (by decide) ?_
  refine lv_iadd C.hx C.hb dX3_open__100 ?_
  refine x3t_6 C X (by first | omega | exact hbo _ | exact hbi _ | exact hba _ | exact hbl _) dX3_open__101 (fun H locs X => ?_)
  refine lv_iconst (v := nI (2)) C.hx C.hb dX3_open__102 (by decide) ?_
  exact ret3_i C X (⟨rfl, rfl, rfl, rfl, rfl, rfl, rfl, rfl⟩) dX3_open__103
set_option maxHeartbeats 4000000 in
set_option maxRecDepth 100000 in
/-- the reference: open_ -/
theorem c3_open_0 {l : Launch} {E : Gq} {z : Nat → Nat} {v : Nat → Int32} {fk : Nat → Int64} {gl go gi ga : Nat → Nat} {gs : Nat → Int32} {K : List Int64} {L N S P A : List Nat} (h3 : Ctx3 v fk gl go gi ga K L N S P A) {nx cp : Nat} (d17 : v 17 = nI 1) (d18 : v 18 = nI 1) (d15 : v 15 = nI 1) (d16 : v 16 = nI cp) (d12 : v 12 = nI nx) (hnx : nx < 2 ^ 31) (hnx1 : 1 ≤ nx) (hc : cp < S.length) (h2 : 2 ≤ S.getD cp 0) (hall : 1 ≤ lin L S cp) : M3w l E yX3_open_ cX3_open_ 1 (some .int) 3 [.ref (z 0)] z v fk gl go gi ga gs (fun r v' fk' gl' go' gi' ga' gs' => some (.int (nI 2)) = r ∧ upd (upd (upd v 0 (nI 0)) 17 (nI 0)) 11 (nI (S.length + 1)) = v' ∧ fk = fk' ∧ gl = gl' ∧ rpl go (sm S 0 cp + kbh L S cp) K.length (gi cp) (nx - 1) = go' ∧ va_up (shf gi (cp + 1) S.length) (cp + 1) (nx - 1) = gi' ∧ va_up (shf ga (cp + 1) S.length) (cp + 1) (ga cp) = ga' ∧ upd (upd gs 0 (gs 0 + nI 1)) 3 (gs 3 + nI 1) = gs') := by
  refine mk_w (by decide) (Nat.le_of_ble_eq_true rfl) ?_
  intro p e s m below meth c ls C Wd hl
  have X : X3w E _ z v fk gl go gi ga gs s s.heap [] := Wd
  have hl : lv_has ls 1 [(0, .ref (z 0))] := hl
  obtain ⟨hR, hJ, hk, hs8, hm, hbl, hbo, hbi, hba, hso⟩ := id h3
  obtain ⟨r1, r2, r3, r4, r5, r6, r7, r8⟩ := id hR
  obtain ⟨j1, j2, j3, j4, j5, j6, j7, j8⟩ := id hJ
  obtain ⟨k1, k2, k3, k4⟩ := hJ.b
  refine lv_aload_n C.hx C.hb dX3_open__0 rfl (lv_at hl 0 rfl) ?_
  refine lv_iconst (v := nI (0)) C.hx C.hb dX3_open__1 (by decide) ?_
  refine x3p_0 C X dX3_open__2 (fun H locs X => ?_)
  have h3 : Ctx3 (upd v 0 (nI 0)) fk gl go gi ga K L N S P A := h3
  refine lv_aload_n C.hx C.hb dX3_open__5 rfl (lv_at hl 0 rfl) ?_
  refine x3g_17 C X (x := nI (1)) d17 dX3_open__6 ?_
  refine n_if_ne (tgt := 14) C dX3_open__9 (by decide) (by decide) (fun _ => ?_) (fun h => absurd h (by decide))
  refine lv_aload_n C.hx C.hb dX3_open__14 rfl (lv_at hl 0 rfl) ?_
  refine lv_iconst (v := nI (0)) C.hx C.hb dX3_open__15 (by decide) ?_
  refine x3p_17 C X (by decide) (by decide) dX3_open__16 (fun H locs X => ?_)
  have h3 : Ctx3 (upd (upd v 0 (nI 0)) 17 (nI 0)) fk gl go gi ga K L N S P A := h3
  refine lv_aload_n C.hx C.hb dX3_open__19 rfl (lv_at hl 0 rfl) ?_
  refine x3g_18 C X (x := nI (1)) d18 dX3_open__20 ?_
  refine n_if_ne (tgt := 38) C dX3_open__23 (by decide) (by decide) (fun _ => ?_) (fun h => absurd h (by decide))
  refine lv_aload_n C.hx C.hb dX3_open__38 rfl (lv_at hl 0 rfl) ?_
  refine x3g_15 C X (x := nI (1)) d15 dX3_open__39 ?_
  refine lv_iconst (v := nI (1)) C.hx C.hb dX3_open__42 (by decide) ?_
  refine n_icmp_ne (tgt := 63) C dX3_open__43 (by decide) (by decide) (by decide) (fun h => absurd h (by decide)) (fun _ => ?_)
  refine lv_aload_n C.hx C.hb dX3_open__46 rfl (lv_at hl 0 rfl) ?_
  refine lv_aload_n C.hx C.hb dX3_open__47 rfl (lv_at hl 0 rfl) ?_
  refine x3g_16 C X (x := nI (cp)) d16 dX3_open__48 ?_
  refine lv_aload_n C.hx C.hb dX3_open__51 rfl (lv_at hl 0 rfl) ?_
  refine x3g_12 C X (x := nI (nx)) d12 dX3_open__52 ?_
  refine lv_iconst (v := nI (1)) C.hx C.hb dX3_open__55 (by decide) ?_
  refine n_sub C dX3_open__56 (by first | omega | exact hbo _ | exact hbi _ | exact hba _ | exact hbl _) ?_
  refine x3_cw (As := [.int (nI (cp)), .int (nI (nx - 1))]) (rest := []) C X (c3_splitInterval (i := cp) (num := nx - 1) h3 (by omega) (by omega) (by omega) (by omega)) wy_X3_splitInterval ts_40 tw_479 rfl ⟨by decide, by decide⟩ rfl hl.1 rfl (Nat.le_of_ble_eq_true rfl) ⟨Nat.le_refl _, Nat.le_refl _⟩ dX3_open__57 (fun r v' fk' gl' go' gi' ga' gs' H locs hp X => ?_)
  obtain ⟨rfl, rfl, rfl, rfl, rfl, rfl, rfl, rfl⟩ := hp
  refine W.eq (g2 := F0 m 60 ls []) rfl ?_
  refine lv_goto (tgt := 92) C.hx C.hb dX3_open__60 (by decide) ?_
  refine lv_aload_n C.hx C.hb dX3_open__92 rfl (lv_at hl 0 rfl) ?_
  refine x3g_19 C X dX3_open__93 ?_
  refine lv_iconst (v := nI (3)) C.hx C.hb dX3_open__96 (by decide) ?_
  refine lv_dup2_11 C.hx C.hb dX3_open__97 rfl rfl ?_
  refine x3l_6 C X (by first | omega | exact hbo _ | exact hbi _ | exact hba _ | exact hbl _) dX3_open__98 ?_
  refine lv_iconst (v := nI (1)) C.hx C.hb dX3_open__99 (by decide) ?_
  refine lv_iadd C.hx C.hb dX3_open__100 ?_
  refine x3t_6 C X (by first | omega | exact hbo _ | exact hbi _ | exact hba _ | exact hbl _) dX3_open__101 (fun H locs X => ?_)
  refine lv_iconst (v := nI (2)) C.hx C.hb dX3_open__102 (by decide) ?_
  exact ret3_i C X (⟨rfl, rfl, rfl, rfl, rfl, rfl, rfl, rfl⟩) dX3_open__103
set_option maxHeartbeats 4000000 in
set_option maxRecDepth 100000 in
theorem l3_rec0 {p : Program} {l : Launch} {e : Env} {s : State} {m : MethodId} {args : Array Value} {below : List Frame} {meth : Method} {c : Code} {E : Gq} {A : Nat → Prop} {z : Nat → Nat} {v : Nat → Int32} {fk : Nat → Int64} {gl go gi ga : Nat → Nat} {gs : Nat → Int32} (C : Cx E p s m args meth c cX3_recordsOf 4 (some .int) RX3 A) (X : X3w E A z v fk gl go gi ga gs s s.heap []) {K : List Int64} {S : List Nat} {i : Nat} (hi : i < 1300) (hk : K.length ≤ 600) (hs8 : v 8 = nI K.length) (hsum : sm S 0 i + S.getD i 0 ≤ K.length) (hbo : ∀ k, go k < 2 ^ 31) (hbi : ∀ k, gi k < 2 ^ 31) (hof : ∀ j, j < K.length → (go j = gi i ↔ sm S 0 i ≤ j ∧ j < sm S 0 i + S.getD i 0)) : ∀ (n j : Nat), K.length - j = n → j ≤ K.length → ∀ ls : Array Slot, lv_has ls 4 [(3, .int (nI (j))), (2, .int (nI (min (j - sm S 0 i) (S.getD i 0)))), (0, .ref (z 0)), (1, .int (nI (i)))] → W p l e (Rm 0 0 0) s m args below meth c s.heap [] 0 0 (MQ below (Qr (fun r => r = some (.int (nI (S.getD i 0))))) args s 0 0 (fun _ => False)) (F0 m 4 ls []) := by
  intro n
  induction n with
  | zero =>
    intro j hn hj ls hl
    refine lv_iload_n C.hx C.hb dX3_recordsOf_4 rfl (lv_at hl 0 rfl) ?_
    refine lv_aload_n C.hx C.hb dX3_recordsOf_5 rfl (lv_at hl 2 rfl) ?_
    refine x3g_8 C X (x := nI (K.length)) hs8 dX3_recordsOf_6 ?_
    refine n_icmp_ge (tgt := 41) C dX3_recordsOf_9 (by decide) (by first | omega | exact hbo _ | exact hbi _) (by first | omega | exact hbo _ | exact hbi _) (fun c9 => ?_) (fun c9 => ?_)
    · refine lv_iload_n C.hx C.hb dX3_recordsOf_41 rfl (lv_at hl 1 rfl) ?_
      exact ret_ir C (by rw [show min (j - sm S 0 i) (S.getD i 0) = S.getD i 0 by omega]) dX3_recordsOf_42
    · omega
  | succ n ih =>
    intro j hn hj ls hl
    have hq := hof j (by omega)
    refine lv_iload_n C.hx C.hb dX3_recordsOf_4 rfl (lv_at hl 0 rfl) ?_
    refine lv_aload_n C.hx C.hb dX3_recordsOf_5 rfl (lv_at hl 2 rfl) ?_
    refine x3g_8 C X (x := nI (K.length)) hs8 dX3_recordsOf_6 ?_
    refine n_icmp_ge (tgt := 41) C dX3_recordsOf_9 (by decide) (by first | omega | exact hbo _ | exact hbi _) (by first | omega | exact hbo _ | exact hbi _) (fun c9 => ?_) (fun c9 => ?_)
    · omega
    · refine lv_iload_n C.hx C.hb dX3_recordsOf_12 rfl (lv_at hl 1 rfl) ?_
      refine lv_aload_n C.hx C.hb dX3_recordsOf_13 rfl (lv_at hl 2 rfl) ?_
      refine x3g_7 C X dX3_recordsOf_14 ?_
      refine lv_iload_n C.hx C.hb dX3_recordsOf_17 rfl (lv_at hl 0 rfl) ?_
      refine x3l_3 C X (by first | omega | exact hbo _ | exact hbi _) dX3_recordsOf_18 ?_
      refine lv_aload_n C.hx C.hb dX3_recordsOf_19 rfl (lv_at hl 2 rfl) ?_
      refine x3g_9 C X dX3_recordsOf_20 ?_
      refine lv_iload_n C.hx C.hb dX3_recordsOf_23 rfl (lv_at hl 3 rfl) ?_
      refine x3l_4 C X (by first | omega | exact hbo _ | exact hbi _) dX3_recordsOf_24 ?_
      refine n_icmp_ne (tgt := 32) C dX3_recordsOf_25 (by decide) (by first | omega | exact hbo _ | exact hbi _) (by first | omega | exact hbo _ | exact hbi _) (fun c25 => ?_) (fun c25 => ?_)
      · have hq2 : ¬ (sm S 0 i ≤ j ∧ j < sm S 0 i + S.getD i 0) := fun h => c25 (hq.mpr h)
        refine lv_iconst (v := nI (0)) C.hx C.hb dX3_recordsOf_32 (by decide) ?_
        refine n_add C dX3_recordsOf_33 ?_
        refine lv_istore_n (lv' := [(2, .int (nI ((min (j - sm S 0 i) (S.getD i 0)) + 0))), (3, .int (nI (j))), (0, .ref (z 0)), (1, .int (nI (i)))]) C.hx C.hb dX3_recordsOf_34 rfl hl (by decide) rfl (fun ls hl => ?_)
        refine lv_iinc (v := nI (j + 1)) (lv' := [(3, .int (nI (j + 1))), (2, .int (nI ((min (j - sm S 0 i) (S.getD i 0)) + 0))), (0, .ref (z 0)), (1, .int (nI (i)))]) C.hx C.hb dX3_recordsOf_35 hl (k := 1) rfl (nI_1 _) (by decide) rfl (fun ls hl => ?_)
        refine lv_goto (tgt := 4) C.hx C.hb dX3_recordsOf_38 (by decide) ?_
        exact ih (j + 1) (by omega) (by omega) ls (by rw [show min (j + 1 - sm S 0 i) (S.getD i 0) = (min (j - sm S 0 i) (S.getD i 0)) + 0 by omega]; exact lv_sub hl [0, 1, 2, 3] rfl)
      · have hq2 := hq.mp c25
        refine lv_iconst (v := nI (1)) C.hx C.hb dX3_recordsOf_28 (by decide) ?_
        refine lv_goto (tgt := 33) C.hx C.hb dX3_recordsOf_29 (by decide) ?_
        refine n_add C dX3_recordsOf_33 ?_
        refine lv_istore_n (lv' := [(2, .int (nI ((min (j - sm S 0 i) (S.getD i 0)) + 1))), (3, .int (nI (j))), (0, .ref (z 0)), (1, .int (nI (i)))]) C.hx C.hb dX3_recordsOf_34 rfl hl (by decide) rfl (fun ls hl => ?_)
        refine lv_iinc (v := nI (j + 1)) (lv' := [(3, .int (nI (j + 1))), (2, .int (nI ((min (j - sm S 0 i) (S.getD i 0)) + 1))), (0, .ref (z 0)), (1, .int (nI (i)))]) C.hx C.hb dX3_recordsOf_35 hl (k := 1) rfl (nI_1 _) (by decide) rfl (fun ls hl => ?_)
        refine lv_goto (tgt := 4) C.hx C.hb dX3_recordsOf_38 (by decide) ?_
        exact ih (j + 1) (by omega) (by omega) ls (by rw [show min (j + 1 - sm S 0 i) (S.getD i 0) = (min (j - sm S 0 i) (S.getD i 0)) + 1 by omega]; exact lv_sub hl [0, 1, 2, 3] rfl)
set_option maxHeartbeats 4000000 in
set_option maxRecDepth 100000 in
/-- the reference: recordsOf, over less -/
theorem c3_rec0 {l : Launch} {E : Gq} {z : Nat → Nat} {v : Nat → Int32} {fk : Nat → Int64} {gl go gi ga : Nat → Nat} {gs : Nat → Int32} {K : List Int64} {S : List Nat} {i : Nat} (hi : i < 1300) (hk : K.length ≤ 600) (hs8 : v 8 = nI K.length) (hsum : sm S 0 i + S.getD i 0 ≤ K.length) (hbo : ∀ k, go k < 2 ^ 31) (hbi : ∀ k, gi k < 2 ^ 31) (hof : ∀ j, j < K.length → (go j = gi i ↔ sm S 0 i ≤ j ∧ j < sm S 0 i + S.getD i 0)) : M3r l E yX3_recordsOf cX3_recordsOf 4 (some .int) 0 [.ref (z 0), .int (nI (i))] z v fk gl go gi ga gs (fun r => r = some (.int (nI (S.getD i 0)))) := by
  refine mk_r (by decide) (Nat.le_of_ble_eq_true rfl) ?_
  intro p e s m below meth c ls C Wd hl
  have X : X3w E _ z v fk gl go gi ga gs s s.heap [] := Wd
  have hl : lv_has ls 4 [(0, .ref (z 0)), (1, .int (nI (i)))] := hl
  refine lv_iconst (v := nI (0)) C.hx C.hb dX3_recordsOf_0 (by decide) ?_
  refine lv_istore_n (lv' := [(2, .int (nI (0))), (0, .ref (z 0)), (1, .int (nI (i)))]) C.hx C.hb dX3_recordsOf_1 rfl hl (by decide) rfl (fun ls hl => ?_)
  refine lv_iconst (v := nI (0)) C.hx C.hb dX3_recordsOf_2 (by decide) ?_
  refine lv_istore_n (lv' := [(3, .int (nI (0))), (2, .int (nI (0))), (0, .ref (z 0)), (1, .int (nI (i)))]) C.hx C.hb dX3_recordsOf_3 rfl hl (by decide) rfl (fun ls hl => ?_)
  exact l3_rec0 C X hi hk hs8 hsum hbo hbi hof _ 0 rfl (Nat.zero_le _) ls (by rw [Nat.zero_sub, Nat.zero_min]; exact lv_sub hl [0, 1, 2, 3] rfl)
