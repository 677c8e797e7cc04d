theorem ret3_l {p : Program} {l : Launch} {e : Env} {R : Room} {s : State} {m : MethodId} {args : Array Value} {below : List Frame} {meth : Method} {c : Code} {H : Heap} {locs : List Loc} {mc ms : Nat} {E : Gq} {cc : ByteArray} {nL : Nat} {pc : Nat} {ls : Array Slot} {z : Nat → Nat} {v : Nat → Int32} {fk : Nat → Int64} {gl go gi ga : Nat → Nat} {gs : Nat → Int32} {ws0 : va_W} {post : Option Value → (Nat → Int32) → (Nat → Int64) → (Nat → Nat) → (Nat → Nat) → (Nat → Nat) → (Nat → Nat) → (Nat → Int32) → Prop} {r : Int64} (C : Cx E p s m args meth c cc nL (some .long) RX3 (va_A ws0 s.heap.size)) (X : X3w E (va_A ws0 s.heap.size) z v fk gl go gi ga gs s H locs) (hp : post (some (.long r)) v fk gl go gi ga gs) (hdg : decode cc pc = .ok (.lreturn, 1)) : W p l e R s m args below meth c H locs mc ms (MQ below (Qw E ws0 s.heap.size (P3 E z post)) args s mc ms (va_A ws0 s.heap.size)) (F0 m pc ls [.long r]) :=
  W.lret C.hx C.hb C.hr (fun _ ht _ => ⟨⟨_, _, rfl, ⟨v, fk, gl, go, gi, ga, gs, rfl, hp⟩, by rw [ht]; exact X.1, X.2.1⟩, X.2.2.F ht⟩) X.2.2.2.2 hdg C.hlk
theorem hld_lt {n : Nat} {i : Int32} (h1 : ¬ i < 0) (h2 : i < nI n) (hn : n < 2 ^ 31) : hld n i = 1 := by
  obtain ⟨j, hj, rfl⟩ := nI_of h1
  exact hld_y ((nI_ltI hj hn).mp h2) hn
theorem sw_in {x : Int32} {k : Nat} (hk : k < 2 ^ 31) (h1 : ¬ x < 0) (h2 : ¬ nI k ≤ x) : ¬ (x.toInt < 0 ∨ (k : Int) - 1 < x.toInt) := by
  obtain ⟨j, hj, rfl⟩ := nI_of h1
  have h3 : j < k := by
    rcases Nat.lt_or_ge j k with q | q
    · exact q
    · exact absurd ((nI_leI hk hj).mpr q) h2
  rw [nI_toInt hj]
  omega
set_option maxHeartbeats 4000000 in
set_option maxRecDepth 100000 in
/-- the reference: cut -/
theorem c3_cut_c {l : Launch} {E : Gq} {z : Nat → Nat} {v : Nat → Int32} {fk : Nat → Int64} {gl go gi ga : Nat → Nat} {gs : Nat → Int32} {wr : Int32} (d17 : v 17 = nI 1) : M3w l E yX3_cut cX3_cut 3 (some .int) 0 [.ref (z 0), .int (wr)] z v fk gl go gi ga gs (fun r v' fk' gl' go' gi' ga' gs' => some (.int (-5)) = r ∧ upd v 0 (nI 0) = v' ∧ fk = fk' ∧ gl = gl' ∧ go = go' ∧ gi = gi' ∧ ga = ga' ∧ gs = gs') := by
  refine mk_w (by decide) (Nat.le_of_ble_eq_true rfl) ?_
  intro p e s m below meth c ls C Wd hl
  have X : X3w E _ z v fk gl go gi ga gs s s.heap [] := Wd
  have hl : lv_has ls 3 [(0, .ref (z 0)), (1, .int (wr))] := hl
  refine lv_aload_n C.hx C.hb dX3_cut_0 rfl (lv_at hl 0 rfl) ?_
  refine lv_iconst (v := nI (0)) C.hx C.hb dX3_cut_1 (by decide) ?_
  refine x3p_0 C X dX3_cut_2 (fun H locs X => ?_)
  refine lv_aload_n C.hx C.hb dX3_cut_5 rfl (lv_at hl 0 rfl) ?_
  refine x3g_17 C X (x := nI (1)) d17 dX3_cut_6 ?_
  refine n_if_eq (tgt := 15) C dX3_cut_9 (by decide) (by decide) (fun h => absurd h (by decide)) (fun _ => ?_)
  refine lv_bipush (v := (-5)) C.hx C.hb dX3_cut_12 (by decide) ?_
  exact ret3_i C X (⟨rfl, rfl, rfl, rfl, rfl, rfl, rfl, rfl⟩) dX3_cut_14
set_option maxHeartbeats 4000000 in
set_option maxRecDepth 100000 in
/-- the reference: cut -/
theorem c3_cut_b {l : Launch} {E : Gq} {z : Nat → Nat} {v : Nat → Int32} {fk : Nat → Int64} {gl go gi ga : Nat → Nat} {gs : Nat → Int32} {wr : Int32} (d17 : v 17 = nI 0) (hb : wr < 0 ∨ nI 4 < wr) : M3w l E yX3_cut cX3_cut 3 (some .int) 0 [.ref (z 0), .int (wr)] z v fk gl go gi ga gs (fun r v' fk' gl' go' gi' ga' gs' => some (.int (-1)) = r ∧ upd v 0 (nI 0) = v' ∧ fk = fk' ∧ gl = gl' ∧ go = go' ∧ gi = gi' ∧ ga = ga' ∧ gs = gs') := by
  refine mk_w (by decide) (Nat.le_of_ble_eq_true rfl) ?_
  intro p e s m below meth c ls C Wd hl
  have X : X3w E _ z v fk gl go gi ga gs s s.heap [] := Wd
  have hl : lv_has ls 3 [(0, .ref (z 0)), (1, .int (wr))] := hl
  refine lv_aload_n C.hx C.hb dX3_cut_0 rfl (lv_at hl 0 rfl) ?_
  refine lv_iconst (v := nI (0)) C.hx C.hb dX3_cut_1 (by decide) ?_
  refine x3p_0 C X dX3_cut_2 (fun H locs X => ?_)
  refine lv_aload_n C.hx C.hb dX3_cut_5 rfl (lv_at hl 0 rfl) ?_
  refine x3g_17 C X (x := nI (0)) d17 dX3_cut_6 ?_
  refine n_if_eq (tgt := 15) C dX3_cut_9 (by decide) (by decide) (fun _ => ?_) (fun h => absurd h (by decide))
  refine lv_iload_n C.hx C.hb dX3_cut_15 rfl (lv_at hl 1 rfl) ?_
  refine lv_if_lt (tgt := 24) C.hx C.hb dX3_cut_16 (by decide) (fun c16 => ?_) (fun c16 => ?_)
  · refine lv_iconst (v := (-1)) C.hx C.hb dX3_cut_24 (by decide) ?_
    exact ret3_i C X (⟨rfl, rfl, rfl, rfl, rfl, rfl, rfl, rfl⟩) dX3_cut_25
  · refine lv_iload_n C.hx C.hb dX3_cut_19 rfl (lv_at hl 1 rfl) ?_
    refine lv_iconst (v := nI (4)) C.hx C.hb dX3_cut_20 (by decide) ?_
    refine lv_icmp_le (tgt := 26) C.hx C.hb dX3_cut_21 (by decide) (fun c21 => ?_) (fun c21 => ?_)
    · exact hb.elim (fun h => absurd h c16) (fun h => absurd c21 (Int32.not_le.mpr h))
    · refine lv_iconst (v := (-1)) C.hx C.hb dX3_cut_24 (by decide) ?_
      exact ret3_i C X (⟨rfl, rfl, rfl, rfl, rfl, rfl, rfl, rfl⟩) dX3_cut_25
set_option maxHeartbeats 4000000 in
set_option maxRecDepth 100000 in
/-- the reference: cut -/
theorem c3_cut_g {l : Launch} {E : Gq} {z : Nat → Nat} {v : Nat → Int32} {fk : Nat → Int64} {gl go gi ga : Nat → Nat} {gs : Nat → Int32} {q tc : Nat} (d17 : v 17 = nI 0) (d14 : v 14 = nI tc) (hq : q ≤ 4) : M3w l E yX3_cut cX3_cut 3 (some .int) 0 [.ref (z 0), .int (nI (q))] z v fk gl go gi ga gs (fun r v' fk' gl' go' gi' ga' gs' => some (.int (nI tc)) = r ∧ upd (upd v 0 (nI 0)) 14 (nI q) = v' ∧ fk = fk' ∧ gl = gl' ∧ go = go' ∧ gi = gi' ∧ ga = ga' ∧ gs = gs') := by
  refine mk_w (by decide) (Nat.le_of_ble_eq_true rfl) ?_
  intro p e s m below meth c ls C Wd hl
  have X : X3w E _ z v fk gl go gi ga gs s s.heap [] := Wd
  have hl : lv_has ls 3 [(0, .ref (z 0)), (1, .int (nI (q)))] := hl
  refine lv_aload_n C.hx C.hb dX3_cut_0 rfl (lv_at hl 0 rfl) ?_
  refine lv_iconst (v := nI (0)) C.hx C.hb dX3_cut_1 (by decide) ?_
  refine x3p_0 C X dX3_cut_2 (fun H locs X => ?_)
  refine lv_aload_n C.hx C.hb dX3_cut_5 rfl (lv_at hl 0 rfl) ?_
  refine x3g_17 C X (x := nI (0)) d17 dX3_cut_6 ?_
  refine n_if_eq (tgt := 15) C dX3_cut_9 (by decide) (by decide) (fun _ => ?_) (fun h => absurd h (by decide))
  refine lv_iload_n C.hx C.hb dX3_cut_15 rfl (lv_at hl 1 rfl) ?_
  refine n_if_lt (tgt := 24) C dX3_cut_16 (by decide) (by omega) ?_
  refine lv_iload_n C.hx C.hb dX3_cut_19 rfl (lv_at hl 1 rfl) ?_
  refine lv_iconst (v := nI (4)) C.hx C.hb dX3_cut_20 (by decide) ?_
  refine n_icmp_le (tgt := 26) C dX3_cut_21 (by decide) (by omega) (by omega) (fun c21 => ?_) (fun c21 => ?_)
  · refine lv_aload_n C.hx C.hb dX3_cut_26 rfl (lv_at hl 0 rfl) ?_
    refine x3g_14 C X (x := nI (tc)) d14 dX3_cut_27 ?_
    refine lv_istore_n (lv' := [(2, .int (nI (tc))), (0, .ref (z 0)), (1, .int (nI (q)))]) C.hx C.hb dX3_cut_30 rfl hl (by decide) rfl (fun ls hl => ?_)
    refine lv_aload_n C.hx C.hb dX3_cut_31 rfl (lv_at hl 1 rfl) ?_
    refine lv_iload_n C.hx C.hb dX3_cut_32 rfl (lv_at hl 2 rfl) ?_
    refine x3p_14 C X dX3_cut_33 (fun H locs X => ?_)
    refine lv_iload_n C.hx C.hb dX3_cut_36 rfl (lv_at hl 0 rfl) ?_
    exact ret3_i C X (⟨rfl, rfl, rfl, rfl, rfl, rfl, rfl, rfl⟩) dX3_cut_37
  · omega
set_option maxHeartbeats 4000000 in
set_option maxRecDepth 100000 in
/-- the reference: find -/
theorem c3_find_y {l : Launch} {E : Gq} {z : Nat → Nat} {v : Nat → Int32} {fk : Nat → Int64} {gl go gi ga : Nat → Nat} {gs : Nat → Int32} {K : List Int64} {L N S P A : List Nat} (h3 : Ctx3 v fk gl go gi ga K L N S P A) {key : Int64} (hh : hask K key) : M3w l E yX3_find cX3_find 3 (some .int) 2 [.ref (z 0), .long (key)] z v fk gl go gi ga gs (fun r v' fk' gl' go' gi' ga' gs' => some (.int (nI (go (ngt K key - 1)))) = r ∧ upd v 0 (nI 0) = v' ∧ fk = fk' ∧ gl = gl' ∧ go = go' ∧ gi = gi' ∧ ga = ga' ∧ gs = gs') := by
  refine mk_w (by decide) (Nat.le_of_ble_eq_true rfl) ?_
  intro p e s m below meth c ls C Wd hl
  have X : X3w E _ z v fk gl go gi ga gs s s.heap [] := Wd
  have hl : lv_has ls 3 [(0, .ref (z 0)), (1, .long (key))] := hl
  obtain ⟨hR, hJ, hk, hs8, hm, hbl, hbo, hbi, hba, hso⟩ := id h3
  obtain ⟨r1, r2, r3, r4, r5, r6, r7, r8⟩ := id hR
  obtain ⟨j1, j2, j3, j4, j5, j6, j7, j8⟩ := id hJ
  obtain ⟨k1, k2, k3, k4⟩ := hJ.b
  have hng := ngt_le K key
  have hh1 := hh.1
  refine lv_aload_n C.hx C.hb dX3_find_0 rfl (lv_at hl 0 rfl) ?_
  refine lv_iconst (v := nI (0)) C.hx C.hb dX3_find_1 (by decide) ?_
  refine x3p_0 C X dX3_find_2 (fun H locs X => ?_)
  have h3 : Ctx3 (upd v 0 (nI 0)) fk gl go gi ga K L N S P A := h3
  refine lv_aload_n C.hx C.hb dX3_find_5 rfl (lv_at hl 0 rfl) ?_
  refine lv_lload_n C.hx C.hb dX3_find_6 rfl (lv_at hl 1 rfl) ?_
  refine x3_cr (As := [.long (key)]) (rest := []) C X (c3_has_y h3 hh) wy_X3_has ts_29 tw_435 rfl ⟨by decide, by decide⟩ rfl hl.1 rfl (Nat.le_of_ble_eq_true rfl) ⟨Nat.le_refl _, Nat.le_refl _⟩ dX3_find_7 (fun r hp => ?_)
  subst hp
  refine W.eq (g2 := F0 m 10 ls [.int (nI (1))]) rfl ?_
  refine n_if_eq (tgt := 26) C dX3_find_10 (by decide) (by decide) (fun h => absurd h (by decide)) (fun _ => ?_)
  refine lv_aload_n C.hx C.hb dX3_find_13 rfl (lv_at hl 0 rfl) ?_
  refine x3g_7 C X dX3_find_14 ?_
  refine lv_aload_n C.hx C.hb dX3_find_17 rfl (lv_at hl 0 rfl) ?_
  refine lv_lload_n C.hx C.hb dX3_find_18 rfl (lv_at hl 1 rfl) ?_
  refine x3_cr (As := [.long (key)]) (rest := [.ref (z 3)]) C X (c3_less h3.ct0 (t := ngt K key - 1) (lsT_y hso hh)) wy_X3_less ts_30 tw_439 rfl ⟨by decide, by decide⟩ rfl hl.1 rfl (Nat.le_of_ble_eq_true rfl) ⟨Nat.le_refl _, Nat.le_refl _⟩ dX3_find_19 (fun r hp => ?_)
  subst hp
  refine W.eq (g2 := F0 m 22 ls [.int (nI (ngt K key - 1)), .ref (z 3)]) rfl ?_
  refine x3l_3 C X (by first | omega | exact hbo _ | exact hbi _ | exact hba _ | exact hbl _) dX3_find_22 ?_
  refine lv_goto (tgt := 27) C.hx C.hb dX3_find_23 (by decide) ?_
  exact ret3_i C X (⟨rfl, rfl, rfl, rfl, rfl, rfl, rfl, rfl⟩) dX3_find_27
set_option maxHeartbeats 4000000 in
set_option maxRecDepth 100000 in
/-- the reference: find -/
theorem c3_find_n {l : Launch} {E : Gq} {z : Nat → Nat} {v : Nat → Int32} {fk : Nat → Int64} {gl go gi ga : Nat → Nat} {gs : Nat → Int32} {K : List Int64} {L N S P A : List Nat} (h3 : Ctx3 v fk gl go gi ga K L N S P A) {key : Int64} (hh : ¬ hask K key) : M3w l E yX3_find cX3_find 3 (some .int) 2 [.ref (z 0), .long (key)] z v fk gl go gi ga gs (fun r v' fk' gl' go' gi' ga' gs' => some (.int (-1)) = r ∧ upd v 0 (nI 0) = v' ∧ fk = fk' ∧ gl = gl' ∧ go = go' ∧ gi = gi' ∧ ga = ga' ∧ gs = gs') := by
  refine mk_w (by decide) (Nat.le_of_ble_eq_true rfl) ?_
  intro p e s m below meth c ls C Wd hl
  have X : X3w E _ z v fk gl go gi ga gs s s.heap [] := Wd
  have hl : lv_has ls 3 [(0, .ref (z 0)), (1, .long (key))] := hl
  obtain ⟨hR, hJ, hk, hs8, hm, hbl, hbo, hbi, hba, hso⟩ := id h3
  obtain ⟨r1, r2, r3, r4, r5, r6, r7, r8⟩ := id hR
  obtain ⟨j1, j2, j3, j4, j5, j6, j7, j8⟩ := id hJ
  obtain ⟨k1, k2, k3, k4⟩ := hJ.b
  refine lv_aload_n C.hx C.hb dX3_find_0 rfl (lv_at hl 0 rfl) ?_
  refine lv_iconst (v := nI (0)) C.hx C.hb dX3_find_1 (by decide) ?_
  refine x3p_0 C X dX3_find_2 (fun H locs X => ?_)
  have h3 : Ctx3 (upd v 0 (nI 0)) fk gl go gi ga K L N S P A := h3
  refine lv_aload_n C.hx C.hb dX3_find_5 rfl (lv_at hl 0 rfl) ?_
  refine lv_lload_n C.hx C.hb dX3_find_6 rfl (lv_at hl 1 rfl) ?_
  refine x3_cr (As := [.long (key)]) (rest := []) C X (c3_has_n h3 hh) wy_X3_has ts_29 tw_435 rfl ⟨by decide, by decide⟩ rfl hl.1 rfl (Nat.le_of_ble_eq_true rfl) ⟨Nat.le_refl _, Nat.le_refl _⟩ dX3_find_7 (fun r hp => ?_)
  subst hp
  refine W.eq (g2 := F0 m 10 ls [.int (nI (0))]) rfl ?_
  refine n_if_eq (tgt := 26) C dX3_find_10 (by decide) (by decide) (fun _ => ?_) (fun h => absurd h (by decide))
  refine lv_iconst (v := (-1)) C.hx C.hb dX3_find_26 (by decide) ?_
  exact ret3_i C X (⟨rfl, rfl, rfl, rfl, rfl, rfl, rfl, rfl⟩) dX3_find_27
set_option maxHeartbeats 4000000 in
set_option maxRecDepth 100000 in
/-- the reference: next -/
theorem c3_next_y {l : Launch} {E : Gq} {z : Nat → Nat} {v : Nat → Int32} {fk : Nat → Int64} {gl go gi ga : Nat → Nat} {gs : Nat → Int32} {K : List Int64} {L N S P A : List Nat} (h3 : Ctx3 v fk gl go gi ga K L N S P A) {key : Int64} (hh : hask K key) : M3w l E yX3_next cX3_next 4 (some .int) 2 [.ref (z 0), .long (key)] z v fk gl go gi ga gs (fun r v' fk' gl' go' gi' ga' gs' => some (.int (if ngt K key < K.length then nI (ngt K key) else -1)) = r ∧ upd v 0 (nI 0) = v' ∧ fk = fk' ∧ gl = gl' ∧ go = go' ∧ gi = gi' ∧ ga = ga' ∧ gs = gs') := by
  refine mk_w (by decide) (Nat.le_of_ble_eq_true rfl) ?_
  intro p e s m below meth c ls C Wd hl
  have X : X3w E _ z v fk gl go gi ga gs s s.heap [] := Wd
  have hl : lv_has ls 4 [(0, .ref (z 0)), (1, .long (key))] := hl
  obtain ⟨hR, hJ, hk, hs8, hm, hbl, hbo, hbi, hba, hso⟩ := id h3
  obtain ⟨r1, r2, r3, r4, r5, r6, r7, r8⟩ := id hR
  obtain ⟨j1, j2, j3, j4, j5, j6, j7, j8⟩ := id hJ
  obtain ⟨k1, k2, k3, k4⟩ := hJ.b
  have hng := ngt_le K key
  have hh1 := hh.1
  refine lv_aload_n C.hx C.hb dX3_next_0 rfl (lv_at hl 0 rfl) ?_
  refine lv_iconst (v := nI (0)) C.hx C.hb dX3_next_1 (by decide) ?_
  refine x3p_0 C X dX3_next_2 (fun H locs X => ?_)
  have h3 : Ctx3 (upd v 0 (nI 0)) fk gl go gi ga K L N S P A := h3
  refine lv_aload_n C.hx C.hb dX3_next_5 rfl (lv_at hl 0 rfl) ?_
  refine lv_lload_n C.hx C.hb dX3_next_6 rfl (lv_at hl 1 rfl) ?_
  refine x3_cr (As := [.long (key)]) (rest := []) C X (c3_less h3.ct0 (t := ngt K key - 1) (lsT_y hso hh)) wy_X3_less ts_30 tw_439 rfl ⟨by decide, by decide⟩ rfl hl.1 rfl (Nat.le_of_ble_eq_true rfl) ⟨Nat.le_refl _, Nat.le_refl _⟩ dX3_next_7 (fun r hp => ?_)
  subst hp
  refine W.eq (g2 := F0 m 10 ls [.int (nI (ngt K key - 1))]) rfl ?_
  refine lv_aload_n C.hx C.hb dX3_next_10 rfl (lv_at hl 0 rfl) ?_
  refine lv_lload_n C.hx C.hb dX3_next_11 rfl (lv_at hl 1 rfl) ?_
  refine x3_cr (As := [.long (key)]) (rest := [.int (nI (ngt K key - 1))]) C X (c3_has_y h3 hh) wy_X3_has ts_29 tw_435 rfl ⟨by decide, by decide⟩ rfl hl.1 rfl (Nat.le_of_ble_eq_true rfl) ⟨Nat.le_refl _, Nat.le_refl _⟩ dX3_next_12 (fun r hp => ?_)
  subst hp
  refine W.eq (g2 := F0 m 15 ls [.int (nI (1)), .int (nI (ngt K key - 1))]) rfl ?_
  refine n_if_eq (tgt := 22) C dX3_next_15 (by decide) (by decide) (fun h => absurd h (by decide)) (fun _ => ?_)
  refine lv_iconst (v := nI (1)) C.hx C.hb dX3_next_18 (by decide) ?_
  refine lv_goto (tgt := 23) C.hx C.hb dX3_next_19 (by decide) ?_
  refine n_add C dX3_next_23 ?_
  refine n_re (j := nI (ngt K key)) (by rw [show ngt K key - 1 + 1 = ngt K key by omega]) ?_
  refine lv_istore_n (lv' := [(3, .int (nI (ngt K key))), (0, .ref (z 0)), (1, .long (key))]) C.hx C.hb dX3_next_24 rfl hl (by decide) rfl (fun ls hl => ?_)
  refine lv_iload_n C.hx C.hb dX3_next_25 rfl (lv_at hl 0 rfl) ?_
  refine lv_aload_n C.hx C.hb dX3_next_26 rfl (lv_at hl 1 rfl) ?_
  refine x3g_8 C X (x := nI (K.length)) hs8 dX3_next_27 ?_
  refine n_icmp_ge (tgt := 37) C dX3_next_30 (by decide) (by first | omega | exact hbo _ | exact hbi _ | exact hba _ | exact hbl _) (by first | omega | exact hbo _ | exact hbi _ | exact hba _ | exact hbl _) (fun c30 => ?_) (fun c30 => ?_)
  · refine lv_iconst (v := (-1)) C.hx C.hb dX3_next_37 (by decide) ?_
    exact ret3_i C X (⟨by rw [if_neg (Nat.not_lt.mpr c30)], rfl, rfl, rfl, rfl, rfl, rfl, rfl⟩) dX3_next_38
  · refine lv_iload_n C.hx C.hb dX3_next_33 rfl (lv_at hl 0 rfl) ?_
    refine lv_goto (tgt := 38) C.hx C.hb dX3_next_34 (by decide) ?_
    exact ret3_i C X (⟨by rw [if_pos c30], rfl, rfl, rfl, rfl, rfl, rfl, rfl⟩) dX3_next_38
set_option maxHeartbeats 4000000 in
set_option maxRecDepth 100000 in
/-- the reference: next -/
theorem c3_next_n {l : Launch} {E : Gq} {z : Nat → Nat} {v : Nat → Int32} {fk : Nat → Int64} {gl go gi ga : Nat → Nat} {gs : Nat → Int32} {K : List Int64} {L N S P A : List Nat} (h3 : Ctx3 v fk gl go gi ga K L N S P A) {key : Int64} (hh : ¬ hask K key) : M3w l E yX3_next cX3_next 4 (some .int) 2 [.ref (z 0), .long (key)] z v fk gl go gi ga gs (fun r v' fk' gl' go' gi' ga' gs' => some (.int (if ngt K key < K.length then nI (ngt K key) else -1)) = r ∧ upd v 0 (nI 0) = v' ∧ fk = fk' ∧ gl = gl' ∧ go = go' ∧ gi = gi' ∧ ga = ga' ∧ gs = gs') := by
  refine mk_w (by decide) (Nat.le_of_ble_eq_true rfl) ?_
  intro p e s m below meth c ls C Wd hl
  have X : X3w E _ z v fk gl go gi ga gs s s.heap [] := Wd
  have hl : lv_has ls 4 [(0, .ref (z 0)), (1, .long (key))] := hl
  obtain ⟨hR, hJ, hk, hs8, hm, hbl, hbo, hbi, hba, hso⟩ := id h3
  obtain ⟨r1, r2, r3, r4, r5, r6, r7, r8⟩ := id hR
  obtain ⟨j1, j2, j3, j4, j5, j6, j7, j8⟩ := id hJ
  obtain ⟨k1, k2, k3, k4⟩ := hJ.b
  have hng := ngt_le K key
  refine lv_aload_n C.hx C.hb dX3_next_0 rfl (lv_at hl 0 rfl) ?_
  refine lv_iconst (v := nI (0)) C.hx C.hb dX3_next_1 (by decide) ?_
  refine x3p_0 C X dX3_next_2 (fun H locs X => ?_)
  have h3 : Ctx3 (upd v 0 (nI 0)) fk gl go gi ga K L N S P A := h3
  refine lv_aload_n C.hx C.hb dX3_next_5 rfl (lv_at hl 0 rfl) ?_
  refine lv_lload_n C.hx C.hb dX3_next_6 rfl (lv_at hl 1 rfl) ?_
  refine x3_cr (As := [.long (key)]) (rest := []) C X (c3_less h3.ct0 (t := ngt K key) (lsT_n hso hh)) wy_X3_less ts_30 tw_439 rfl ⟨by decide, by decide⟩ rfl hl.1 rfl (Nat.le_of_ble_eq_true rfl) ⟨Nat.le_refl _, Nat.le_refl _⟩ dX3_next_7 (fun r hp => ?_)
  subst hp
  refine W.eq (g2 := F0 m 10 ls [.int (nI (ngt K key))]) rfl ?_
  refine lv_aload_n C.hx C.hb dX3_next_10 rfl (lv_at hl 0 rfl) ?_
  refine lv_lload_n C.hx C.hb dX3_next_11 rfl (lv_at hl 1 rfl) ?_
  refine x3_cr (As := [.long (key)]) (rest := [.int (nI (ngt K key))]) C X (c3_has_n h3 hh) wy_X3_has ts_29 tw_435 rfl ⟨by decide, by decide⟩ rfl hl.1 rfl (Nat.le_of_ble_eq_true rfl) ⟨Nat.le_refl _, Nat.le_refl _⟩ dX3_next_12 (fun r hp => ?_)
  subst hp
  refine W.eq (g2 := F0 m 15 ls [.int (nI (0)), .int (nI (ngt K key))]) rfl ?_
  refine n_if_eq (tgt := 22) C dX3_next_15 (by decide) (by decide) (fun _ => ?_) (fun h => absurd h (by decide))
  refine lv_iconst (v := nI (0)) C.hx C.hb dX3_next_22 (by decide) ?_
  refine n_add C dX3_next_23 ?_
  refine n_re (j := nI (ngt K key)) (by rw [Nat.add_zero]) ?_
  refine lv_istore_n (lv' := [(3, .int (nI (ngt K key))), (0, .ref (z 0)), (1, .long (key))]) C.hx C.hb dX3_next_24 rfl hl (by decide) rfl (fun ls hl => ?_)
  refine lv_iload_n C.hx C.hb dX3_next_25 rfl (lv_at hl 0 rfl) ?_
  refine lv_aload_n C.hx C.hb dX3_next_26 rfl (lv_at hl 1 rfl) ?_
  refine x3g_8 C X (x := nI (K.length)) hs8 dX3_next_27 ?_
  refine n_icmp_ge (tgt := 37) C dX3_next_30 (by decide) (by first | omega | exact hbo _ | exact hbi _ | exact hba _ | exact hbl _) (by first | omega | exact hbo _ | exact hbi _ | exact hba _ | exact hbl _) (fun c30 => ?_) (fun c30 => ?_)
  · refine lv_iconst (v := (-1)) C.hx C.hb dX3_next_37 (by decide) ?_
    exact ret3_i C X (⟨by rw [if_neg (Nat.not_lt.mpr c30)], rfl, rfl, rfl, rfl, rfl, rfl, rfl⟩) dX3_next_38
  · refine lv_iload_n C.hx C.hb dX3_next_33 rfl (lv_at hl 0 rfl) ?_
    refine lv_goto (tgt := 38) C.hx C.hb dX3_next_34 (by decide) ?_
    exact ret3_i C X (⟨by rw [if_pos c30], rfl, rfl, rfl, rfl, rfl, rfl, rfl⟩) dX3_next_38
set_option maxHeartbeats 4000000 in
set_option maxRecDepth 100000 in
/-- the reference: interval -/
theorem c3_interval_o {l : Launch} {E : Gq} {z : Nat → Nat} {v : Nat → Int32} {fk : Nat → Int64} {gl go gi ga : Nat → Nat} {gs : Nat → Int32} {K : List Int64} {L N S P A : List Nat} (h3 : Ctx3 v fk gl go gi ga K L N S P A) {i what : Int32} (hh : hld S.length i = 0) : M3w l E yX3_interval cX3_interval 3 (some .int) 1 [.ref (z 0), .int (i), .int (what)] z v fk gl go gi ga gs (fun r v' fk' gl' go' gi' ga' gs' => some (.int (-1)) = r ∧ upd v 0 (nI 0) = v' ∧ fk = fk' ∧ gl = gl' ∧ go = go' ∧ gi = gi' ∧ ga = ga' ∧ gs = gs') := by
  refine mk_w (by decide) (Nat.le_of_ble_eq_true rfl) ?_
  intro p e s m below meth c ls C Wd hl
  have X : X3w E _ z v fk gl go gi ga gs s s.heap [] := Wd
  have hl : lv_has ls 3 [(0, .ref (z 0)), (1, .int (i)), (2, .int (what))] := hl
  obtain ⟨hR, hJ, hk, hs8, hm, hbl, hbo, hbi, hba, hso⟩ := id h3
  obtain ⟨r1, r2, r3, r4, r5, r6, r7, r8⟩ := id hR
  obtain ⟨j1, j2, j3, j4, j5, j6, j7, j8⟩ := id hJ
  obtain ⟨k1, k2, k3, k4⟩ := hJ.b
  refine lv_aload_n C.hx C.hb dX3_interval_0 rfl (lv_at hl 0 rfl) ?_
  refine lv_iconst (v := nI (0)) C.hx C.hb dX3_interval_1 (by decide) ?_
  refine x3p_0 C X dX3_interval_2 (fun H locs X => ?_)
  have h3 : Ctx3 (upd v 0 (nI 0)) fk gl go gi ga K L N S P A := h3
  refine lv_iload_n C.hx C.hb dX3_interval_5 rfl (lv_at hl 1 rfl) ?_
  refine lv_if_lt (tgt := 17) C.hx C.hb dX3_interval_6 (by decide) (fun c6 => ?_) (fun c6 => ?_)
  · refine lv_iconst (v := (-1)) C.hx C.hb dX3_interval_17 (by decide) ?_
    exact ret3_i C X (⟨rfl, rfl, rfl, rfl, rfl, rfl, rfl, rfl⟩) dX3_interval_18
  · refine lv_iload_n C.hx C.hb dX3_interval_9 rfl (lv_at hl 1 rfl) ?_
    refine lv_aload_n C.hx C.hb dX3_interval_10 rfl (lv_at hl 0 rfl) ?_
    refine x3g_11 C X (x := nI (S.length)) hm dX3_interval_11 ?_
    refine lv_icmp_lt (tgt := 19) C.hx C.hb dX3_interval_14 (by decide) (fun c14 => ?_) (fun c14 => ?_)
    · exact absurd (hld_lt c6 c14 (by omega)) (by rw [hh]; decide)
    · refine lv_iconst (v := (-1)) C.hx C.hb dX3_interval_17 (by decide) ?_
      exact ret3_i C X (⟨rfl, rfl, rfl, rfl, rfl, rfl, rfl, rfl⟩) dX3_interval_18
set_option maxHeartbeats 4000000 in
set_option maxRecDepth 100000 in
/-- the reference: interval -/
theorem c3_interval_0 {l : Launch} {E : Gq} {z : Nat → Nat} {v : Nat → Int32} {fk : Nat → Int64} {gl go gi ga : Nat → Nat} {gs : Nat → Int32} {K : List Int64} {L N S P A : List Nat} (h3 : Ctx3 v fk gl go gi ga K L N S P A) {j : Nat} (hj : j < S.length) : M3w l E yX3_interval cX3_interval 3 (some .int) 1 [.ref (z 0), .int (nI (j)), .int (nI (0))] z v fk gl go gi ga gs (fun r v' fk' gl' go' gi' ga' gs' => some (.int (nI (gi j))) = r ∧ upd v 0 (nI 0) = v' ∧ fk = fk' ∧ gl = gl' ∧ go = go' ∧ gi = gi' ∧ ga = ga' ∧ gs = gs') := by
  refine mk_w (by decide) (Nat.le_of_ble_eq_true rfl) ?_
  intro p e s m below meth c ls C Wd hl
  have X : X3w E _ z v fk gl go gi ga gs s s.heap [] := Wd
  have hl : lv_has ls 3 [(0, .ref (z 0)), (1, .int (nI (j))), (2, .int (nI (0)))] := hl
  obtain ⟨hR, hJ, hk, hs8, hm, hbl, hbo, hbi, hba, hso⟩ := id h3
  obtain ⟨r1, r2, r3, r4, r5, r6, r7, r8⟩ := id hR
  obtain ⟨j1, j2, j3, j4, j5, j6, j7, j8⟩ := id hJ
  obtain ⟨k1, k2, k3, k4⟩ := hJ.b
  refine lv_aload_n C.hx C.hb dX3_interval_0 rfl (lv_at hl 0 rfl) ?_
  refine lv_iconst (v := nI (0)) C.hx C.hb dX3_interval_1 (by decide) ?_
  refine x3p_0 C X dX3_interval_2 (fun H locs X => ?_)
  have h3 : Ctx3 (upd v 0 (nI 0)) fk gl go gi ga K L N S P A := h3
  refine lv_iload_n C.hx C.hb dX3_interval_5 rfl (lv_at hl 1 rfl) ?_
  refine n_if_lt (tgt := 17) C dX3_interval_6 (by decide) (by first | omega | exact hbo _ | exact hbi _ | exact hba _ | exact hbl _) ?_
  refine lv_iload_n C.hx C.hb dX3_interval_9 rfl (lv_at hl 1 rfl) ?_
  refine lv_aload_n C.hx C.hb dX3_interval_10 rfl (lv_at hl 0 rfl) ?_
  refine x3g_11 C X (x := nI (S.length)) hm dX3_interval_11 ?_
  refine n_icmp_lt (tgt := 19) C dX3_interval_14 (by decide) (by first | omega | exact hbo _ | exact hbi _ | exact hba _ | exact hbl _) (by first | omega | exact hbo _ | exact hbi _ | exact hba _ | exact hbl _) (fun c14 => ?_) (fun c14 => ?_)
  · refine lv_iload_n C.hx C.hb dX3_interval_19 rfl (lv_at hl 2 rfl) ?_
    refine lv_tableIn (off := 32) (tgt := 52) C.hx C.hb dX3_interval_20 (by decide) (by decide) (by decide) (by decide) ?_
    refine lv_aload_n C.hx C.hb dX3_interval_52 rfl (lv_at hl 0 rfl) ?_
    refine x3g_9 C X dX3_interval_53 ?_
    refine lv_iload_n C.hx C.hb dX3_interval_56 rfl (lv_at hl 1 rfl) ?_
    refine x3l_4 C X (by first | omega | exact hbo _ | exact hbi _ | exact hba _ | exact hbl _) dX3_interval_57 ?_
    exact ret3_i C X (⟨rfl, rfl, rfl, rfl, rfl, rfl, rfl, rfl⟩) dX3_interval_58
  · omega
set_option maxHeartbeats 4000000 in
set_option maxRecDepth 100000 in
/-- the reference: interval -/
theorem c3_interval_1 {l : Launch} {E : Gq} {z : Nat → Nat} {v : Nat → Int32} {fk : Nat → Int64} {gl go gi ga : Nat → Nat} {gs : Nat → Int32} {K : List Int64} {L N S P A : List Nat} (h3 : Ctx3 v fk gl go gi ga K L N S P A) {j : Nat} (hj : j < S.length) : M3w l E yX3_interval cX3_interval 3 (some .int) 1 [.ref (z 0), .int (nI (j)), .int (nI (1))] z v fk gl go gi ga gs (fun r v' fk' gl' go' gi' ga' gs' => some (.int (nI (S.getD j 0))) = r ∧ upd v 0 (nI 0) = v' ∧ fk = fk' ∧ gl = gl' ∧ go = go' ∧ gi = gi' ∧ ga = ga' ∧ gs = gs') := by
  refine mk_w (by decide) (Nat.le_of_ble_eq_true rfl) ?_
  intro p e s m below meth c ls C Wd hl
  have X : X3w E _ z v fk gl go gi ga gs s s.heap [] := Wd
  have hl : lv_has ls 3 [(0, .ref (z 0)), (1, .int (nI (j))), (2, .int (nI (1)))] := hl
  obtain ⟨hR, hJ, hk, hs8, hm, hbl, hbo, hbi, hba, hso⟩ := id h3
  obtain ⟨r1, r2, r3, r4, r5, r6, r7, r8⟩ := id hR
  obtain ⟨j1, j2, j3, j4, j5, j6, j7, j8⟩ := id hJ
  obtain ⟨k1, k2, k3, k4⟩ := hJ.b
  refine lv_aload_n C.hx C.hb dX3_interval_0 rfl (lv_at hl 0 rfl) ?_
  refine lv_iconst (v := nI (0)) C.hx C.hb dX3_interval_1 (by decide) ?_
  refine x3p_0 C X dX3_interval_2 (fun H locs X => ?_)
  have h3 : Ctx3 (upd v 0 (nI 0)) fk gl go gi ga K L N S P A := h3
  refine lv_iload_n C.hx C.hb dX3_interval_5 rfl (lv_at hl 1 rfl) ?_
  refine n_if_lt (tgt := 17) C dX3_interval_6 (by decide) (by first | omega | exact hbo _ | exact hbi _ | exact hba _ | exact hbl _) ?_
  refine lv_iload_n C.hx C.hb dX3_interval_9 rfl (lv_at hl 1 rfl) ?_
  refine lv_aload_n C.hx C.hb dX3_interval_10 rfl (lv_at hl 0 rfl) ?_
  refine x3g_11 C X (x := nI (S.length)) hm dX3_interval_11 ?_
  refine n_icmp_lt (tgt := 19) C dX3_interval_14 (by decide) (by first | omega | exact hbo _ | exact hbi _ | exact hba _ | exact hbl _) (by first | omega | exact hbo _ | exact hbi _ | exact hba _ | exact hbl _) (fun c14 => ?_) (fun c14 => ?_)
  · refine lv_iload_n C.hx C.hb dX3_interval_19 rfl (lv_at hl 2 rfl) ?_
    refine lv_tableIn (off := 39) (tgt := 59) C.hx C.hb dX3_interval_20 (by decide) (by decide) (by decide) (by decide) ?_
    refine lv_aload_n C.hx C.hb dX3_interval_59 rfl (lv_at hl 0 rfl) ?_
    refine lv_iload_n C.hx C.hb dX3_interval_60 rfl (lv_at hl 1 rfl) ?_
    refine x3_cr (As := [.int (nI (j))]) (rest := []) C X (c3_recordsOf (i := j) h3 (by omega)) wy_X3_recordsOf ts_35 tw_459 rfl ⟨by decide, by decide⟩ rfl hl.1 rfl (Nat.le_of_ble_eq_true rfl) ⟨Nat.le_refl _, Nat.le_refl _⟩ dX3_interval_61 (fun r hp => ?_)
    subst hp
    refine W.eq (g2 := F0 m 64 ls [.int (nI (S.getD j 0))]) rfl ?_
    exact ret3_i C X (⟨rfl, rfl, rfl, rfl, rfl, rfl, rfl, rfl⟩) dX3_interval_64
  · omega
set_option maxHeartbeats 4000000 in
set_option maxRecDepth 100000 in
/-- the reference: interval -/
theorem c3_interval_2 {l : Launch} {E : Gq} {z : Nat → Nat} {v : Nat → Int32} {fk : Nat → Int64} {gl go gi ga : Nat → Nat} {gs : Nat → Int32} {K : List Int64} {L N S P A : List Nat} (h3 : Ctx3 v fk gl go gi ga K L N S P A) {j : Nat} (hj : j < S.length) : M3w l E yX3_interval cX3_interval 3 (some .int) 1 [.ref (z 0), .int (nI (j)), .int (nI (2))] z v fk gl go gi ga gs (fun r v' fk' gl' go' gi' ga' gs' => some (.int (nI (lin L S j))) = r ∧ upd v 0 (nI 0) = v' ∧ fk = fk' ∧ gl = gl' ∧ go = go' ∧ gi = gi' ∧ ga = ga' ∧ gs = gs') := by
  refine mk_w (by decide) (Nat.le_of_ble_eq_true rfl) ?_
  intro p e s m below meth c ls C Wd hl
  have X : X3w E _ z v fk gl go gi ga gs s s.heap [] := Wd
  have hl : lv_has ls 3 [(0, .ref (z 0)), (1, .int (nI (j))), (2, .int (nI (2)))] := hl
  obtain ⟨hR, hJ, hk, hs8, hm, hbl, hbo, hbi, hba, hso⟩ := id h3
  obtain ⟨r1, r2, r3, r4, r5, r6, r7, r8⟩ := id hR
  obtain ⟨j1, j2, j3, j4, j5, j6, j7, j8⟩ := id hJ
  obtain ⟨k1, k2, k3, k4⟩ := hJ.b
  refine lv_aload_n C.hx C.hb dX3_interval_0 rfl (lv_at hl 0 rfl) ?_
  refine lv_iconst (v := nI (0)) C.hx C.hb dX3_interval_1 (by decide) ?_
  refine x3p_0 C X dX3_interval_2 (fun H locs X => ?_)
  have h3 : Ctx3 (upd v 0 (nI 0)) fk gl go gi ga K L N S P A := h3
  refine lv_iload_n C.hx C.hb dX3_interval_5 rfl (lv_at hl 1 rfl) ?_
  refine n_if_lt (tgt := 17) C dX3_interval_6 (by decide) (by first | omega | exact hbo _ | exact hbi _ | exact hba _ | exact hbl _) ?_
  refine lv_iload_n C.hx C.hb dX3_interval_9 rfl (lv_at hl 1 rfl) ?_
  refine lv_aload_n C.hx C.hb dX3_interval_10 rfl (lv_at hl 0 rfl) ?_
  refine x3g_11 C X (x := nI (S.length)) hm dX3_interval_11 ?_
  refine n_icmp_lt (tgt := 19) C dX3_interval_14 (by decide) (by first | omega | exact hbo _ | exact hbi _ | exact hba _ | exact hbl _) (by first | omega | exact hbo _ | exact hbi _ | exact hba _ | exact hbl _) (fun c14 => ?_) (fun c14 => ?_)
  · refine lv_iload_n C.hx C.hb dX3_interval_19 rfl (lv_at hl 2 rfl) ?_
    refine lv_tableIn (off := 45) (tgt := 65) C.hx C.hb dX3_interval_20 (by decide) (by decide) (by decide) (by decide) ?_
    refine lv_aload_n C.hx C.hb dX3_interval_65 rfl (lv_at hl 0 rfl) ?_
    refine lv_iload_n C.hx C.hb dX3_interval_66 rfl (lv_at hl 1 rfl) ?_
    refine x3_cr (As := [.int (nI (j))]) (rest := []) C X (c3_lengthsOf (i := j) h3 (by omega)) wy_X3_lengthsOf ts_33 tw_451 rfl ⟨by decide, by decide⟩ rfl hl.1 rfl (Nat.le_of_ble_eq_true rfl) ⟨Nat.le_refl _, Nat.le_refl _⟩ dX3_interval_67 (fun r hp => ?_)
    subst hp
    refine W.eq (g2 := F0 m 70 ls [.int (nI (lin L S j))]) rfl ?_
    exact ret3_i C X (⟨rfl, rfl, rfl, rfl, rfl, rfl, rfl, rfl⟩) dX3_interval_70
  · omega
set_option maxHeartbeats 4000000 in
set_option maxRecDepth 100000 in
/-- the reference: interval -/
theorem c3_interval_3 {l : Launch} {E : Gq} {z : Nat → Nat} {v : Nat → Int32} {fk : Nat → Int64} {gl go gi ga : Nat → Nat} {gs : Nat → Int32} {K : List Int64} {L N S P A : List Nat} (h3 : Ctx3 v fk gl go gi ga K L N S P A) {j : Nat} (hj : j < S.length) : M3w l E yX3_interval cX3_interval 3 (some .int) 1 [.ref (z 0), .int (nI (j)), .int (nI (3))] z v fk gl go gi ga gs (fun r v' fk' gl' go' gi' ga' gs' => some (.int (nI (gIx P j))) = r ∧ upd v 0 (nI 0) = v' ∧ fk = fk' ∧ gl = gl' ∧ go = go' ∧ gi = gi' ∧ ga = ga' ∧ gs = gs') := by
  refine mk_w (by decide) (Nat.le_of_ble_eq_true rfl) ?_
  intro p e s m below meth c ls C Wd hl
  have X : X3w E _ z v fk gl go gi ga gs s s.heap [] := Wd
  have hl : lv_has ls 3 [(0, .ref (z 0)), (1, .int (nI (j))), (2, .int (nI (3)))] := hl
  obtain ⟨hR, hJ, hk, hs8, hm, hbl, hbo, hbi, hba, hso⟩ := id h3
  obtain ⟨r1, r2, r3, r4, r5, r6, r7, r8⟩ := id hR
  obtain ⟨j1, j2, j3, j4, j5, j6, j7, j8⟩ := id hJ
  obtain ⟨k1, k2, k3, k4⟩ := hJ.b
  refine lv_aload_n C.hx C.hb dX3_interval_0 rfl (lv_at hl 0 rfl) ?_
  refine lv_iconst (v := nI (0)) C.hx C.hb dX3_interval_1 (by decide) ?_
  refine x3p_0 C X dX3_interval_2 (fun H locs X => ?_)
  have h3 : Ctx3 (upd v 0 (nI 0)) fk gl go gi ga K L N S P A := h3
  refine lv_iload_n C.hx C.hb dX3_interval_5 rfl (lv_at hl 1 rfl) ?_
  refine n_if_lt (tgt := 17) C dX3_interval_6 (by decide) (by first | omega | exact hbo _ | exact hbi _ | exact hba _ | exact hbl _) ?_
  refine lv_iload_n C.hx C.hb dX3_interval_9 rfl (lv_at hl 1 rfl) ?_
  refine lv_aload_n C.hx C.hb dX3_interval_10 rfl (lv_at hl 0 rfl) ?_
  refine x3g_11 C X (x := nI (S.length)) hm dX3_interval_11 ?_
  refine n_icmp_lt (tgt := 19) C dX3_interval_14 (by decide) (by first | omega | exact hbo _ | exact hbi _ | exact hba _ | exact hbl _) (by first | omega | exact hbo _ | exact hbi _ | exact hba _ | exact hbl _) (fun c14 => ?_) (fun c14 => ?_)
  · refine lv_iload_n C.hx C.hb dX3_interval_19 rfl (lv_at hl 2 rfl) ?_
    refine lv_tableIn (off := 51) (tgt := 71) C.hx C.hb dX3_interval_20 (by decide) (by decide) (by decide) (by decide) ?_
    refine lv_aload_n C.hx C.hb dX3_interval_71 rfl (lv_at hl 0 rfl) ?_
    refine lv_iload_n C.hx C.hb dX3_interval_72 rfl (lv_at hl 1 rfl) ?_
    refine x3_cr (As := [.int (nI (j))]) (rest := []) C X (c3_areaOf (i := j) h3 (by omega)) wy_X3_areaOf ts_42 tw_515 rfl ⟨by decide, by decide⟩ rfl hl.1 rfl (Nat.le_of_ble_eq_true rfl) ⟨Nat.le_refl _, Nat.le_refl _⟩ dX3_interval_73 (fun r hp => ?_)
    subst hp
    refine W.eq (g2 := F0 m 76 ls [.int (nI (gIx P j))]) rfl ?_
    exact ret3_i C X (⟨rfl, rfl, rfl, rfl, rfl, rfl, rfl, rfl⟩) dX3_interval_76
  · omega
set_option maxHeartbeats 4000000 in
set_option maxRecDepth 100000 in
/-- the reference: interval -/
theorem c3_interval_x {l : Launch} {E : Gq} {z : Nat → Nat} {v : Nat → Int32} {fk : Nat → Int64} {gl go gi ga : Nat → Nat} {gs : Nat → Int32} {K : List Int64} {L N S P A : List Nat} (h3 : Ctx3 v fk gl go gi ga K L N S P A) {j : Nat} {what : Int32} (hj : j < S.length) (hsw : what.toInt < 0 ∨ 3 < what.toInt) : M3w l E yX3_interval cX3_interval 3 (some .int) 1 [.ref (z 0), .int (nI (j)), .int (what)] z v fk gl go gi ga gs (fun r v' fk' gl' go' gi' ga' gs' => some (.int (-1)) = r ∧ upd v 0 (nI 0) = v' ∧ fk = fk' ∧ gl = gl' ∧ go = go' ∧ gi = gi' ∧ ga = ga' ∧ gs = gs') := by
  refine mk_w (by decide) (Nat.le_of_ble_eq_true rfl) ?_
  intro p e s m below meth c ls C Wd hl
  have X : X3w E _ z v fk gl go gi ga gs s s.heap [] := Wd
  have hl : lv_has ls 3 [(0, .ref (z 0)), (1, .int (nI (j))), (2, .int (what))] := hl
  obtain ⟨hR, hJ, hk, hs8, hm, hbl, hbo, hbi, hba, hso⟩ := id h3
  obtain ⟨r1, r2, r3, r4, r5, r6, r7, r8⟩ := id hR
  obtain ⟨j1, j2, j3, j4, j5, j6, j7, j8⟩ := id hJ
  obtain ⟨k1, k2, k3, k4⟩ := hJ.b
  refine lv_aload_n C.hx C.hb dX3_interval_0 rfl (lv_at hl 0 rfl) ?_
  refine lv_iconst (v := nI (0)) C.hx C.hb dX3_interval_1 (by decide) ?_
  refine x3p_0 C X dX3_interval_2 (fun H locs X => ?_)
  have h3 : Ctx3 (upd v 0 (nI 0)) fk gl go gi ga K L N S P A := h3
  refine lv_iload_n C.hx C.hb dX3_interval_5 rfl (lv_at hl 1 rfl) ?_
  refine n_if_lt (tgt := 17) C dX3_interval_6 (by decide) (by first | omega | exact hbo _ | exact hbi _ | exact hba _ | exact hbl _) ?_
  refine lv_iload_n C.hx C.hb dX3_interval_9 rfl (lv_at hl 1 rfl) ?_
  refine lv_aload_n C.hx C.hb dX3_interval_10 rfl (lv_at hl 0 rfl) ?_
  refine x3g_11 C X (x := nI (S.length)) hm dX3_interval_11 ?_
  refine n_icmp_lt (tgt := 19) C dX3_interval_14 (by decide) (by first | omega | exact hbo _ | exact hbi _ | exact hba _ | exact hbl _) (by first | omega | exact hbo _ | exact hbi _ | exact hba _ | exact hbl _) (fun c14 => ?_) (fun c14 => ?_)
  · refine lv_iload_n C.hx C.hb dX3_interval_19 rfl (lv_at hl 2 rfl) ?_
    refine lv_tableOut (tgt := 77) C.hx C.hb dX3_interval_20 hsw (by decide) ?_
    refine lv_iconst (v := (-1)) C.hx C.hb dX3_interval_77 (by decide) ?_
    exact ret3_i C X (⟨rfl, rfl, rfl, rfl, rfl, rfl, rfl, rfl⟩) dX3_interval_78
  · omega
set_option maxHeartbeats 4000000 in
set_option maxRecDepth 100000 in
/-- the reference: split -/
theorem c3_split_0 {l : Launch} {E : Gq} {z : Nat → Nat} {v : Nat → Int32} {fk : Nat → Int64} {gl go gi ga : Nat → Nat} {gs : Nat → Int32} {q : Nat} (hq : q = 0) : M3w l E yX3_split cX3_split 2 (some .int) 0 [.ref (z 0), .int (nI (q))] z v fk gl go gi ga gs (fun r v' fk' gl' go' gi' ga' gs' => some (.int (gs q)) = r ∧ upd v 0 (nI 0) = v' ∧ fk = fk' ∧ gl = gl' ∧ go = go' ∧ gi = gi' ∧ ga = ga' ∧ gs = gs') := by
  refine mk_w (by decide) (Nat.le_of_ble_eq_true rfl) ?_
  intro p e s m below meth c ls C Wd hl
  have X : X3w E _ z v fk gl go gi ga gs s s.heap [] := Wd
  have hl : lv_has ls 2 [(0, .ref (z 0)), (1, .int (nI (q)))] := hl
  refine lv_aload_n C.hx C.hb dX3_split_0 rfl (lv_at hl 0 rfl) ?_
  refine lv_iconst (v := nI (0)) C.hx C.hb dX3_split_1 (by decide) ?_
  refine x3p_0 C X dX3_split_2 (fun H locs X => ?_)
  refine lv_iload_n C.hx C.hb dX3_split_5 rfl (lv_at hl 1 rfl) ?_
  refine n_if_lt (tgt := 23) C dX3_split_6 (by decide) (by omega) ?_
  refine lv_iload_n C.hx C.hb dX3_split_9 rfl (lv_at hl 1 rfl) ?_
  refine lv_iconst (v := nI (4)) C.hx C.hb dX3_split_10 (by decide) ?_
  refine n_icmp_ge (tgt := 23) C dX3_split_11 (by decide) (by omega) (by omega) (fun c11 => ?_) (fun c11 => ?_)
  · omega
  · refine lv_aload_n C.hx C.hb dX3_split_14 rfl (lv_at hl 0 rfl) ?_
    refine x3g_19 C X dX3_split_15 ?_
    refine lv_iload_n C.hx C.hb dX3_split_18 rfl (lv_at hl 1 rfl) ?_
    refine x3l_6 C X (by omega) dX3_split_19 ?_
    refine lv_goto (tgt := 24) C.hx C.hb dX3_split_20 (by decide) ?_
    exact ret3_i C X (⟨rfl, rfl, rfl, rfl, rfl, rfl, rfl, rfl⟩) dX3_split_24
set_option maxHeartbeats 4000000 in
set_option maxRecDepth 100000 in
/-- the reference: split -/
theorem c3_split_1 {l : Launch} {E : Gq} {z : Nat → Nat} {v : Nat → Int32} {fk : Nat → Int64} {gl go gi ga : Nat → Nat} {gs : Nat → Int32} {q : Nat} (hq : q = 1) : M3w l E yX3_split cX3_split 2 (some .int) 0 [.ref (z 0), .int (nI (q))] z v fk gl go gi ga gs (fun r v' fk' gl' go' gi' ga' gs' => some (.int (gs q)) = r ∧ upd v 0 (nI 0) = v' ∧ fk = fk' ∧ gl = gl' ∧ go = go' ∧ gi = gi' ∧ ga = ga' ∧ gs = gs') := by
  refine mk_w (by decide) (Nat.le_of_ble_eq_true rfl) ?_
  intro p e s m below meth c ls C Wd hl
  have X : X3w E _ z v fk gl go gi ga gs s s.heap [] := Wd
  have hl : lv_has ls 2 [(0, .ref (z 0)), (1, .int (nI (q)))] := hl
  refine lv_aload_n C.hx C.hb dX3_split_0 rfl (lv_at hl 0 rfl) ?_
  refine lv_iconst (v := nI (0)) C.hx C.hb dX3_split_1 (by decide) ?_
  refine x3p_0 C X dX3_split_2 (fun H locs X => ?_)
  refine lv_iload_n C.hx C.hb dX3_split_5 rfl (lv_at hl 1 rfl) ?_
  refine n_if_lt (tgt := 23) C dX3_split_6 (by decide) (by omega) ?_
  refine lv_iload_n C.hx C.hb dX3_split_9 rfl (lv_at hl 1 rfl) ?_
  refine lv_iconst (v := nI (4)) C.hx C.hb dX3_split_10 (by decide) ?_
  refine n_icmp_ge (tgt := 23) C dX3_split_11 (by decide) (by omega) (by omega) (fun c11 => ?_) (fun c11 => ?_)
  · omega
  · refine lv_aload_n C.hx C.hb dX3_split_14 rfl (lv_at hl 0 rfl) ?_
    refine x3g_19 C X dX3_split_15 ?_
    refine lv_iload_n C.hx C.hb dX3_split_18 rfl (lv_at hl 1 rfl) ?_
    refine x3l_6 C X (by omega) dX3_split_19 ?_
    refine lv_goto (tgt := 24) C.hx C.hb dX3_split_20 (by decide) ?_
    exact ret3_i C X (⟨rfl, rfl, rfl, rfl, rfl, rfl, rfl, rfl⟩) dX3_split_24
set_option maxHeartbeats 4000000 in
set_option maxRecDepth 100000 in
/-- the reference: split -/
theorem c3_split_2 {l : Launch} {E : Gq} {z : Nat → Nat} {v : Nat → Int32} {fk : Nat → Int64} {gl go gi ga : Nat → Nat} {gs : Nat → Int32} {q : Nat} (hq : q = 2) : M3w l E yX3_split cX3_split 2 (some .int) 0 [.ref (z 0), .int (nI (q))] z v fk gl go gi ga gs (fun r v' fk' gl' go' gi' ga' gs' => some (.int (gs q)) = r ∧ upd v 0 (nI 0) = v' ∧ fk = fk' ∧ gl = gl' ∧ go = go' ∧ gi = gi' ∧ ga = ga' ∧ gs = gs') := by
  refine mk_w (by decide) (Nat.le_of_ble_eq_true rfl) ?_
  intro p e s m below meth c ls C Wd hl
  have X : X3w E _ z v fk gl go gi ga gs s s.heap [] := Wd
  have hl : lv_has ls 2 [(0, .ref (z 0)), (1, .int (nI (q)))] := hl
  refine lv_aload_n C.hx C.hb dX3_split_0 rfl (lv_at hl 0 rfl) ?_
  refine lv_iconst (v := nI (0)) C.hx C.hb dX3_split_1 (by decide) ?_
  refine x3p_0 C X dX3_split_2 (fun H locs X => ?_)
  refine lv_iload_n C.hx C.hb dX3_split_5 rfl (lv_at hl 1 rfl) ?_
  refine n_if_lt (tgt := 23) C dX3_split_6 (by decide) (by omega) ?_
  refine lv_iload_n C.hx C.hb dX3_split_9 rfl (lv_at hl 1 rfl) ?_
  refine lv_iconst (v := nI (4)) C.hx C.hb dX3_split_10 (by decide) ?_
  refine n_icmp_ge (tgt := 23) C dX3_split_11 (by decide) (by omega) (by omega) (fun c11 => ?_) (fun c11 => ?_)
  · omega
  · refine lv_aload_n C.hx C.hb dX3_split_14 rfl (lv_at hl 0 rfl) ?_
    refine x3g_19 C X dX3_split_15 ?_
    refine lv_iload_n C.hx C.hb dX3_split_18 rfl (lv_at hl 1 rfl) ?_
    refine x3l_6 C X (by omega) dX3_split_19 ?_
    refine lv_goto (tgt := 24) C.hx C.hb dX3_split_20 (by decide) ?_
    exact ret3_i C X (⟨rfl, rfl, rfl, rfl, rfl, rfl, rfl, rfl⟩) dX3_split_24
set_option maxHeartbeats 4000000 in
set_option maxRecDepth 100000 in
/-- the reference: split -/
theorem c3_split_3 {l : Launch} {E : Gq} {z : Nat → Nat} {v : Nat → Int32} {fk : Nat → Int64} {gl go gi ga : Nat → Nat} {gs : Nat → Int32} {q : Nat} (hq : q = 3) : M3w l E yX3_split cX3_split 2 (some .int) 0 [.ref (z 0), .int (nI (q))] z v fk gl go gi ga gs (fun r v' fk' gl' go' gi' ga' gs' => some (.int (gs q)) = r ∧ upd v 0 (nI 0) = v' ∧ fk = fk' ∧ gl = gl' ∧ go = go' ∧ gi = gi' ∧ ga = ga' ∧ gs = gs') := by
  refine mk_w (by decide) (Nat.le_of_ble_eq_true rfl) ?_
  intro p e s m below meth c ls C Wd hl
  have X : X3w E _ z v fk gl go gi ga gs s s.heap [] := Wd
  have hl : lv_has ls 2 [(0, .ref (z 0)), (1, .int (nI (q)))] := hl
  refine lv_aload_n C.hx C.hb dX3_split_0 rfl (lv_at hl 0 rfl) ?_
  refine lv_iconst (v := nI (0)) C.hx C.hb dX3_split_1 (by decide) ?_
  refine x3p_0 C X dX3_split_2 (fun H locs X => ?_)
  refine lv_iload_n C.hx C.hb dX3_split_5 rfl (lv_at hl 1 rfl) ?_
  refine n_if_lt (tgt := 23) C dX3_split_6 (by decide) (by omega) ?_
  refine lv_iload_n C.hx C.hb dX3_split_9 rfl (lv_at hl 1 rfl) ?_
  refine lv_iconst (v := nI (4)) C.hx C.hb dX3_split_10 (by decide) ?_
  refine n_icmp_ge (tgt := 23) C dX3_split_11 (by decide) (by omega) (by omega) (fun c11 => ?_) (fun c11 => ?_)
  · omega
  · refine lv_aload_n C.hx C.hb dX3_split_14 rfl (lv_at hl 0 rfl) ?_
    refine x3g_19 C X dX3_split_15 ?_
    refine lv_iload_n C.hx C.hb dX3_split_18 rfl (lv_at hl 1 rfl) ?_
    refine x3l_6 C X (by omega) dX3_split_19 ?_
    refine lv_goto (tgt := 24) C.hx C.hb dX3_split_20 (by decide) ?_
    exact ret3_i C X (⟨rfl, rfl, rfl, rfl, rfl, rfl, rfl, rfl⟩) dX3_split_24
set_option maxHeartbeats 4000000 in
set_option maxRecDepth 100000 in
/-- the reference: split -/
theorem c3_split_x {l : Launch} {E : Gq} {z : Nat → Nat} {v : Nat → Int32} {fk : Nat → Int64} {gl go gi ga : Nat → Nat} {gs : Nat → Int32} {what : Int32} (hsw : what.toInt < 0 ∨ 3 < what.toInt) : M3w l E yX3_split cX3_split 2 (some .int) 0 [.ref (z 0), .int (what)] z v fk gl go gi ga gs (fun r v' fk' gl' go' gi' ga' gs' => some (.int (-1)) = r ∧ upd v 0 (nI 0) = v' ∧ fk = fk' ∧ gl = gl' ∧ go = go' ∧ gi = gi' ∧ ga = ga' ∧ gs = gs') := by
  refine mk_w (by decide) (Nat.le_of_ble_eq_true rfl) ?_
  intro p e s m below meth c ls C Wd hl
  have X : X3w E _ z v fk gl go gi ga gs s s.heap [] := Wd
  have hl : lv_has ls 2 [(0, .ref (z 0)), (1, .int (what))] := hl
  refine lv_aload_n C.hx C.hb dX3_split_0 rfl (lv_at hl 0 rfl) ?_
  refine lv_iconst (v := nI (0)) C.hx C.hb dX3_split_1 (by decide) ?_
  refine x3p_0 C X dX3_split_2 (fun H locs X => ?_)
  refine lv_iload_n C.hx C.hb dX3_split_5 rfl (lv_at hl 1 rfl) ?_
  refine lv_if_lt (tgt := 23) C.hx C.hb dX3_split_6 (by decide) (fun c6 => ?_) (fun c6 => ?_)
  · refine lv_iconst (v := (-1)) C.hx C.hb dX3_split_23 (by decide) ?_
    exact ret3_i C X (⟨rfl, rfl, rfl, rfl, rfl, rfl, rfl, rfl⟩) dX3_split_24
  · refine lv_iload_n C.hx C.hb dX3_split_9 rfl (lv_at hl 1 rfl) ?_
    refine lv_iconst (v := nI (4)) C.hx C.hb dX3_split_10 (by decide) ?_
    refine lv_icmp_ge (tgt := 23) C.hx C.hb dX3_split_11 (by decide) (fun c11 => ?_) (fun c11 => ?_)
    · refine lv_iconst (v := (-1)) C.hx C.hb dX3_split_23 (by decide) ?_
      exact ret3_i C X (⟨rfl, rfl, rfl, rfl, rfl, rfl, rfl, rfl⟩) dX3_split_24
    · exact absurd hsw (sw_in (k := 4) (by decide) c6 c11)
set_option maxHeartbeats 4000000 in
set_option maxRecDepth 100000 in
/-- the reference: verify -/
theorem c3_verify {l : Launch} {E : Gq} {z : Nat → Nat} {v : Nat → Int32} {fk : Nat → Int64} {gl go gi ga : Nat → Nat} {gs : Nat → Int32}  : M3w l E yX3_verify cX3_verify 1 (some .int) 0 [.ref (z 0)] z v fk gl go gi ga gs (fun r v' fk' gl' go' gi' ga' gs' => some (.int (nI 0)) = r ∧ upd v 0 (nI 0) = v' ∧ fk = fk' ∧ gl = gl' ∧ go = go' ∧ gi = gi' ∧ ga = ga' ∧ gs = gs') := by
  refine mk_w (by decide) (Nat.le_of_ble_eq_true rfl) ?_
  intro p e s m below meth c ls C Wd hl
  have X : X3w E _ z v fk gl go gi ga gs s s.heap [] := Wd
  have hl : lv_has ls 1 [(0, .ref (z 0))] := hl
  refine lv_aload_n C.hx C.hb dX3_verify_0 rfl (lv_at hl 0 rfl) ?_
  refine lv_iconst (v := nI (0)) C.hx C.hb dX3_verify_1 (by decide) ?_
  refine x3p_0 C X dX3_verify_2 (fun H locs X => ?_)
  refine lv_iconst (v := nI (0)) C.hx C.hb dX3_verify_5 (by decide) ?_
  exact ret3_i C X (⟨rfl, rfl, rfl, rfl, rfl, rfl, rfl, rfl⟩) dX3_verify_6
set_option maxHeartbeats 4000000 in
set_option maxRecDepth 100000 in
/-- the reference: thrown -/
theorem c3_thrown {l : Launch} {E : Gq} {z : Nat → Nat} {v : Nat → Int32} {fk : Nat → Int64} {gl go gi ga : Nat → Nat} {gs : Nat → Int32} {x : Int32} (hx : v 0 = x) : M3r l E yX3_thrown cX3_thrown 1 (some .int) 0 [.ref (z 0)] z v fk gl go gi ga gs (fun r => r = some (.int x)) := by
  refine mk_r (by decide) (Nat.le_of_ble_eq_true rfl) ?_
  intro p e s m below meth c ls C Wd hl
  have X : X3w E _ z v fk gl go gi ga gs s s.heap [] := Wd
  have hl : lv_has ls 1 [(0, .ref (z 0))] := hl
  refine lv_aload_n C.hx C.hb dX3_thrown_0 rfl (lv_at hl 0 rfl) ?_
  refine x3g_0 C X (x := x) hx dX3_thrown_1 ?_
  exact ret_ir C (rfl) dX3_thrown_4
set_option maxHeartbeats 4000000 in
set_option maxRecDepth 100000 in
/-- the reference: order -/
theorem c3_order {l : Launch} {E : Gq} {z : Nat → Nat} {v : Nat → Int32} {fk : Nat → Int64} {gl go gi ga : Nat → Nat} {gs : Nat → Int32} {K : List Int64} {L N S P A : List Nat} (h3 : Ctx3 v fk gl go gi ga K L N S P A) {i : Int32} : M3w l E yX3_order cX3_order 2 (some .long) 0 [.ref (z 0), .int (i)] z v fk gl go gi ga gs (fun r v' fk' gl' go' gi' ga' gs' => some (.long (lAt K i)) = r ∧ upd v 0 (nI 0) = v' ∧ fk = fk' ∧ gl = gl' ∧ go = go' ∧ gi = gi' ∧ ga = ga' ∧ gs = gs') := by
  refine mk_w (by decide) (Nat.le_of_ble_eq_true rfl) ?_
  intro p e s m below meth c ls C Wd hl
  have X : X3w E _ z v fk gl go gi ga gs s s.heap [] := Wd
  have hl : lv_has ls 2 [(0, .ref (z 0)), (1, .int (i))] := hl
  obtain ⟨hR, hJ, hk, hs8, hm, hbl, hbo, hbi, hba, hso⟩ := id h3
  obtain ⟨r1, r2, r3, r4, r5, r6, r7, r8⟩ := id hR
  obtain ⟨j1, j2, j3, j4, j5, j6, j7, j8⟩ := id hJ
  obtain ⟨k1, k2, k3, k4⟩ := hJ.b
  by_cases hi : i < 0
  · refine lv_aload_n C.hx C.hb dX3_order_0 rfl (lv_at hl 0 rfl) ?_
    refine lv_iconst (v := nI (0)) C.hx C.hb dX3_order_1 (by decide) ?_
    refine x3p_0 C X dX3_order_2 (fun H locs X => ?_)
    refine lv_iload_n C.hx C.hb dX3_order_5 rfl (lv_at hl 1 rfl) ?_
    refine lv_if_lt (tgt := 26) C.hx C.hb dX3_order_6 (by decide) (fun c6 => ?_) (fun c6 => ?_)
    · refine lv_lconst (v := 0) C.hx C.hb dX3_order_26 (by decide) ?_
      exact ret3_l C X (⟨by unfold lAt; rw [if_pos hi], rfl, rfl, rfl, rfl, rfl, rfl, rfl⟩) dX3_order_27
    · exact absurd hi c6
  · obtain ⟨j, hj, rfl⟩ := nI_of hi
    refine lv_aload_n C.hx C.hb dX3_order_0 rfl (lv_at hl 0 rfl) ?_
    refine lv_iconst (v := nI (0)) C.hx C.hb dX3_order_1 (by decide) ?_
    refine x3p_0 C X dX3_order_2 (fun H locs X => ?_)
    refine lv_iload_n C.hx C.hb dX3_order_5 rfl (lv_at hl 1 rfl) ?_
    refine n_if_lt (tgt := 26) C dX3_order_6 (by decide) (by first | omega | exact hbo _ | exact hbi _ | exact hba _ | exact hbl _) ?_
    refine lv_iload_n C.hx C.hb dX3_order_9 rfl (lv_at hl 1 rfl) ?_
    refine lv_aload_n C.hx C.hb dX3_order_10 rfl (lv_at hl 0 rfl) ?_
    refine x3g_8 C X (x := nI (K.length)) hs8 dX3_order_11 ?_
    refine n_icmp_ge (tgt := 26) C dX3_order_14 (by decide) (by first | omega | exact hbo _ | exact hbi _ | exact hba _ | exact hbl _) (by first | omega | exact hbo _ | exact hbi _ | exact hba _ | exact hbl _) (fun c14 => ?_) (fun c14 => ?_)
    · refine lv_lconst (v := 0) C.hx C.hb dX3_order_26 (by decide) ?_
      exact ret3_l C X (⟨by rw [lAt_n hj, List.getD_eq_getElem?_getD, List.getElem?_eq_none (by omega)]; rfl, rfl, rfl, rfl, rfl, rfl, rfl, rfl⟩) dX3_order_27
    · refine lv_aload_n C.hx C.hb dX3_order_17 rfl (lv_at hl 0 rfl) ?_
      refine x3g_5 C X dX3_order_18 ?_
      refine lv_iload_n C.hx C.hb dX3_order_21 rfl (lv_at hl 1 rfl) ?_
      refine x3l_1 C X (by first | omega | exact hbo _ | exact hbi _ | exact hba _ | exact hbl _) dX3_order_22 ?_
      refine lv_goto (tgt := 27) C.hx C.hb dX3_order_23 (by decide) ?_
      exact ret3_l C X (⟨by rw [lAt_n hj, r1 j (by omega)], rfl, rfl, rfl, rfl, rfl, rfl, rfl⟩) dX3_order_27
set_option maxHeartbeats 4000000 in
set_option maxRecDepth 100000 in
theorem l3_count {p : Program} {l : Launch} {e : Env} {s : State} {m : MethodId} {args : Array Value} {below : List Frame} {meth : Method} {c : Code} {E : Gq} {A : Nat → Prop} {R : Room} {H : Heap} {locs : List Loc} {Q : State → Prop} {z : Nat → Nat} {v : Nat → Int32} {fk : Nat → Int64} {gl go gi ga : Nat → Nat} {gs : Nat → Int32} {K : List Int64} {L : List Nat} {xw : Int32} (C : Cx E p s m args meth c cX3_count 4 (some .int) RX3 A) (X : X3w E A z v fk gl go gi ga gs s H locs) (hk : K.length ≤ 600) (hs8 : v 8 = nI K.length) (r2 : ∀ j, j < K.length → gl j = L.getD j 0) (hL : L.length = K.length) (kk : ∀ ls : Array Slot, lv_has ls 4 [(2, .int (nI (sm L 0 L.length))), (0, .ref (z 0)), (1, .int xw)] → W p l e R s m args below meth c H locs 0 0 Q (F0 m 32 ls [])) : ∀ (n j : Nat), K.length - j = n → j ≤ K.length → ∀ ls : Array Slot, lv_has ls 4 [(3, .int (nI j)), (2, .int (nI (sm L 0 j))), (0, .ref (z 0)), (1, .int xw)] → W p l e R s m args below meth c H locs 0 0 Q (F0 m 9 ls []) := by
  intro n
  induction n with
  | zero =>
    intro j hn hj ls hl
    refine lv_iload_n C.hx C.hb dX3_count_9 rfl (lv_at hl 0 rfl) ?_
    refine lv_aload_n C.hx C.hb dX3_count_10 rfl (lv_at hl 2 rfl) ?_
    refine x3g_8 C X (x := nI (K.length)) hs8 dX3_count_11 ?_
    refine n_icmp_ge (tgt := 32) C dX3_count_14 (by decide) (by omega) (by omega) (fun c14 => ?_) (fun c14 => ?_)
    · exact kk ls (by rw [show L.length = j by omega]; exact lv_sub hl [1, 2, 3] rfl)
    · omega
  | succ n ih =>
    intro j hn hj ls hl
    refine lv_iload_n C.hx C.hb dX3_count_9 rfl (lv_at hl 0 rfl) ?_
    refine lv_aload_n C.hx C.hb dX3_count_10 rfl (lv_at hl 2 rfl) ?_
    refine x3g_8 C X (x := nI (K.length)) hs8 dX3_count_11 ?_
    refine n_icmp_ge (tgt := 32) C dX3_count_14 (by decide) (by omega) (by omega) (fun c14 => ?_) (fun c14 => ?_)
    · omega
    · refine lv_iload_n C.hx C.hb dX3_count_17 rfl (lv_at hl 1 rfl) ?_
      refine lv_aload_n C.hx C.hb dX3_count_18 rfl (lv_at hl 2 rfl) ?_
      refine x3g_6 C X dX3_count_19 ?_
      refine lv_iload_n C.hx C.hb dX3_count_22 rfl (lv_at hl 0 rfl) ?_
      refine x3l_2 C X (by omega) dX3_count_23 ?_
      refine n_add C dX3_count_24 ?_
      refine lv_istore_n (lv' := [(2, .int (nI ((sm L 0 j) + (gl j)))), (3, .int (nI (j))), (0, .ref (z 0)), (1, .int (xw))]) C.hx C.hb dX3_count_25 rfl hl (by decide) rfl (fun ls hl => ?_)
      refine lv_iinc (v := nI (j + 1)) (lv' := [(3, .int (nI (j + 1))), (2, .int (nI ((sm L 0 j) + (gl j)))), (0, .ref (z 0)), (1, .int (xw))]) C.hx C.hb dX3_count_26 hl (k := 1) rfl (nI_1 _) (by decide) rfl (fun ls hl => ?_)
      refine lv_goto (tgt := 9) C.hx C.hb dX3_count_29 (by decide) ?_
      exact ih (j + 1) (by omega) (by omega) ls (by rw [sm0_s (by omega), ← r2 j (by omega)]; exact lv_sub hl [0, 1, 2, 3] rfl)
set_option maxHeartbeats 4000000 in
set_option maxRecDepth 100000 in
/-- the reference: count -/
theorem c3_count_0 {l : Launch} {E : Gq} {z : Nat → Nat} {v : Nat → Int32} {fk : Nat → Int64} {gl go gi ga : Nat → Nat} {gs : Nat → Int32} {K : List Int64} {L N S P A : List Nat} (h3 : Ctx3 v fk gl go gi ga K L N S P A)  : M3w l E yX3_count cX3_count 4 (some .int) 1 [.ref (z 0), .int (nI (0))] z v fk gl go gi ga gs (fun r v' fk' gl' go' gi' ga' gs' => some (.int (nI K.length)) = r ∧ upd v 0 (nI 0) = v' ∧ fk = fk' ∧ gl = gl' ∧ go = go' ∧ gi = gi' ∧ ga = ga' ∧ gs = gs') := by
  refine mk_w (by decide) (Nat.le_of_ble_eq_true rfl) ?_
  intro p e s m below meth c ls C Wd hl
  have X : X3w E _ z v fk gl go gi ga gs s s.heap [] := Wd
  have hl : lv_has ls 4 [(0, .ref (z 0)), (1, .int (nI (0)))] := hl
  obtain ⟨hR, hJ, hk, hs8, hm, hbl, hbo, hbi, hba, hso⟩ := id h3
  obtain ⟨r1, r2, r3, r4, r5, r6, r7, r8⟩ := id hR
  obtain ⟨j1, j2, j3, j4, j5, j6, j7, j8⟩ := id hJ
  obtain ⟨k1, k2, k3, k4⟩ := hJ.b
  refine lv_aload_n C.hx C.hb dX3_count_0 rfl (lv_at hl 0 rfl) ?_
  refine lv_iconst (v := nI (0)) C.hx C.hb dX3_count_1 (by decide) ?_
  refine x3p_0 C X dX3_count_2 (fun H locs X => ?_)
  have h3 : Ctx3 (upd v 0 (nI 0)) fk gl go gi ga K L N S P A := h3
  refine lv_iconst (v := nI (0)) C.hx C.hb dX3_count_5 (by decide) ?_
  refine lv_istore_n (lv' := [(2, .int (nI (0))), (0, .ref (z 0)), (1, .int (nI (0)))]) C.hx C.hb dX3_count_6 rfl hl (by decide) rfl (fun ls hl => ?_)
  refine lv_iconst (v := nI (0)) C.hx C.hb dX3_count_7 (by decide) ?_
  refine lv_istore_n (lv' := [(3, .int (nI (0))), (2, .int (nI (0))), (0, .ref (z 0)), (1, .int (nI (0)))]) C.hx C.hb dX3_count_8 rfl hl (by decide) rfl (fun ls hl => ?_)
  refine l3_count (K := K) (L := L) C X hk hs8 r2 j1 (fun ls hl => ?_) _ 0 rfl (Nat.zero_le _) ls (lv_sub hl [0, 1, 2, 3] rfl)
  refine lv_iload_n C.hx C.hb dX3_count_32 rfl (lv_at hl 2 rfl) ?_
  refine lv_tableIn (off := 39) (tgt := 72) C.hx C.hb dX3_count_33 (by decide) (by decide) (by decide) (by decide) ?_
  refine lv_aload_n C.hx C.hb dX3_count_72 rfl (lv_at hl 1 rfl) ?_
  refine x3g_8 C X (x := nI (K.length)) hs8 dX3_count_73 ?_
  exact ret3_i C X (⟨rfl, rfl, rfl, rfl, rfl, rfl, rfl, rfl⟩) dX3_count_76
set_option maxHeartbeats 4000000 in
set_option maxRecDepth 100000 in
/-- the reference: count -/
theorem c3_count_1 {l : Launch} {E : Gq} {z : Nat → Nat} {v : Nat → Int32} {fk : Nat → Int64} {gl go gi ga : Nat → Nat} {gs : Nat → Int32} {K : List Int64} {L N S P A : List Nat} (h3 : Ctx3 v fk gl go gi ga K L N S P A)  : M3w l E yX3_count cX3_count 4 (some .int) 1 [.ref (z 0), .int (nI (1))] z v fk gl go gi ga gs (fun r v' fk' gl' go' gi' ga' gs' => some (.int (nI S.length)) = r ∧ upd v 0 (nI 0) = v' ∧ fk = fk' ∧ gl = gl' ∧ go = go' ∧ gi = gi' ∧ ga = ga' ∧ gs = gs') := by
  refine mk_w (by decide) (Nat.le_of_ble_eq_true rfl) ?_
  intro p e s m below meth c ls C Wd hl
  have X : X3w E _ z v fk gl go gi ga gs s s.heap [] := Wd
  have hl : lv_has ls 4 [(0, .ref (z 0)), (1, .int (nI (1)))] := hl
  obtain ⟨hR, hJ, hk, hs8, hm, hbl, hbo, hbi, hba, hso⟩ := id h3
  obtain ⟨r1, r2, r3, r4, r5, r6, r7, r8⟩ := id hR
  obtain ⟨j1, j2, j3, j4, j5, j6, j7, j8⟩ := id hJ
  obtain ⟨k1, k2, k3, k4⟩ := hJ.b
  refine lv_aload_n C.hx C.hb dX3_count_0 rfl (lv_at hl 0 rfl) ?_
  refine lv_iconst (v := nI (0)) C.hx C.hb dX3_count_1 (by decide) ?_
  refine x3p_0 C X dX3_count_2 (fun H locs X => ?_)
  have h3 : Ctx3 (upd v 0 (nI 0)) fk gl go gi ga K L N S P A := h3
  refine lv_iconst (v := nI (0)) C.hx C.hb dX3_count_5 (by decide) ?_
  refine lv_istore_n (lv' := [(2, .int (nI (0))), (0, .ref (z 0)), (1, .int (nI (1)))]) C.hx C.hb dX3_count_6 rfl hl (by decide) rfl (fun ls hl => ?_)
  refine lv_iconst (v := nI (0)) C.hx C.hb dX3_count_7 (by decide) ?_
  refine lv_istore_n (lv' := [(3, .int (nI (0))), (2, .int (nI (0))), (0, .ref (z 0)), (1, .int (nI (1)))]) C.hx C.hb dX3_count_8 rfl hl (by decide) rfl (fun ls hl => ?_)
  refine l3_count (K := K) (L := L) C X hk hs8 r2 j1 (fun ls hl => ?_) _ 0 rfl (Nat.zero_le _) ls (lv_sub hl [0, 1, 2, 3] rfl)
  refine lv_iload_n C.hx C.hb dX3_count_32 rfl (lv_at hl 2 rfl) ?_
  refine lv_tableIn (off := 44) (tgt := 77) C.hx C.hb dX3_count_33 (by decide) (by decide) (by decide) (by decide) ?_
  refine lv_aload_n C.hx C.hb dX3_count_77 rfl (lv_at hl 1 rfl) ?_
  refine x3g_11 C X (x := nI (S.length)) hm dX3_count_78 ?_
  exact ret3_i C X (⟨rfl, rfl, rfl, rfl, rfl, rfl, rfl, rfl⟩) dX3_count_81
set_option maxHeartbeats 4000000 in
set_option maxRecDepth 100000 in
/-- the reference: count -/
theorem c3_count_2 {l : Launch} {E : Gq} {z : Nat → Nat} {v : Nat → Int32} {fk : Nat → Int64} {gl go gi ga : Nat → Nat} {gs : Nat → Int32} {K : List Int64} {L N S P A : List Nat} (h3 : Ctx3 v fk gl go gi ga K L N S P A)  : M3w l E yX3_count cX3_count 4 (some .int) 1 [.ref (z 0), .int (nI (2))] z v fk gl go gi ga gs (fun r v' fk' gl' go' gi' ga' gs' => some (.int (nI (gIx P (S.length - 1) + 1))) = r ∧ upd v 0 (nI 0) = v' ∧ fk = fk' ∧ gl = gl' ∧ go = go' ∧ gi = gi' ∧ ga = ga' ∧ gs = gs') := by
  refine mk_w (by decide) (Nat.le_of_ble_eq_true rfl) ?_
  intro p e s m below meth c ls C Wd hl
  have X : X3w E _ z v fk gl go gi ga gs s s.heap [] := Wd
  have hl : lv_has ls 4 [(0, .ref (z 0)), (1, .int (nI (2)))] := hl
  obtain ⟨hR, hJ, hk, hs8, hm, hbl, hbo, hbi, hba, hso⟩ := id h3
  obtain ⟨r1, r2, r3, r4, r5, r6, r7, r8⟩ := id hR
  obtain ⟨j1, j2, j3, j4, j5, j6, j7, j8⟩ := id hJ
  obtain ⟨k1, k2, k3, k4⟩ := hJ.b
  refine lv_aload_n C.hx C.hb dX3_count_0 rfl (lv_at hl 0 rfl) ?_
  refine lv_iconst (v := nI (0)) C.hx C.hb dX3_count_1 (by decide) ?_
  refine x3p_0 C X dX3_count_2 (fun H locs X => ?_)
  have h3 : Ctx3 (upd v 0 (nI 0)) fk gl go gi ga K L N S P A := h3
  refine lv_iconst (v := nI (0)) C.hx C.hb dX3_count_5 (by decide) ?_
  refine lv_istore_n (lv' := [(2, .int (nI (0))), (0, .ref (z 0)), (1, .int (nI (2)))]) C.hx C.hb dX3_count_6 rfl hl (by decide) rfl (fun ls hl => ?_)
  refine lv_iconst (v := nI (0)) C.hx C.hb dX3_count_7 (by decide) ?_
  refine lv_istore_n (lv' := [(3, .int (nI (0))), (2, .int (nI (0))), (0, .ref (z 0)), (1, .int (nI (2)))]) C.hx C.hb dX3_count_8 rfl hl (by decide) rfl (fun ls hl => ?_)
  refine l3_count (K := K) (L := L) C X hk hs8 r2 j1 (fun ls hl => ?_) _ 0 rfl (Nat.zero_le _) ls (lv_sub hl [0, 1, 2, 3] rfl)
  refine lv_iload_n C.hx C.hb dX3_count_32 rfl (lv_at hl 2 rfl) ?_
  refine lv_tableIn (off := 49) (tgt := 82) C.hx C.hb dX3_count_33 (by decide) (by decide) (by decide) (by decide) ?_
  refine lv_aload_n C.hx C.hb dX3_count_82 rfl (lv_at hl 1 rfl) ?_
  refine lv_aload_n C.hx C.hb dX3_count_83 rfl (lv_at hl 1 rfl) ?_
  refine x3g_11 C X (x := nI (S.length)) hm dX3_count_84 ?_
  refine lv_iconst (v := nI (1)) C.hx C.hb dX3_count_87 (by decide) ?_
  refine n_sub C dX3_count_88 (by first | omega | exact hbo _ | exact hbi _ | exact hba _ | exact hbl _) ?_
  refine x3_cr (As := [.int (nI (S.length - 1))]) (rest := []) C X (c3_areaOf (i := S.length - 1) h3 (by omega)) wy_X3_areaOf ts_42 tw_515 rfl ⟨by decide, by decide⟩ rfl hl.1 rfl (Nat.le_of_ble_eq_true rfl) ⟨Nat.le_refl _, Nat.le_refl _⟩ dX3_count_89 (fun r hp => ?_)
  subst hp
  refine W.eq (g2 := F0 m 92 ls [.int (nI (gIx P (S.length - 1)))]) rfl ?_
  refine lv_iconst (v := nI (1)) C.hx C.hb dX3_count_92 (by decide) ?_
  refine n_add C dX3_count_93 ?_
  exact ret3_i C X (⟨rfl, rfl, rfl, rfl, rfl, rfl, rfl, rfl⟩) dX3_count_94
set_option maxHeartbeats 4000000 in
set_option maxRecDepth 100000 in
/-- the reference: count -/
theorem c3_count_3 {l : Launch} {E : Gq} {z : Nat → Nat} {v : Nat → Int32} {fk : Nat → Int64} {gl go gi ga : Nat → Nat} {gs : Nat → Int32} {K : List Int64} {L N S P A : List Nat} (h3 : Ctx3 v fk gl go gi ga K L N S P A) {cl : Nat} (d17 : v 17 = nI cl) (hcl : cl ≤ 1) : M3w l E yX3_count cX3_count 4 (some .int) 1 [.ref (z 0), .int (nI (3))] z v fk gl go gi ga gs (fun r v' fk' gl' go' gi' ga' gs' => some (.int (nI cl)) = r ∧ upd v 0 (nI 0) = v' ∧ fk = fk' ∧ gl = gl' ∧ go = go' ∧ gi = gi' ∧ ga = ga' ∧ gs = gs') := by
  refine mk_w (by decide) (Nat.le_of_ble_eq_true rfl) ?_
  intro p e s m below meth c ls C Wd hl
  have X : X3w E _ z v fk gl go gi ga gs s s.heap [] := Wd
  have hl : lv_has ls 4 [(0, .ref (z 0)), (1, .int (nI (3)))] := hl
  obtain ⟨hR, hJ, hk, hs8, hm, hbl, hbo, hbi, hba, hso⟩ := id h3
  obtain ⟨r1, r2, r3, r4, r5, r6, r7, r8⟩ := id hR
  obtain ⟨j1, j2, j3, j4, j5, j6, j7, j8⟩ := id hJ
  obtain ⟨k1, k2, k3, k4⟩ := hJ.b
  refine lv_aload_n C.hx C.hb dX3_count_0 rfl (lv_at hl 0 rfl) ?_
  refine lv_iconst (v := nI (0)) C.hx C.hb dX3_count_1 (by decide) ?_
  refine x3p_0 C X dX3_count_2 (fun H locs X => ?_)
  have h3 : Ctx3 (upd v 0 (nI 0)) fk gl go gi ga K L N S P A := h3
  refine lv_iconst (v := nI (0)) C.hx C.hb dX3_count_5 (by decide) ?_
  refine lv_istore_n (lv' := [(2, .int (nI (0))), (0, .ref (z 0)), (1, .int (nI (3)))]) C.hx C.hb dX3_count_6 rfl hl (by decide) rfl (fun ls hl => ?_)
  refine lv_iconst (v := nI (0)) C.hx C.hb dX3_count_7 (by decide) ?_
  refine lv_istore_n (lv' := [(3, .int (nI (0))), (2, .int (nI (0))), (0, .ref (z 0)), (1, .int (nI (3)))]) C.hx C.hb dX3_count_8 rfl hl (by decide) rfl (fun ls hl => ?_)
  refine l3_count (K := K) (L := L) C X hk hs8 r2 j1 (fun ls hl => ?_) _ 0 rfl (Nat.zero_le _) ls (lv_sub hl [0, 1, 2, 3] rfl)
  refine lv_iload_n C.hx C.hb dX3_count_32 rfl (lv_at hl 2 rfl) ?_
  refine lv_tableIn (off := 62) (tgt := 95) C.hx C.hb dX3_count_33 (by decide) (by decide) (by decide) (by decide) ?_
  refine lv_aload_n C.hx C.hb dX3_count_95 rfl (lv_at hl 1 rfl) ?_
  refine x3g_17 C X (x := nI (cl)) d17 dX3_count_96 ?_
  refine n_if_eq (tgt := 106) C dX3_count_99 (by decide) (by first | omega | exact hbo _ | exact hbi _ | exact hba _ | exact hbl _) (fun c99 => ?_) (fun c99 => ?_)
  · refine lv_iconst (v := nI (0)) C.hx C.hb dX3_count_106 (by decide) ?_
    exact ret3_i C X (⟨by rw [c99], rfl, rfl, rfl, rfl, rfl, rfl, rfl⟩) dX3_count_107
  · refine lv_iconst (v := nI (1)) C.hx C.hb dX3_count_102 (by decide) ?_
    refine lv_goto (tgt := 107) C.hx C.hb dX3_count_103 (by decide) ?_
    exact ret3_i C X (⟨by rw [show cl = 1 by omega], rfl, rfl, rfl, rfl, rfl, rfl, rfl⟩) dX3_count_107
set_option maxHeartbeats 4000000 in
set_option maxRecDepth 100000 in
/-- the reference: count -/
theorem c3_count_4 {l : Launch} {E : Gq} {z : Nat → Nat} {v : Nat → Int32} {fk : Nat → Int64} {gl go gi ga : Nat → Nat} {gs : Nat → Int32} {K : List Int64} {L N S P A : List Nat} (h3 : Ctx3 v fk gl go gi ga K L N S P A)  : M3w l E yX3_count cX3_count 4 (some .int) 1 [.ref (z 0), .int (nI (4))] z v fk gl go gi ga gs (fun r v' fk' gl' go' gi' ga' gs' => some (.int (v 12)) = r ∧ upd v 0 (nI 0) = v' ∧ fk = fk' ∧ gl = gl' ∧ go = go' ∧ gi = gi' ∧ ga = ga' ∧ gs = gs') := by
  refine mk_w (by decide) (Nat.le_of_ble_eq_true rfl) ?_
  intro p e s m below meth c ls C Wd hl
  have X : X3w E _ z v fk gl go gi ga gs s s.heap [] := Wd
  have hl : lv_has ls 4 [(0, .ref (z 0)), (1, .int (nI (4)))] := hl
  obtain ⟨hR, hJ, hk, hs8, hm, hbl, hbo, hbi, hba, hso⟩ := id h3
  obtain ⟨r1, r2, r3, r4, r5, r6, r7, r8⟩ := id hR
  obtain ⟨j1, j2, j3, j4, j5, j6, j7, j8⟩ := id hJ
  obtain ⟨k1, k2, k3, k4⟩ := hJ.b
  refine lv_aload_n C.hx C.hb dX3_count_0 rfl (lv_at hl 0 rfl) ?_
  refine lv_iconst (v := nI (0)) C.hx C.hb dX3_count_1 (by decide) ?_
  refine x3p_0 C X dX3_count_2 (fun H locs X => ?_)
  have h3 : Ctx3 (upd v 0 (nI 0)) fk gl go gi ga K L N S P A := h3
  refine lv_iconst (v := nI (0)) C.hx C.hb dX3_count_5 (by decide) ?_
  refine lv_istore_n (lv' := [(2, .int (nI (0))), (0, .ref (z 0)), (1, .int (nI (4)))]) C.hx C.hb dX3_count_6 rfl hl (by decide) rfl (fun ls hl => ?_)
  refine lv_iconst (v := nI (0)) C.hx C.hb dX3_count_7 (by decide) ?_
  refine lv_istore_n (lv' := [(3, .int (nI (0))), (2, .int (nI (0))), (0, .ref (z 0)), (1, .int (nI (4)))]) C.hx C.hb dX3_count_8 rfl hl (by decide) rfl (fun ls hl => ?_)
  refine l3_count (K := K) (L := L) C X hk hs8 r2 j1 (fun ls hl => ?_) _ 0 rfl (Nat.zero_le _) ls (lv_sub hl [0, 1, 2, 3] rfl)
  refine lv_iload_n C.hx C.hb dX3_count_32 rfl (lv_at hl 2 rfl) ?_
  refine lv_tableIn (off := 75) (tgt := 108) C.hx C.hb dX3_count_33 (by decide) (by decide) (by decide) (by decide) ?_
  refine lv_aload_n C.hx C.hb dX3_count_108 rfl (lv_at hl 1 rfl) ?_
  refine x3g_12 C X (x := (upd v 0 (nI (0))) 12) rfl dX3_count_109 ?_
  exact ret3_i C X (⟨rfl, rfl, rfl, rfl, rfl, rfl, rfl, rfl⟩) dX3_count_112
set_option maxHeartbeats 4000000 in
set_option maxRecDepth 100000 in
/-- the reference: count -/
theorem c3_count_5 {l : Launch} {E : Gq} {z : Nat → Nat} {v : Nat → Int32} {fk : Nat → Int64} {gl go gi ga : Nat → Nat} {gs : Nat → Int32} {K : List Int64} {L N S P A : List Nat} (h3 : Ctx3 v fk gl go gi ga K L N S P A)  : M3w l E yX3_count cX3_count 4 (some .int) 1 [.ref (z 0), .int (nI (5))] z v fk gl go gi ga gs (fun r v' fk' gl' go' gi' ga' gs' => some (.int (nI (sm L 0 L.length))) = r ∧ upd v 0 (nI 0) = v' ∧ fk = fk' ∧ gl = gl' ∧ go = go' ∧ gi = gi' ∧ ga = ga' ∧ gs = gs') := by
  refine mk_w (by decide) (Nat.le_of_ble_eq_true rfl) ?_
  intro p e s m below meth c ls C Wd hl
  have X : X3w E _ z v fk gl go gi ga gs s s.heap [] := Wd
  have hl : lv_has ls 4 [(0, .ref (z 0)), (1, .int (nI (5)))] := hl
  obtain ⟨hR, hJ, hk, hs8, hm, hbl, hbo, hbi, hba, hso⟩ := id h3
  obtain ⟨r1, r2, r3, r4, r5, r6, r7, r8⟩ := id hR
  obtain ⟨j1, j2, j3, j4, j5, j6, j7, j8⟩ := id hJ
  obtain ⟨k1, k2, k3, k4⟩ := hJ.b
  refine lv_aload_n C.hx C.hb dX3_count_0 rfl (lv_at hl 0 rfl) ?_
  refine lv_iconst (v := nI (0)) C.hx C.hb dX3_count_1 (by decide) ?_
  refine x3p_0 C X dX3_count_2 (fun H locs X => ?_)
  have h3 : Ctx3 (upd v 0 (nI 0)) fk gl go gi ga K L N S P A := h3
  refine lv_iconst (v := nI (0)) C.hx C.hb dX3_count_5 (by decide) ?_
  refine lv_istore_n (lv' := [(2, .int (nI (0))), (0, .ref (z 0)), (1, .int (nI (5)))]) C.hx C.hb dX3_count_6 rfl hl (by decide) rfl (fun ls hl => ?_)
  refine lv_iconst (v := nI (0)) C.hx C.hb dX3_count_7 (by decide) ?_
  refine lv_istore_n (lv' := [(3, .int (nI (0))), (2, .int (nI (0))), (0, .ref (z 0)), (1, .int (nI (5)))]) C.hx C.hb dX3_count_8 rfl hl (by decide) rfl (fun ls hl => ?_)
  refine l3_count (K := K) (L := L) C X hk hs8 r2 j1 (fun ls hl => ?_) _ 0 rfl (Nat.zero_le _) ls (lv_sub hl [0, 1, 2, 3] rfl)
  refine lv_iload_n C.hx C.hb dX3_count_32 rfl (lv_at hl 2 rfl) ?_
  refine lv_tableIn (off := 80) (tgt := 113) C.hx C.hb dX3_count_33 (by decide) (by decide) (by decide) (by decide) ?_
  refine lv_iload_n C.hx C.hb dX3_count_113 rfl (lv_at hl 0 rfl) ?_
  exact ret3_i C X (⟨rfl, rfl, rfl, rfl, rfl, rfl, rfl, rfl⟩) dX3_count_114
set_option maxHeartbeats 4000000 in
set_option maxRecDepth 100000 in
/-- the reference: count -/
theorem c3_count_x {l : Launch} {E : Gq} {z : Nat → Nat} {v : Nat → Int32} {fk : Nat → Int64} {gl go gi ga : Nat → Nat} {gs : Nat → Int32} {K : List Int64} {L N S P A : List Nat} (h3 : Ctx3 v fk gl go gi ga K L N S P A) {what : Int32} (hsw : what.toInt < 0 ∨ 5 < what.toInt) : M3w l E yX3_count cX3_count 4 (some .int) 1 [.ref (z 0), .int (what)] z v fk gl go gi ga gs (fun r v' fk' gl' go' gi' ga' gs' => some (.int (-1)) = r ∧ upd v 0 (nI 0) = v' ∧ fk = fk' ∧ gl = gl' ∧ go = go' ∧ gi = gi' ∧ ga = ga' ∧ gs = gs') := by
  refine mk_w (by decide) (Nat.le_of_ble_eq_true rfl) ?_
  intro p e s m below meth c ls C Wd hl
  have X : X3w E _ z v fk gl go gi ga gs s s.heap [] := Wd
  have hl : lv_has ls 4 [(0, .ref (z 0)), (1, .int (what))] := hl
  obtain ⟨hR, hJ, hk, hs8, hm, hbl, hbo, hbi, hba, hso⟩ := id h3
  obtain ⟨r1, r2, r3, r4, r5, r6, r7, r8⟩ := id hR
  obtain ⟨j1, j2, j3, j4, j5, j6, j7, j8⟩ := id hJ
  obtain ⟨k1, k2, k3, k4⟩ := hJ.b
  refine lv_aload_n C.hx C.hb dX3_count_0 rfl (lv_at hl 0 rfl) ?_
  refine lv_iconst (v := nI (0)) C.hx C.hb dX3_count_1 (by decide) ?_
  refine x3p_0 C X dX3_count_2 (fun H locs X => ?_)
  have h3 : Ctx3 (upd v 0 (nI 0)) fk gl go gi ga K L N S P A := h3
  refine lv_iconst (v := nI (0)) C.hx C.hb dX3_count_5 (by decide) ?_
  refine lv_istore_n (lv' := [(2, .int (nI (0))), (0, .ref (z 0)), (1, .int (what))]) C.hx C.hb dX3_count_6 rfl hl (by decide) rfl (fun ls hl => ?_)
  refine lv_iconst (v := nI (0)) C.hx C.hb dX3_count_7 (by decide) ?_
  refine lv_istore_n (lv' := [(3, .int (nI (0))), (2, .int (nI (0))), (0, .ref (z 0)), (1, .int (what))]) C.hx C.hb dX3_count_8 rfl hl (by decide) rfl (fun ls hl => ?_)
  refine l3_count (K := K) (L := L) C X hk hs8 r2 j1 (fun ls hl => ?_) _ 0 rfl (Nat.zero_le _) ls (lv_sub hl [0, 1, 2, 3] rfl)
  refine lv_iload_n C.hx C.hb dX3_count_32 rfl (lv_at hl 2 rfl) ?_
  refine lv_tableOut (tgt := 115) C.hx C.hb dX3_count_33 hsw (by decide) ?_
  refine lv_iconst (v := (-1)) C.hx C.hb dX3_count_115 (by decide) ?_
  exact ret3_i C X (⟨rfl, rfl, rfl, rfl, rfl, rfl, rfl, rfl⟩) dX3_count_116
