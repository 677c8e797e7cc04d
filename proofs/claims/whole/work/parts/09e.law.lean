theorem Cpl.mono {rm wd lr lw lq B B' : Nat} {v2 : Nat → Int32} {kd : Nat} {K : List Int64} {L N S P : List Nat} {v : Nat → Int32} {fk : Nat → Int64} {gl go gi ga : Nat → Nat} {gs : Nat → Int32} (h : Cpl rm wd lr lw lq B v2 kd K L N S P v fk gl go gi ga gs) (hB : B ≤ B') : Cpl rm wd lr lw lq B' v2 kd K L N S P v fk gl go gi ga gs := by
  obtain ⟨nx, ac, tc, cl, hr, cp, A, hC, hS, hcl, h1, h2⟩ := h
  exact ⟨nx, ac, tc, cl, hr, cp, A, hC, hS, hcl, by omega, by omega⟩
theorem sub4 {Ls i : Nat} (hL : Ls ≤ 2052) (hi : i ≤ 10000) (h : ¬ nI Ls - nI 4 < nI i) : i + 4 ≤ Ls := by
  rw [Int32.lt_iff_toInt_lt, Int32.toInt_sub, nI_toInt (by omega), nI_toInt (by decide), nI_toInt (by omega)] at h
  rw [Int.bmod_eq_of_le (by omega) (by omega)] at h
  omega
theorem S_pos {K : List Int64} {L N S P : List Nat} (hJ : J2 K L N S P) (h0 : K.length ≠ 0) {j : Nat} (hj : j < S.length) : 1 ≤ S.getD j 0 := by
  obtain ⟨j1, j2, j3, j4, j5, j6, j7, j8⟩ := hJ
  rcases j7 with h | h
  · match S, h, hj, j3 with
    | [x], _, hj, j3 =>
      have : j = 0 := by simp at hj; omega
      subst this
      simp at j3
      show 1 ≤ x
      omega
  · exact h _ (getD_mem hj)
set_option maxHeartbeats 4000000 in
set_option maxRecDepth 100000 in
theorem l_loop {p : Program} {l : Launch} {e : Env} {s : State} {m : MethodId} {below : List Frame} {meth : Method} {c : Code} {Q : State → Prop} {b Ls : Nat} {xs : Nat → Int32} {E : Gq} {z2 z3 : Nat → Nat} {ao : Nat} {rm wd lr lw lq : Nat} (C : Cx E p s m #[Value.ref b] meth c cL_law 7 (some .boolean) RL (va_A [] s.heap.size)) (hLs : Ls ≤ 2052) (hX : va_X b Ls xs s s.heap) (hbl : b < s.heap.size) (hp : Par rm wd lr lw lq) (hT : TQ (va_A [] s.heap.size) s s.heap) (hcw : (Cond.codeWith yL_index cL_index 5 (some .int) [(0, 10, 13, 13)]).before #[Value.ref b] s = true) (hfl : ∀ e, l.admits e → e.platform.stackTraces = false) (hend : ∀ (H : Heap) (locs : List Loc) (cells slots : Nat) (ls : Array Slot), va_S (va_A [] s.heap.size) s.heap H locs → cells ≤ 601024 → slots ≤ 7293000 → W p l e room_1 s m #[Value.ref b] below meth c H locs cells slots Q (F0 m 635 ls [])) : ∀ (n t : Nat), n + t = 513 → ∀ (cells slots : Nat) (g : Nat → Int64) (v2 : Nat → Int32) (kd : Nat) (K : List Int64) (L N S P : List Nat) (v : Nat → Int32) (fk : Nat → Int64) (gl go gi ga : Nat → Nat) (gs : Nat → Int32) (H : Heap) (locs : List Loc), cells ≤ 19 + t → slots ≤ 7460 + 6 * t → LX E (va_A [] s.heap.size) z2 z3 ao g v2 kd K L N S P v fk gl go gi ga gs s H locs → Cpl rm wd lr lw lq (3 + 2500 * t) v2 kd K L N S P v fk gl go gi ga gs → K.length ≤ t → ∀ ls : Array Slot, lv_has ls 7 [(4, .int (nI (4 + 4 * t))), (3, .ref ao), (2, .ref (z3 0)), (1, .ref (z2 0)), (0, .ref b)] → W p l e room_1 s m #[Value.ref b] below meth c H locs cells slots Q (F0 m 63 ls []) := by
  intro n
  induction n with
  | zero =>
    intro t hnt cells slots g v2 kd K L N S P v fk gl go gi ga gs H locs hcs hss X hC hk ls hl
    refine lv_iload C.hx C.hb dL_law_63 (lv_at hl 0 rfl) ?_
    refine lv_aload_n C.hx C.hb dL_law_65 rfl (lv_at hl 4 rfl) ?_
    refine va_slen C.hx C.hb hX hbl (notA hbl) X.S dL_law_66 ?_
    refine lv_iconst (v := nI 4) C.hx C.hb dL_law_67 (by decide) ?_
    refine lv_isub C.hx C.hb dL_law_68 ?_
    refine lv_icmp_gt (tgt := 635) C.hx C.hb dL_law_69 (by decide) (fun c69 => ?_) (fun c69 => ?_)
    · exact hend H locs cells slots ls X.S (by omega) (by omega)
    · have := sub4 hLs (by omega) c69
      omega
  | succ n ih =>
    intro t hnt cells slots g v2 kd K L N S P v fk gl go gi ga gs H locs hcs hss X hC hk ls hl
    refine lv_iload C.hx C.hb dL_law_63 (lv_at hl 0 rfl) ?_
    refine lv_aload_n C.hx C.hb dL_law_65 rfl (lv_at hl 4 rfl) ?_
    refine va_slen C.hx C.hb hX hbl (notA hbl) X.S dL_law_66 ?_
    refine lv_iconst (v := nI 4) C.hx C.hb dL_law_67 (by decide) ?_
    refine lv_isub C.hx C.hb dL_law_68 ?_
    refine lv_icmp_gt (tgt := 635) C.hx C.hb dL_law_69 (by decide) (fun c69 => ?_) (fun c69 => ?_)
    · exact hend H locs cells slots ls X.S (by omega) (by omega)
    · have ht := sub4 hLs (by omega) c69
      have ht : 4 * t + 8 ≤ Ls := by omega
      have nxt : ∀ (cells' slots' : Nat) (g' : Nat → Int64) (v2' : Nat → Int32) (kd' : Nat) (K' : List Int64) (L' N' S' P' : List Nat) (v' : Nat → Int32) (fk' : Nat → Int64) (gl' go' gi' ga' : Nat → Nat) (gs' : Nat → Int32) (H1 : Heap) (locs1 : List Loc), cells' ≤ cells + 1 → slots' ≤ slots + 6 → LX E (va_A [] s.heap.size) z2 z3 ao g' v2' kd' K' L' N' S' P' v' fk' gl' go' gi' ga' gs' s H1 locs1 → Cpl rm wd lr lw lq (3 + 2500 * t + 2500) v2' kd' K' L' N' S' P' v' fk' gl' go' gi' ga' gs' → K'.length ≤ K.length + 1 → ∀ ls : Array Slot, lv_has ls 7 [(4, .int (nI (4 + 4 * t))), (3, .ref ao), (2, .ref (z3 0)), (1, .ref (z2 0)), (0, .ref b)] → W p l e room_1 s m #[Value.ref b] below meth c H1 locs1 cells' slots' Q (F0 m 629 ls []) := by
        intro cells' slots' g' v2' kd' K' L' N' S' P' v' fk' gl' go' gi' ga' gs' H1 locs1 h1 h2 X hC hk ls hl
        refine lv_iinc (v := nI (4 + 4 * (t + 1))) (lv' := [(4, .int (nI (4 + 4 * (t + 1)))), (3, .ref ao), (2, .ref (z3 0)), (1, .ref (z2 0)), (0, .ref b)]) C.hx C.hb dL_law_629 hl (k := 0) rfl (nI_add _ 4) (by decide) rfl (fun ls hl => ?_)
        refine lv_goto (tgt := 63) C.hx C.hb dL_law_632 (by decide) ?_
        exact ih (t + 1) (by omega) cells' slots' g' v2' kd' K' L' N' S' P' v' fk' gl' go' gi' ga' gs' H1 locs1 (by omega) (by omega) X (hC.mono (by omega)) (by omega) ls hl
      refine lv_aload_n C.hx C.hb dL_law_72 rfl (lv_at hl 4 rfl) ?_
      refine lv_iload C.hx C.hb dL_law_73 (lv_at hl 0 rfl) ?_
      refine va_sld C.hx C.hb hX hbl (notA hbl) X.S (vp_in_nI (by omega) (by omega)) dL_law_75 ?_
      refine lv_bipush (v := nI 15) C.hx C.hb dL_law_76 (by decide) ?_
      refine lv_iand C.hx C.hb dL_law_78 ?_
      rcases i_cases (xs (nI (4 + 4 * t)).toNatClampNeg &&& nI 15) 12 with hx | ⟨q, hq, eq⟩
      · refine lv_tableOut (tgt := 629) C.hx C.hb dL_law_79 hx (by decide) ?_
        exact nxt cells slots g v2 kd K L N S P v fk gl go gi ga gs H locs (by omega) (by omega) X (hC.mono (by omega)) (Nat.le_succ _) ls hl
      · refine n_re eq ?_
        have hq13 : q = 0 ∨ q = 1 ∨ q = 2 ∨ q = 3 ∨ q = 4 ∨ q = 5 ∨ q = 6 ∨ q = 7 ∨ q = 8 ∨ q = 9 ∨ q = 10 ∨ q = 11 ∨ q = 12 := by omega
        rcases hq13 with rfl | rfl | rfl | rfl | rfl | rfl | rfl | rfl | rfl | rfl | rfl | rfl | rfl
        · refine lv_tableIn (off := 65) (tgt := 144) C.hx C.hb dL_law_79 (by decide) (by decide) (by decide) (by decide) ?_
          exact lc_put C hLs hX hbl ht hp X hC (by omega) (by omega) (by omega) (by omega) nxt ls hl
        · refine lv_tableIn (off := 134) (tgt := 213) C.hx C.hb dL_law_79 (by decide) (by decide) (by decide) (by decide) ?_
          exact lc_find C hLs hX hbl ht hp X hC (by omega) (by omega) (by omega) (by omega) nxt ls hl
        · refine lv_tableIn (off := 191) (tgt := 270) C.hx C.hb dL_law_79 (by decide) (by decide) (by decide) (by decide) ?_
          exact lc_next C hLs hX hbl ht hp X hC (by omega) (by omega) (by omega) (by omega) nxt ls hl
        · refine lv_tableIn (off := 248) (tgt := 327) C.hx C.hb dL_law_79 (by decide) (by decide) (by decide) (by decide) ?_
          exact lc_remove C hLs hX hbl ht hp X hC (by omega) (by omega) (by omega) (by omega) nxt ls hl
        · refine lv_tableIn (off := 305) (tgt := 384) C.hx C.hb dL_law_79 (by decide) (by decide) (by decide) (by decide) ?_
          exact lc_interval C hLs hX hbl ht hp X hC (by omega) (by omega) (by omega) (by omega) nxt ls hl
        · refine lv_tableIn (off := 342) (tgt := 421) C.hx C.hb dL_law_79 (by decide) (by decide) (by decide) (by decide) ?_
          exact lc_cut C hLs hX hbl ht hp X hC (by omega) (by omega) (by omega) (by omega) nxt ls hl
        · refine lv_tableIn (off := 367) (tgt := 446) C.hx C.hb dL_law_79 (by decide) (by decide) (by decide) (by decide) ?_
          exact lc_open C hLs hX hbl ht hp X hC (by omega) (by omega) (by omega) (by omega) nxt ls hl
        · refine lv_tableIn (off := 380) (tgt := 459) C.hx C.hb dL_law_79 (by decide) (by decide) (by decide) (by decide) ?_
          exact lc_split C hLs hX hbl ht hp X hC (by omega) (by omega) (by omega) (by omega) nxt ls hl
        · refine lv_tableIn (off := 405) (tgt := 484) C.hx C.hb dL_law_79 (by decide) (by decide) (by decide) (by decide) ?_
          have hJ : J2 K L N S P := by
            obtain ⟨nx, ac, tc, cl, hr, cp, A, hCo, -⟩ := hC
            exact hCo.2.1
          obtain ⟨k1, k2, k3, k4⟩ := hJ.b
          by_cases hb0 : xs (4 + 4 * t + 1) = 0 ∧ hld S.length (xs (4 + 4 * t + 2)) ≠ 0
          · rcases hld_c S.length (xs (4 + 4 * t + 2)) (by omega) with h | ⟨j, hj, hij⟩
            · exact absurd h hb0.2
            · by_cases h0 : K.length = 0
              · exact lc_index_0e C hLs hX hbl ht hp X hC (by omega) (by omega) (by omega) (by omega) hT hcw hj h0 hb0.1 hij nxt ls hl
              · exact lc_index_0 C hLs hX hbl ht hp X hC (by omega) (by omega) (by omega) (by omega) hT hcw hj (S_pos hJ h0 hj) hb0.1 hij nxt ls hl
          · by_cases hb1 : xs (4 + 4 * t + 1) = 1 ∧ hld P.length (xs (4 + 4 * t + 2)) ≠ 0
            · rcases hld_c P.length (xs (4 + 4 * t + 2)) (by omega) with h | ⟨j, hj, hij⟩
              · exact absurd h hb1.2
              · have hpj := sm0_lt hJ.2.2.2.2.2.1 hj
                have hj4 := hJ.2.2.2.1
                by_cases h0 : K.length = 0
                · exact lc_index_1e C hLs hX hbl ht hp X hC (by omega) (by omega) (by omega) (by omega) hT hcw hj h0 hb1.1 hij nxt ls hl
                · exact lc_index_1 C hLs hX hbl ht hp X hC (by omega) (by omega) (by omega) (by omega) hT hcw hj (S_pos hJ h0 (by omega)) hb1.1 hij nxt ls hl
            · exact lc_index_x C hLs hX hbl ht hp X hC (by omega) (by omega) (by omega) (by omega) hT hcw hfl hb0 hb1 nxt ls hl
        · refine lv_tableIn (off := 473) (tgt := 552) C.hx C.hb dL_law_79 (by decide) (by decide) (by decide) (by decide) ?_
          exact lc_verify C hLs hX hbl ht hp X hC (by omega) (by omega) (by omega) (by omega) nxt ls hl
        · refine lv_tableIn (off := 486) (tgt := 565) C.hx C.hb dL_law_79 (by decide) (by decide) (by decide) (by decide) ?_
          exact lc_reorganise C hLs hX hbl ht hp X hC (by omega) (by omega) (by omega) (by omega) nxt ls hl
        · refine lv_tableIn (off := 499) (tgt := 578) C.hx C.hb dL_law_79 (by decide) (by decide) (by decide) (by decide) ?_
          exact lc_order C hLs hX hbl ht hp X hC (by omega) (by omega) (by omega) (by omega) nxt ls hl
        · refine lv_tableIn (off := 525) (tgt := 604) C.hx C.hb dL_law_79 (by decide) (by decide) (by decide) (by decide) ?_
          exact lc_count C hLs hX hbl ht hp X hC (by omega) (by omega) (by omega) (by omega) nxt ls hl
theorem par_of (x1 x2 x3 x4 : Int32) : Par (hd x1 1 1000) (hd x2 2 20) (hd x1 1 1000 * hd x3 1 (hd x4 1 100) / hd x4 1 100) (max 1 (hd x2 2 20 * hd x3 1 (hd x4 1 100) / hd x4 1 100)) (hd x2 2 20 * hd x3 1 (hd x4 1 100) / hd x4 1 100) := by
  have q1 := hd_b (x := x4) (lo := 1) (hi := 100) (by decide) (by decide)
  have q2 := hd_b (x := x3) (lo := 1) (hi := hd x4 1 100) q1.1 (by omega)
  have q3 := hd_b (x := x1) (lo := 1) (hi := 1000) (by decide) (by decide)
  have q4 := hd_b (x := x2) (lo := 2) (hi := 20) (by decide) (by decide)
  have d1 : hd x1 1 1000 * hd x3 1 (hd x4 1 100) / hd x4 1 100 ≤ hd x1 1 1000 := Nat.div_le_of_le_mul (by rw [Nat.mul_comm (hd x4 1 100)]; exact Nat.mul_le_mul_left _ q2.2)
  have d2 : hd x2 2 20 * hd x3 1 (hd x4 1 100) / hd x4 1 100 ≤ hd x2 2 20 := Nat.div_le_of_le_mul (by rw [Nat.mul_comm (hd x4 1 100)]; exact Nat.mul_le_mul_left _ q2.2)
  exact ⟨q3.1, q3.2, q4.1, q4.2, d1, rfl, by omega⟩
set_option maxHeartbeats 4000000 in
set_option maxRecDepth 100000 in
/-- from the entry, for every script of at most 2052 ints, the law comes to its end with true -/
theorem whole_start {p : Program} {e : Env} {s : State} {m : MethodId} {below : List Frame} {meth : Method} {c : Code} (l : Launch) (hfl : ∀ e, l.admits e → e.platform.stackTraces = false) {b L : Nat} {xs : Nat → Int32} (hL : L ≤ 2052) (C0 : lw_At p s m meth c b L xs) : W p l e room_1 s m #[Value.ref b] below meth c s.heap [] 0 0 (lw_Z below #[Value.ref b] s) (entryFrame m ([Value.ref b] : List Value).toArray 7) := by
  obtain ⟨E, C⟩ := law_cx C0
  obtain ⟨-, -, -, -, -, hts, hX, hbl, -, hg⟩ := C0
  have hT := law_tq hts hg
  have hcw := hts _ cw_x
  have hl := lv_entry ([.ref b] : List Value) (n := 7) (Nat.le_of_ble_eq_true rfl)
  rw [lg_entry_eq]
  generalize (lg_sl ([.ref b] : List Value) ++ List.replicate (7 - (lg_sl ([.ref b] : List Value)).length) Slot.unset).toArray = ls at hl ⊢
  have hl : lv_has ls 7 [(0, .ref b)] := hl
  have Wd : Wl E (va_A [] s.heap.size) [] s s.heap [] := ⟨fun k q hq => absurd hq (by simp), ⟨fun i j x y hi => absurd hi (by simp), fun k q hq => absurd hq (by simp)⟩, va_S.rf⟩
  have hend : ∀ (H : Heap) (locs : List Loc) (cells slots : Nat) (ls : Array Slot), va_S (va_A [] s.heap.size) s.heap H locs → cells ≤ 601024 → slots ≤ 7293000 → W p l e room_1 s m #[Value.ref b] below meth c H locs cells slots (lw_Z below #[Value.ref b] s) (F0 m 635 ls []) := by
    intro H locs cells slots ls hS hc hs
    refine lv_iconst (v := 1) C.hx C.hb dL_law_635 (by decide) ?_
    refine w_widen (fun q hq => ?_) hc hs (lw_ret C.hx C.hb C.hr C.hlk dL_law_636)
    rcases hS.2.2 q hq with ⟨k, e, h⟩ | h
    · cases h
    · exact h
  generalize hx1 : (if 0 < L then xs 0 else 0) = x1
  generalize hx2 : (if 1 < L then xs 1 else 0) = x2
  generalize hx3 : (if 2 < L then xs 2 else 0) = x3
  generalize hx4 : (if 3 < L then xs 3 else 0) = x4
  refine newO C Wd (ci := 2) (fs := d19) tyX2 rfl in_X2 tyX2_ok tw_13 tw_14 tw_1 (by decide +kernel) (by decide) (by decide) dL_law_0 (fun q2 H Wd => ?_)
  refine lv_dup C.hx C.hb dL_law_3 rfl ?_
  refine lv_aload_n C.hx C.hb dL_law_4 rfl (lv_at hl 0 rfl) ?_
  refine lv_iconst (v := nI 0) C.hx C.hb dL_law_5 (by decide) ?_
  refine l_cell (k := 0) hL (by decide) C Wd hX hbl (notA hbl) ⟨by decide, by decide⟩ hl.1 (Nat.le_of_ble_eq_true rfl) ⟨by decide, by decide⟩ dL_law_6 ?_
  rw [hx1]
  refine lv_aload_n C.hx C.hb dL_law_9 rfl (lv_at hl 0 rfl) ?_
  refine lv_iconst (v := nI 1) C.hx C.hb dL_law_10 (by decide) ?_
  refine l_cell (k := 1) hL (by decide) C Wd hX hbl (notA hbl) ⟨by decide, by decide⟩ hl.1 (Nat.le_of_ble_eq_true rfl) ⟨by decide, by decide⟩ dL_law_11 ?_
  rw [hx2]
  refine lv_aload_n C.hx C.hb dL_law_14 rfl (lv_at hl 0 rfl) ?_
  refine lv_iconst (v := nI 2) C.hx C.hb dL_law_15 (by decide) ?_
  refine l_cell (k := 2) hL (by decide) C Wd hX hbl (notA hbl) ⟨by decide, by decide⟩ hl.1 (Nat.le_of_ble_eq_true rfl) ⟨by decide, by decide⟩ dL_law_16 ?_
  rw [hx3]
  refine lv_aload_n C.hx C.hb dL_law_19 rfl (lv_at hl 0 rfl) ?_
  refine lv_iconst (v := nI 3) C.hx C.hb dL_law_20 (by decide) ?_
  refine l_cell (k := 3) hL (by decide) C Wd hX hbl (notA hbl) ⟨by decide, by decide⟩ hl.1 (Nat.le_of_ble_eq_true rfl) ⟨by decide, by decide⟩ dL_law_21 ?_
  rw [hx4]
  refine call_w C Wd (runI (As := [.int x1, .int x2, .int x3, .int x4]) (rest := [.ref q2]) C Wd c2_init wy_X2_init rfl tw_15 ⟨by decide, by decide⟩ rfl hl.1 rfl (Nat.le_of_ble_eq_true rfl) dL_law_24 ⟨by decide, by decide⟩) (fun r ws' H locs hp2 Wd => ?_)
  obtain ⟨z2, f, v2, rfl, rfl, rfl, hok, hv2⟩ := hp2
  refine W.eq (g2 := F0 m 27 ls [.ref (z2 0)]) rfl ?_
  refine lv_astore_n (lv' := [(1, .ref (z2 0)), (0, .ref b)]) C.hx C.hb dL_law_27 rfl hl (by decide) rfl (fun ls hl => ?_)
  refine newO C Wd (ci := 3) (fs := d20) tyX3 rfl in_X3 tyX3_ok tw_356 tw_357 tw_7 (by decide +kernel) (by decide) (by decide) dL_law_28 (fun q3 H Wd => ?_)
  refine lv_dup C.hx C.hb dL_law_31 rfl ?_
  refine lv_aload_n C.hx C.hb dL_law_32 rfl (lv_at hl 1 rfl) ?_
  refine lv_iconst (v := nI 0) C.hx C.hb dL_law_33 (by decide) ?_
  refine l_cell (k := 0) hL (by decide) C Wd hX hbl (notA hbl) ⟨by decide, by decide⟩ hl.1 (Nat.le_of_ble_eq_true rfl) ⟨by decide, by decide⟩ dL_law_34 ?_
  rw [hx1]
  refine lv_aload_n C.hx C.hb dL_law_37 rfl (lv_at hl 1 rfl) ?_
  refine lv_iconst (v := nI 1) C.hx C.hb dL_law_38 (by decide) ?_
  refine l_cell (k := 1) hL (by decide) C Wd hX hbl (notA hbl) ⟨by decide, by decide⟩ hl.1 (Nat.le_of_ble_eq_true rfl) ⟨by decide, by decide⟩ dL_law_39 ?_
  rw [hx2]
  refine lv_aload_n C.hx C.hb dL_law_42 rfl (lv_at hl 1 rfl) ?_
  refine lv_iconst (v := nI 2) C.hx C.hb dL_law_43 (by decide) ?_
  refine l_cell (k := 2) hL (by decide) C Wd hX hbl (notA hbl) ⟨by decide, by decide⟩ hl.1 (Nat.le_of_ble_eq_true rfl) ⟨by decide, by decide⟩ dL_law_44 ?_
  rw [hx3]
  refine lv_aload_n C.hx C.hb dL_law_47 rfl (lv_at hl 1 rfl) ?_
  refine lv_iconst (v := nI 3) C.hx C.hb dL_law_48 (by decide) ?_
  refine l_cell (k := 3) hL (by decide) C Wd hX hbl (notA hbl) ⟨by decide, by decide⟩ hl.1 (Nat.le_of_ble_eq_true rfl) ⟨by decide, by decide⟩ dL_law_49 ?_
  rw [hx4]
  refine call_w2 (wc := [(q3, .inr (3, d20))]) C Wd.swap (runI (As := [.int x1, .int x2, .int x3, .int x4]) (rest := [.ref q3]) C Wd.swap.left c3_init wy_X3_init rfl tw_358 ⟨by decide, by decide⟩ rfl hl.1 rfl (Nat.le_of_ble_eq_true rfl) dL_law_52 ⟨by decide, by decide⟩) (fun r ws' H locs hp3 Wd => ?_)
  obtain ⟨z3, v, rfl, rfl, rfl, hv3⟩ := hp3
  refine W.eq (g2 := F0 m 55 ls [.ref (z3 0)]) rfl ?_
  refine lv_astore_n (lv' := [(2, .ref (z3 0)), (1, .ref (z2 0)), (0, .ref b)]) C.hx C.hb dL_law_55 rfl hl (by decide) rfl (fun ls hl => ?_)
  refine lv_iconst (v := nI 1) C.hx C.hb dL_law_56 (by decide) ?_
  refine newJ C Wd.swap (N := 1) (by decide) (by decide) (by decide) dL_law_57 (fun ao H Wd => ?_)
  refine lv_astore_n (lv' := [(3, .ref ao), (2, .ref (z3 0)), (1, .ref (z2 0)), (0, .ref b)]) C.hx C.hb dL_law_59 rfl hl (by decide) rfl (fun ls hl => ?_)
  refine lv_iconst (v := nI 4) C.hx C.hb dL_law_60 (by decide) ?_
  refine lv_istore (lv' := [(4, .int (nI 4)), (3, .ref ao), (2, .ref (z3 0)), (1, .ref (z2 0)), (0, .ref b)]) C.hx C.hb dL_law_61 hl (by decide) rfl (fun ls hl => ?_)
  exact l_loop C hL hX hbl (par_of x1 x2 x3 x4) hT hcw hfl hend 513 0 rfl _ _ (fun _ => 0) _ _ _ _ _ _ _ _ _ _ _ _ _ _ _ _ (by decide) (by decide) ⟨f, Wd.csa, hok⟩ (Cpl.new (par_of x1 x2 x3 x4) hv2 hv3) (Nat.le_refl _) ls hl
