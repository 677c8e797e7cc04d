set_option maxHeartbeats 8000000 in
set_option maxRecDepth 100000 in
theorem l3_put {p : Program} {l : Launch} {e : Env} {s : State} {m : MethodId} {args : Array Value} {below : List Frame} {meth : Method} {c : Code} {E : Gq} {ws0 : va_W} {z : Nat → Nat} {rm wd lr lw lq len tc B : Nat} {key : Int64} {T0 : Nat × (Nat → Int32) × Nat × List Int64 × List Nat × List Nat × List Nat × List Nat} (C : Cx E p s m args meth c cX3_put 8 (some .int) RX3 (va_A ws0 s.heap.size)) (hrm : rm ≤ 1000) (hwd : wd ≤ 20) (hw2 : 2 ≤ wd) (hl1 : 1 ≤ len) (hl2 : len ≤ rm) (htc : tc ≤ 4) (hB : B < 2 ^ 30) :
    ∀ (n nx ac : Nat) (v2 : Nat → Int32) (kd : Nat) (K : List Int64) (L N S P A : List Nat) (v : Nat → Int32) (fk : Nat → Int64) (gl go gi ga : Nat → Nat) (gs : Nat → Int32) (H : Heap) (locs : List Loc), Core rm wd nx ac K L N S P A fk gl go gi ga → Sc rm wd lr lw lq nx ac tc 0 0 0 kd v2 v gs K.length S.length → K.length < 600 → ¬ hask K key → nx + n ≤ B → ac + n ≤ B → plc rm wd key len tc n nx v2 kd K L N S P = T0 → 2 * S.getD (pIx K S key) 0 + (if wd ≤ P.getD (gIx P (pIx K S key)) 0 then 1 else 0) < n → X3w E (va_A ws0 s.heap.size) z v fk gl go gi ga gs s H locs →
      ∀ ls : Array Slot, lv_has ls 8 [(0, .ref (z 0)), (1, .long key), (3, .int (nI len))] → W p l e (Rm 3 0 0) s m args below meth c H locs 0 0 (MQ below (Qw E ws0 s.heap.size (P3 E z (fun r v' fk' gl' go' gi' ga' gs' => ∃ (q : Nat) (v2' : Nat → Int32) (kd' : Nat) (K' : List Int64) (L' N' S' P' : List Nat), T0 = (q, v2', kd', K', L', N', S', P') ∧ some (.int (if q = 0 then -5 else nI 1)) = r ∧ Cpl rm wd lr lw lq B v2' kd' K' L' N' S' P' v' fk' gl' go' gi' ga' gs'))) args s 0 0 (va_A ws0 s.heap.size)) (F0 m 50 ls []) := by
  intro n
  induction n with
  | zero =>
    intro nx ac v2 kd K L N S P A v fk gl go gi ga gs H locs hC hS hk hh hnx hac hT hF
    exact absurd hF (Nat.not_lt_zero _)
  | succ n ih =>
    intro nx ac v2 kd K L N S P A v fk gl go gi ga gs H locs hC hS hk hh hnx hac hT hF X ls hl
    obtain ⟨hR, hJ, c1, c2, c3, c4, c5, c6, b1, b2, b3, b4⟩ := id hC
    obtain ⟨a0, a1, a2, a3, a9, a10, a11, a15, a16, a17, a18, d1, d2, d3, d4, d8, d11, d12, d13, d14, d17, ec⟩ := id hS
    obtain ⟨r1, r2, r3, r4, r5, r6, r7, r8⟩ := id hR
    obtain ⟨j1, j2, j3, j4, j5, j6, j7, j8⟩ := id hJ
    obtain ⟨k1, k2, k3, k4⟩ := hJ.b
    have h3 : Ctx3 v fk gl go gi ga K L N S P A := ⟨hR, hJ, by omega, d8, d11, b1, b2, b3, b4, c1⟩
    have hb := pIx_blT hJ c1 key
    have hpb := pIx_b hJ key
    have hng := ngt_le K key
    have hfh := fun (k : Nat) (hk1 : 1 ≤ k) (hk2 : k + 1 ≤ S.getD (pIx K S key) 0) => fuel_h hJ (key := key) rfl hk1 hk2
    simp only [plc] at hT
    generalize hid : pIx K S key = i at hT hb hpb hF hfh
    have hiP : i < P.sum := by omega
    have hgl := gIx_lt hiP
    have hko := kos_c (S := S) (wd := wd) hiP
    rw [gOf_gIx hiP] at hT
    have hll : lin L S i ≤ L.sum := sm_le _ _ _
    have hs0 := sm0_get S i
    have hP1 := j6 _ (getD_mem hgl)
    have hP2 := c2 _ (getD_mem hgl)
    have hbl := b1; have hbo := b2; have hbi := b3; have hba := b4
    rcases Nat.eq_zero_or_pos tc with ht0 | ht0
    · subst ht0
      refine lv_aload_n C.hx C.hb dX3_put_50 rfl (lv_at hl 0 rfl) ?_
      refine lv_lload_n C.hx C.hb dX3_put_51 rfl (lv_at hl 1 rfl) ?_
      refine x3_cr (As := [.long (key)]) (rest := []) C X (c3_belongs h3 hb) wy_X3_belongs ts_31 tw_443 rfl ⟨by decide, by decide⟩ rfl hl.1 rfl (Nat.le_of_ble_eq_true rfl) ⟨Nat.le_refl _, Nat.le_refl _⟩ dX3_put_52 (fun r hp => ?_)
      subst hp
      refine W.eq (g2 := F0 m 55 ls [.int (nI (i))]) rfl ?_
      refine lv_istore (lv' := [(4, .int (nI (i))), (0, .ref (z 0)), (1, .long (key)), (3, .int (nI (len)))]) C.hx C.hb dX3_put_55 hl (by decide) rfl (fun ls hl => ?_)
      refine lv_aload_n C.hx C.hb dX3_put_57 rfl (lv_at hl 1 rfl) ?_
      refine lv_iload C.hx C.hb dX3_put_58 (lv_at hl 0 rfl) ?_
      refine x3_cr (As := [.int (nI (i))]) (rest := []) C X (c3_lengthsOf (i := i) h3 (by omega)) wy_X3_lengthsOf ts_33 tw_451 rfl ⟨by decide, by decide⟩ rfl hl.1 rfl (Nat.le_of_ble_eq_true rfl) ⟨Nat.le_refl _, Nat.le_refl _⟩ dX3_put_60 (fun r hp => ?_)
      subst hp
      refine W.eq (g2 := F0 m 63 ls [.int (nI (lin L S i))]) rfl ?_
      refine lv_iload_n C.hx C.hb dX3_put_63 rfl (lv_at hl 3 rfl) ?_
      refine n_add C dX3_put_64 ?_
      refine lv_aload_n C.hx C.hb dX3_put_65 rfl (lv_at hl 1 rfl) ?_
      refine x3g_1 C X (x := nI (rm)) d1 dX3_put_66 ?_
      refine n_icmp_gt (tgt := 87) C dX3_put_69 (by decide) (by first | omega | exact hbo _ | exact hbi _ | exact hba _ | exact hbl _) (by first | omega | exact hbo _ | exact hbi _ | exact hba _ | exact hbl _) (fun c69 => ?_) (fun c69 => ?_)
      · have hs1 : 1 ≤ S.getD i 0 := by
          rcases Nat.eq_zero_or_pos (S.getD i 0) with q | q
          · exfalso
            have : lin L S i = 0 := by unfold lin; rw [q]; exact sm_end (Or.inl (Nat.le_refl _))
            omega
          · exact q
        rw [if_neg (by omega)] at hT
        refine lv_aload_n C.hx C.hb dX3_put_87 rfl (lv_at hl 1 rfl) ?_
        refine lv_iload C.hx C.hb dX3_put_88 (lv_at hl 0 rfl) ?_
        refine x3_cr (As := [.int (nI (i))]) (rest := []) C X (c3_recordsOf (i := i) h3 (by omega)) wy_X3_recordsOf ts_35 tw_459 rfl ⟨by decide, by decide⟩ rfl hl.1 rfl (Nat.le_of_ble_eq_true rfl) ⟨Nat.le_refl _, Nat.le_refl _⟩ dX3_put_90 (fun r hp => ?_)
        subst hp
        refine W.eq (g2 := F0 m 93 ls [.int (nI (S.getD i 0))]) rfl ?_
        refine lv_iconst (v := nI (1)) C.hx C.hb dX3_put_93 (by decide) ?_
        refine n_icmp_ne (tgt := 101) C dX3_put_94 (by decide) (by first | omega | exact hbo _ | exact hbi _ | exact hba _ | exact hbl _) (by first | omega | exact hbo _ | exact hbi _ | exact hba _ | exact hbl _) (fun c94 => ?_) (fun c94 => ?_)
        · refine lv_iconst (v := nI (0)) C.hx C.hb dX3_put_101 (by decide) ?_
          refine lv_istore (lv' := [(5, .int (nI (0))), (4, .int (nI (i))), (0, .ref (z 0)), (1, .long (key)), (3, .int (nI (len)))]) C.hx C.hb dX3_put_102 hl (by decide) rfl (fun ls hl => ?_)
          refine lv_aload_n C.hx C.hb dX3_put_104 rfl (lv_at hl 2 rfl) ?_
          refine lv_iload C.hx C.hb dX3_put_105 (lv_at hl 1 rfl) ?_
          refine x3_cr (As := [.int (nI (i))]) (rest := []) C X (c3_widthOf (i := i) h3 (by omega)) wy_X3_widthOf ts_36 tw_463 rfl ⟨by decide, by decide⟩ rfl hl.1 rfl (Nat.le_of_ble_eq_true rfl) ⟨Nat.le_refl _, Nat.le_refl _⟩ dX3_put_107 (fun r hp => ?_)
          subst hp
          refine W.eq (g2 := F0 m 110 ls [.int (nI (P.getD (gIx P i) 0))]) rfl ?_
          refine lv_aload_n C.hx C.hb dX3_put_110 rfl (lv_at hl 2 rfl) ?_
          refine x3g_2 C X (x := nI (wd)) d2 dX3_put_111 ?_
          refine n_icmp_ge (tgt := 121) C dX3_put_114 (by decide) (by first | omega | exact hbo _ | exact hbi _ | exact hba _ | exact hbl _) (by first | omega | exact hbo _ | exact hbi _ | exact hba _ | exact hbl _) (fun c114 => ?_) (fun c114 => ?_)
          · refine lv_iconst (v := nI (0)) C.hx C.hb dX3_put_121 (by decide) ?_
            refine lv_istore (lv' := [(6, .int (nI (0))), (5, .int (nI (0))), (4, .int (nI (i))), (0, .ref (z 0)), (1, .long (key)), (3, .int (nI (len)))]) C.hx C.hb dX3_put_122 hl (by decide) rfl (fun ls hl => ?_)
            refine lv_aload_n C.hx C.hb dX3_put_124 rfl (lv_at hl 3 rfl) ?_
            refine lv_iload C.hx C.hb dX3_put_125 (lv_at hl 0 rfl) ?_
            refine n_if_ne (tgt := 134) C dX3_put_127 (by decide) (by decide) (fun h => absurd h (by decide)) (fun _ => ?_)
            refine lv_iconst (v := nI (3)) C.hx C.hb dX3_put_130 (by decide) ?_
            refine lv_goto (tgt := 144) C.hx C.hb dX3_put_131 (by decide) ?_
            refine lv_iload C.hx C.hb dX3_put_144 (lv_at hl 2 rfl) ?_
            refine x3_cw (As := [.int (nI (3)), .int (nI (i))]) (rest := []) C X (c3_isCut_n (kk := 3) (i := i) d14) wy_X3_isCut ts_37 tw_467 rfl ⟨by decide, by decide⟩ rfl hl.1 rfl (Nat.le_of_ble_eq_true rfl) ⟨Nat.le_refl _, Nat.le_refl _⟩ dX3_put_146 (fun r v' fk' gl' go' gi' ga' gs' H locs hp X => ?_)
            obtain ⟨rfl, rfl, rfl, rfl, rfl, rfl, rfl, rfl⟩ := hp
            refine W.eq (g2 := F0 m 149 ls [.int (nI (0))]) rfl ?_
            refine n_if_eq (tgt := 155) C dX3_put_149 (by decide) (by decide) (fun _ => ?_) (fun h => absurd h (by decide))
            refine lv_iload C.hx C.hb dX3_put_155 (lv_at hl 0 rfl) ?_
            refine n_if_ne (tgt := 169) C dX3_put_157 (by decide) (by decide) (fun h => absurd h (by decide)) (fun _ => ?_)
            refine lv_aload_n C.hx C.hb dX3_put_160 rfl (lv_at hl 3 rfl) ?_
            refine lv_iload C.hx C.hb dX3_put_161 (lv_at hl 2 rfl) ?_
            refine x3_cw (As := [.int (nI (i))]) (rest := []) C X (c3_splitArea (i := i) (wd := wd) (ac := ac) h3 (by omega) d2 hwd (by omega) d13 (by omega)) wy_X3_splitArea ts_38 tw_471 rfl ⟨by decide, by decide⟩ rfl hl.1 rfl (Nat.le_of_ble_eq_true rfl) ⟨Nat.le_refl _, Nat.le_refl _⟩ dX3_put_163 (fun r v' fk' gl' go' gi' ga' gs' H locs hp X => ?_)
            obtain ⟨rfl, rfl, rfl, rfl, rfl, rfl, rfl, rfl⟩ := hp
            refine W.eq (g2 := F0 m 166 ls []) rfl ?_
            refine lv_goto (tgt := 278) C.hx C.hb dX3_put_166 (by decide) ?_
            refine lv_goto (tgt := 50) C.hx C.hb dX3_put_278 (by decide) ?_
            have hkk : kos P S wd i = 2 := hko.1.mpr (by omega)
            rw [if_neg (by decide), if_neg (by omega), if_pos hkk] at hT
            have hcore := hC.area (i := i) (w := wd / 2) (by omega) (by omega) (by omega) (by omega)
            refine ih nx (ac + 1) (upd v2 16 (v2 16 + nI 1)) kd K L N S _ _ (upd v 13 (nI (ac + 1))) fk gl go gi _ (upd gs 1 (gs 1 + nI 1)) H locs hcore ⟨a0, a1, a2, a3, a9, a10, a11, a15, (congrArg (· + nI 1) a16), a17, a18, d1, d2, d3, d4, d8, d11, d12, rfl, d14, d17, fun h => absurd h (by decide)⟩ hk hh (by omega) (by omega) hT ?_ X ls (lv_sub hl [3, 4, 5] rfl)
            rw [hid, if_neg (fuel_a hiP (by omega) (by omega) (by omega))]
            rw [if_pos (by omega)] at hF
            omega
          · refine lv_iconst (v := nI (1)) C.hx C.hb dX3_put_117 (by decide) ?_
            refine lv_goto (tgt := 122) C.hx C.hb dX3_put_118 (by decide) ?_
            refine lv_istore (lv' := [(6, .int (nI (1))), (5, .int (nI (0))), (4, .int (nI (i))), (0, .ref (z 0)), (1, .long (key)), (3, .int (nI (len)))]) C.hx C.hb dX3_put_122 hl (by decide) rfl (fun ls hl => ?_)
            refine lv_aload_n C.hx C.hb dX3_put_124 rfl (lv_at hl 3 rfl) ?_
            refine lv_iload C.hx C.hb dX3_put_125 (lv_at hl 0 rfl) ?_
            refine n_if_ne (tgt := 134) C dX3_put_127 (by decide) (by decide) (fun _ => ?_) (fun h => absurd h (by decide))
            refine lv_iload C.hx C.hb dX3_put_134 (lv_at hl 1 rfl) ?_
            refine n_if_eq (tgt := 143) C dX3_put_136 (by decide) (by decide) (fun _ => ?_) (fun h => absurd h (by decide))
            refine lv_iconst (v := nI (1)) C.hx C.hb dX3_put_143 (by decide) ?_
            refine lv_iload C.hx C.hb dX3_put_144 (lv_at hl 2 rfl) ?_
            refine x3_cw (As := [.int (nI (1)), .int (nI (i))]) (rest := []) C X (c3_isCut_n (kk := 1) (i := i) d14) wy_X3_isCut ts_37 tw_467 rfl ⟨by decide, by decide⟩ rfl hl.1 rfl (Nat.le_of_ble_eq_true rfl) ⟨Nat.le_refl _, Nat.le_refl _⟩ dX3_put_146 (fun r v' fk' gl' go' gi' ga' gs' H locs hp X => ?_)
            obtain ⟨rfl, rfl, rfl, rfl, rfl, rfl, rfl, rfl⟩ := hp
            refine W.eq (g2 := F0 m 149 ls [.int (nI (0))]) rfl ?_
            refine n_if_eq (tgt := 155) C dX3_put_149 (by decide) (by decide) (fun _ => ?_) (fun h => absurd h (by decide))
            refine lv_iload C.hx C.hb dX3_put_155 (lv_at hl 0 rfl) ?_
            refine n_if_ne (tgt := 169) C dX3_put_157 (by decide) (by decide) (fun _ => ?_) (fun h => absurd h (by decide))
            refine lv_iload C.hx C.hb dX3_put_169 (lv_at hl 1 rfl) ?_
            refine n_if_eq (tgt := 258) C dX3_put_171 (by decide) (by decide) (fun _ => ?_) (fun h => absurd h (by decide))
            refine lv_aload_n C.hx C.hb dX3_put_258 rfl (lv_at hl 3 rfl) ?_
            refine lv_iload C.hx C.hb dX3_put_259 (lv_at hl 2 rfl) ?_
            refine lv_aload_n C.hx C.hb dX3_put_261 rfl (lv_at hl 3 rfl) ?_
            refine x3g_12 C X (x := nI (nx)) d12 dX3_put_262 ?_
            refine x3_cw (As := [.int (nI (i)), .int (nI (nx))]) (rest := []) C X (c3_splitInterval (i := i) (num := nx) h3 (by omega) (by omega) (by omega) (by omega)) wy_X3_splitInterval ts_40 tw_479 rfl ⟨by decide, by decide⟩ rfl hl.1 rfl (Nat.le_of_ble_eq_true rfl) ⟨Nat.le_refl _, Nat.le_refl _⟩ dX3_put_265 (fun r v' fk' gl' go' gi' ga' gs' H locs hp X => ?_)
            obtain ⟨rfl, rfl, rfl, rfl, rfl, rfl, rfl, rfl⟩ := hp
            refine W.eq (g2 := F0 m 268 ls []) rfl ?_
            refine lv_aload_n C.hx C.hb dX3_put_268 rfl (lv_at hl 3 rfl) ?_
            refine lv_dup C.hx C.hb dX3_put_269 rfl ?_
            refine x3g_12 C X (x := nI (nx)) d12 dX3_put_270 ?_
            refine lv_iconst (v := nI (1)) C.hx C.hb dX3_put_273 (by decide) ?_
            refine n_add C dX3_put_274 ?_
            refine x3p_12 C X dX3_put_275 (fun H locs X => ?_)
            refine lv_goto (tgt := 50) C.hx C.hb dX3_put_278 (by decide) ?_
            have hkk : kos P S wd i = 0 := hko.2.2.mpr (by omega)
            rw [if_neg (by decide), if_neg (by omega), if_neg (by omega)] at hT
            have hkb := kbh_b (L := L) (S := S) (i := i) (by omega)
            have hcore := hC.halve (nx2 := nx + 1) (by omega) (i := i) (num := nx) (k := kbh L S i) (by omega) hkb.1 hkb.2 (by omega) c5 (by omega) (by omega)
            have eS1 : (S.set i (S.getD i 0 - (S.getD i 0 - kbh L S i))).length = S.length := List.length_set ..
            refine ih (nx + 1) ac (upd (upd v2 9 (nI (nx + 1))) 15 ((upd v2 9 (nI (nx + 1))) 15 + nI 1)) kd K L _ _ _ A (upd (upd v 11 (nI (S.length + 1))) 12 (nI (nx + 1))) fk gl _ _ _ (upd gs 0 (gs 0 + nI 1)) H locs hcore ⟨a0, a1, a2, a3, rfl, a10, a11, (congrArg (· + nI 1) a15), a16, a17, a18, d1, d2, d3, d4, d8, by rw [ins_len (by omega), eS1]; rfl, rfl, d13, d14, d17, fun h => absurd h (by decide)⟩ hk hh (by omega) (by omega) hT ?_ X ls (lv_sub hl [3, 4, 5] rfl)
            have hfx := hfh _ hkb.1 hkb.2
            rw [if_neg (by omega)] at hF
            split <;> omega
        · refine lv_iconst (v := nI (1)) C.hx C.hb dX3_put_97 (by decide) ?_
          refine lv_goto (tgt := 102) C.hx C.hb dX3_put_98 (by decide) ?_
          refine lv_istore (lv' := [(5, .int (nI (1))), (4, .int (nI (i))), (0, .ref (z 0)), (1, .long (key)), (3, .int (nI (len)))]) C.hx C.hb dX3_put_102 hl (by decide) rfl (fun ls hl => ?_)
          refine lv_aload_n C.hx C.hb dX3_put_104 rfl (lv_at hl 2 rfl) ?_
          refine lv_iload C.hx C.hb dX3_put_105 (lv_at hl 1 rfl) ?_
          refine x3_cr (As := [.int (nI (i))]) (rest := []) C X (c3_widthOf (i := i) h3 (by omega)) wy_X3_widthOf ts_36 tw_463 rfl ⟨by decide, by decide⟩ rfl hl.1 rfl (Nat.le_of_ble_eq_true rfl) ⟨Nat.le_refl _, Nat.le_refl _⟩ dX3_put_107 (fun r hp => ?_)
          subst hp
          refine W.eq (g2 := F0 m 110 ls [.int (nI (P.getD (gIx P i) 0))]) rfl ?_
          refine lv_aload_n C.hx C.hb dX3_put_110 rfl (lv_at hl 2 rfl) ?_
          refine x3g_2 C X (x := nI (wd)) d2 dX3_put_111 ?_
          refine n_icmp_ge (tgt := 121) C dX3_put_114 (by decide) (by first | omega | exact hbo _ | exact hbi _ | exact hba _ | exact hbl _) (by first | omega | exact hbo _ | exact hbi _ | exact hba _ | exact hbl _) (fun c114 => ?_) (fun c114 => ?_)
          · refine lv_iconst (v := nI (0)) C.hx C.hb dX3_put_121 (by decide) ?_
            refine lv_istore (lv' := [(6, .int (nI (0))), (5, .int (nI (1))), (4, .int (nI (i))), (0, .ref (z 0)), (1, .long (key)), (3, .int (nI (len)))]) C.hx C.hb dX3_put_122 hl (by decide) rfl (fun ls hl => ?_)
            refine lv_aload_n C.hx C.hb dX3_put_124 rfl (lv_at hl 3 rfl) ?_
            refine lv_iload C.hx C.hb dX3_put_125 (lv_at hl 0 rfl) ?_
            refine n_if_ne (tgt := 134) C dX3_put_127 (by decide) (by decide) (fun h => absurd h (by decide)) (fun _ => ?_)
            refine lv_iconst (v := nI (3)) C.hx C.hb dX3_put_130 (by decide) ?_
            refine lv_goto (tgt := 144) C.hx C.hb dX3_put_131 (by decide) ?_
            refine lv_iload C.hx C.hb dX3_put_144 (lv_at hl 2 rfl) ?_
            refine x3_cw (As := [.int (nI (3)), .int (nI (i))]) (rest := []) C X (c3_isCut_n (kk := 3) (i := i) d14) wy_X3_isCut ts_37 tw_467 rfl ⟨by decide, by decide⟩ rfl hl.1 rfl (Nat.le_of_ble_eq_true rfl) ⟨Nat.le_refl _, Nat.le_refl _⟩ dX3_put_146 (fun r v' fk' gl' go' gi' ga' gs' H locs hp X => ?_)
            obtain ⟨rfl, rfl, rfl, rfl, rfl, rfl, rfl, rfl⟩ := hp
            refine W.eq (g2 := F0 m 149 ls [.int (nI (0))]) rfl ?_
            refine n_if_eq (tgt := 155) C dX3_put_149 (by decide) (by decide) (fun _ => ?_) (fun h => absurd h (by decide))
            refine lv_iload C.hx C.hb dX3_put_155 (lv_at hl 0 rfl) ?_
            refine n_if_ne (tgt := 169) C dX3_put_157 (by decide) (by decide) (fun h => absurd h (by decide)) (fun _ => ?_)
            refine lv_aload_n C.hx C.hb dX3_put_160 rfl (lv_at hl 3 rfl) ?_
            refine lv_iload C.hx C.hb dX3_put_161 (lv_at hl 2 rfl) ?_
            refine x3_cw (As := [.int (nI (i))]) (rest := []) C X (c3_splitArea (i := i) (wd := wd) (ac := ac) h3 (by omega) d2 hwd (by omega) d13 (by omega)) wy_X3_splitArea ts_38 tw_471 rfl ⟨by decide, by decide⟩ rfl hl.1 rfl (Nat.le_of_ble_eq_true rfl) ⟨Nat.le_refl _, Nat.le_refl _⟩ dX3_put_163 (fun r v' fk' gl' go' gi' ga' gs' H locs hp X => ?_)
            obtain ⟨rfl, rfl, rfl, rfl, rfl, rfl, rfl, rfl⟩ := hp
            refine W.eq (g2 := F0 m 166 ls []) rfl ?_
            refine lv_goto (tgt := 278) C.hx C.hb dX3_put_166 (by decide) ?_
            refine lv_goto (tgt := 50) C.hx C.hb dX3_put_278 (by decide) ?_
            have hkk : kos P S wd i = 2 := hko.1.mpr (by omega)
            rw [if_neg (by decide), if_neg (by omega), if_pos hkk] at hT
            have hcore := hC.area (i := i) (w := wd / 2) (by omega) (by omega) (by omega) (by omega)
            refine ih nx (ac + 1) (upd v2 16 (v2 16 + nI 1)) kd K L N S _ _ (upd v 13 (nI (ac + 1))) fk gl go gi _ (upd gs 1 (gs 1 + nI 1)) H locs hcore ⟨a0, a1, a2, a3, a9, a10, a11, a15, (congrArg (· + nI 1) a16), a17, a18, d1, d2, d3, d4, d8, d11, d12, rfl, d14, d17, fun h => absurd h (by decide)⟩ hk hh (by omega) (by omega) hT ?_ X ls (lv_sub hl [3, 4, 5] rfl)
            rw [hid, if_neg (fuel_a hiP (by omega) (by omega) (by omega))]
            rw [if_pos (by omega)] at hF
            omega
          · refine lv_iconst (v := nI (1)) C.hx C.hb dX3_put_117 (by decide) ?_
            refine lv_goto (tgt := 122) C.hx C.hb dX3_put_118 (by decide) ?_
            refine lv_istore (lv' := [(6, .int (nI (1))), (5, .int (nI (1))), (4, .int (nI (i))), (0, .ref (z 0)), (1, .long (key)), (3, .int (nI (len)))]) C.hx C.hb dX3_put_122 hl (by decide) rfl (fun ls hl => ?_)
            refine lv_aload_n C.hx C.hb dX3_put_124 rfl (lv_at hl 3 rfl) ?_
            refine lv_iload C.hx C.hb dX3_put_125 (lv_at hl 0 rfl) ?_
            refine n_if_ne (tgt := 134) C dX3_put_127 (by decide) (by decide) (fun _ => ?_) (fun h => absurd h (by decide))
            refine lv_iload C.hx C.hb dX3_put_134 (lv_at hl 1 rfl) ?_
            refine n_if_eq (tgt := 143) C dX3_put_136 (by decide) (by decide) (fun h => absurd h (by decide)) (fun _ => ?_)
            refine lv_iconst (v := nI (2)) C.hx C.hb dX3_put_139 (by decide) ?_
            refine lv_goto (tgt := 144) C.hx C.hb dX3_put_140 (by decide) ?_
            refine lv_iload C.hx C.hb dX3_put_144 (lv_at hl 2 rfl) ?_
            refine x3_cw (As := [.int (nI (2)), .int (nI (i))]) (rest := []) C X (c3_isCut_n (kk := 2) (i := i) d14) wy_X3_isCut ts_37 tw_467 rfl ⟨by decide, by decide⟩ rfl hl.1 rfl (Nat.le_of_ble_eq_true rfl) ⟨Nat.le_refl _, Nat.le_refl _⟩ dX3_put_146 (fun r v' fk' gl' go' gi' ga' gs' H locs hp X => ?_)
            obtain ⟨rfl, rfl, rfl, rfl, rfl, rfl, rfl, rfl⟩ := hp
            refine W.eq (g2 := F0 m 149 ls [.int (nI (0))]) rfl ?_
            refine n_if_eq (tgt := 155) C dX3_put_149 (by decide) (by decide) (fun _ => ?_) (fun h => absurd h (by decide))
            refine lv_iload C.hx C.hb dX3_put_155 (lv_at hl 0 rfl) ?_
            refine n_if_ne (tgt := 169) C dX3_put_157 (by decide) (by decide) (fun _ => ?_) (fun h => absurd h (by decide))
            refine lv_iload C.hx C.hb dX3_put_169 (lv_at hl 1 rfl) ?_
            refine n_if_eq (tgt := 258) C dX3_put_171 (by decide) (by decide) (fun h => absurd h (by decide)) (fun _ => ?_)
            refine lv_lload_n C.hx C.hb dX3_put_174 rfl (lv_at hl 4 rfl) ?_
            refine lv_aload_n C.hx C.hb dX3_put_175 rfl (lv_at hl 3 rfl) ?_
            refine x3g_5 C X dX3_put_176 ?_
            refine lv_aload_n C.hx C.hb dX3_put_179 rfl (lv_at hl 3 rfl) ?_
            refine lv_iload C.hx C.hb dX3_put_180 (lv_at hl 2 rfl) ?_
            refine x3_cr (As := [.int (nI (i))]) (rest := [.ref (z 1), .long (key)]) C X (c3_first (i := i) h3 (by omega) (by omega)) wy_X3_first ts_32 tw_447 rfl ⟨by decide, by decide⟩ rfl hl.1 rfl (Nat.le_of_ble_eq_true rfl) ⟨Nat.le_refl _, Nat.le_refl _⟩ dX3_put_182 (fun r hp => ?_)
            subst hp
            refine W.eq (g2 := F0 m 185 ls [.int (nI (sm S 0 i)), .ref (z 1), .long (key)]) rfl ?_
            refine x3l_1 C X (by first | omega | exact hbo _ | exact hbi _ | exact hba _ | exact hbl _) dX3_put_185 ?_
            refine n_lcmp_le (tgt := 194) C dX3_put_186 dX3_put_187 (by decide) (fun c186 => ?_) (fun c186 => ?_)
            · refine lv_iconst (v := nI (0)) C.hx C.hb dX3_put_194 (by decide) ?_
              refine lv_istore (lv' := [(7, .int (nI (0))), (6, .int (nI (1))), (5, .int (nI (1))), (4, .int (nI (i))), (0, .ref (z 0)), (1, .long (key)), (3, .int (nI (len)))]) C.hx C.hb dX3_put_195 hl (by decide) rfl (fun ls hl => ?_)
              refine lv_aload_n C.hx C.hb dX3_put_197 rfl (lv_at hl 4 rfl) ?_
              refine lv_iload C.hx C.hb dX3_put_198 (lv_at hl 0 rfl) ?_
              refine n_if_eq (tgt := 210) C dX3_put_200 (by decide) (by decide) (fun _ => ?_) (fun h => absurd h (by decide))
              refine lv_iload C.hx C.hb dX3_put_210 (lv_at hl 3 rfl) ?_
              refine lv_aload_n C.hx C.hb dX3_put_212 rfl (lv_at hl 4 rfl) ?_
              refine x3g_12 C X (x := nI (nx)) d12 dX3_put_213 ?_
              refine lv_aload_n C.hx C.hb dX3_put_216 rfl (lv_at hl 4 rfl) ?_
              refine x3g_10 C X dX3_put_217 ?_
              refine lv_iload C.hx C.hb dX3_put_220 (lv_at hl 3 rfl) ?_
              refine x3l_5 C X (by first | omega | exact hbo _ | exact hbi _ | exact hba _ | exact hbl _) dX3_put_222 ?_
              refine x3_cw (As := [.int (nI (i)), .int (nI (nx)), .int (nI (ga i))]) (rest := []) C X (c3_open (at_ := i) (num := nx) (ar := (ga i)) (m0 := S.length) (by omega) d11 (by omega)) wy_X3_open ts_39 tw_475 rfl ⟨by decide, by decide⟩ rfl hl.1 rfl (Nat.le_of_ble_eq_true rfl) ⟨Nat.le_refl _, Nat.le_refl _⟩ dX3_put_223 (fun r v' fk' gl' go' gi' ga' gs' H locs hp X => ?_)
              obtain ⟨rfl, rfl, rfl, rfl, rfl, rfl, rfl, rfl⟩ := hp
              refine W.eq (g2 := F0 m 226 ls []) rfl ?_
              refine lv_aload_n C.hx C.hb dX3_put_226 rfl (lv_at hl 4 rfl) ?_
              refine lv_lload_n C.hx C.hb dX3_put_227 rfl (lv_at hl 5 rfl) ?_
              refine lv_iload_n C.hx C.hb dX3_put_228 rfl (lv_at hl 6 rfl) ?_
              refine lv_aload_n C.hx C.hb dX3_put_229 rfl (lv_at hl 4 rfl) ?_
              refine x3g_12 C X (x := nI (nx)) d12 dX3_put_230 ?_
              refine x3_cw (As := [.long (key), .int (nI (len)), .int (nI (nx))]) (rest := []) C X (c3_insert ((⟨by omega, d8, r1⟩ : Ct0 (upd v 11 (nI (S.length + 1))) fk K)) (key := key) (len := len) (itv := nx) (t := (ngt K key)) (lsT_n c1 hh)) wy_X3_insert ts_34 tw_455 rfl ⟨by decide, by decide⟩ rfl hl.1 rfl (Nat.le_of_ble_eq_true rfl) ⟨Nat.le_refl _, Nat.le_refl _⟩ dX3_put_233 (fun r v' fk' gl' go' gi' ga' gs' H locs hp X => ?_)
              obtain ⟨rfl, rfl, rfl, rfl, rfl, rfl, rfl, rfl⟩ := hp
              refine W.eq (g2 := F0 m 236 ls []) rfl ?_
              refine lv_aload_n C.hx C.hb dX3_put_236 rfl (lv_at hl 4 rfl) ?_
              refine lv_dup C.hx C.hb dX3_put_237 rfl ?_
              refine x3g_12 C X (x := nI (nx)) d12 dX3_put_238 ?_
              refine lv_iconst (v := nI (1)) C.hx C.hb dX3_put_241 (by decide) ?_
              refine n_add C dX3_put_242 ?_
              refine x3p_12 C X dX3_put_243 (fun H locs X => ?_)
              refine lv_aload_n C.hx C.hb dX3_put_246 rfl (lv_at hl 4 rfl) ?_
              refine x3g_19 C X dX3_put_247 ?_
              refine lv_iconst (v := nI (0)) C.hx C.hb dX3_put_250 (by decide) ?_
              refine lv_dup2_11 C.hx C.hb dX3_put_251 rfl rfl ?_
              refine x3l_6 C X (by first | omega | exact hbo _ | exact hbi _ | exact hba _ | exact hbl _) dX3_put_252 ?_
              refine lv_iconst (v := nI (1)) C.hx C.hb dX3_put_253 (by decide) ?_
              refine lv_iadd C.hx C.hb dX3_put_254 ?_
              refine x3t_6 C X (by first | omega | exact hbo _ | exact hbi _ | exact hba _ | exact hbl _) dX3_put_255 (fun H locs X => ?_)
              refine lv_iconst (v := nI (1)) C.hx C.hb dX3_put_256 (by decide) ?_
              have hkk : kos P S wd i = 1 := hko.2.1.mpr (by omega)
              rw [if_neg (by decide), if_pos hkk, own_S (by have := ownAt_c K S key i; omega)] at hT
              have hot := own_t (key := key) c1 hh hpb.1 c94 (by omega) hpb.2.1 hpb.2.2
              have eow : ownAt K S key i = i := by
                unfold ownAt
                rw [if_neg (by rw [← r1 _ (by omega)]; exact Int64.not_lt.mpr c186)]
              rw [eow] at hT hot
              have hcore := hC.own hk hrm (key := key) (i := i) (o := i) (t := ngt K key) (len := len) hpb.1 (by omega) c94 hot (srt_ins c1 hh) hl1 hl2 (by omega) (by omega)
              exact ret3_i C X ⟨1, _, _, _, _, _, _, _, hT.symm, rfl, nx + 1, ac, 0, 0, 0, 0, A, hcore, ⟨a0, a1, a2, a3, rfl, a10, a11, (congrArg (· + nI 1) a15), a16, a17, a18, d1, d2, d3, d4, by rw [ins_len hng]; rfl, by rw [ins_len (by omega)]; rfl, rfl, d13, d14, d17, fun h => absurd h (by decide)⟩, ⟨by decide, by decide, fun h => absurd h (by decide)⟩, by omega, by omega⟩ dX3_put_257
            · refine lv_iconst (v := nI (1)) C.hx C.hb dX3_put_190 (by decide) ?_
              refine lv_goto (tgt := 195) C.hx C.hb dX3_put_191 (by decide) ?_
              refine lv_istore (lv' := [(7, .int (nI (1))), (6, .int (nI (1))), (5, .int (nI (1))), (4, .int (nI (i))), (0, .ref (z 0)), (1, .long (key)), (3, .int (nI (len)))]) C.hx C.hb dX3_put_195 hl (by decide) rfl (fun ls hl => ?_)
              refine lv_aload_n C.hx C.hb dX3_put_197 rfl (lv_at hl 4 rfl) ?_
              refine lv_iload C.hx C.hb dX3_put_198 (lv_at hl 0 rfl) ?_
              refine n_if_eq (tgt := 210) C dX3_put_200 (by decide) (by decide) (fun h => absurd h (by decide)) (fun _ => ?_)
              refine lv_iload C.hx C.hb dX3_put_203 (lv_at hl 3 rfl) ?_
              refine lv_iconst (v := nI (1)) C.hx C.hb dX3_put_205 (by decide) ?_
              refine n_add C dX3_put_206 ?_
              refine lv_goto (tgt := 212) C.hx C.hb dX3_put_207 (by decide) ?_
              refine lv_aload_n C.hx C.hb dX3_put_212 rfl (lv_at hl 4 rfl) ?_
              refine x3g_12 C X (x := nI (nx)) d12 dX3_put_213 ?_
              refine lv_aload_n C.hx C.hb dX3_put_216 rfl (lv_at hl 4 rfl) ?_
              refine x3g_10 C X dX3_put_217 ?_
              refine lv_iload C.hx C.hb dX3_put_220 (lv_at hl 3 rfl) ?_
              refine x3l_5 C X (by first | omega | exact hbo _ | exact hbi _ | exact hba _ | exact hbl _) dX3_put_222 ?_
              refine x3_cw (As := [.int (nI (i + 1)), .int (nI (nx)), .int (nI (ga i))]) (rest := []) C X (c3_open (at_ := (i + 1)) (num := nx) (ar := (ga i)) (m0 := S.length) (by omega) d11 (by omega)) wy_X3_open ts_39 tw_475 rfl ⟨by decide, by decide⟩ rfl hl.1 rfl (Nat.le_of_ble_eq_true rfl) ⟨Nat.le_refl _, Nat.le_refl _⟩ dX3_put_223 (fun r v' fk' gl' go' gi' ga' gs' H locs hp X => ?_)
              obtain ⟨rfl, rfl, rfl, rfl, rfl, rfl, rfl, rfl⟩ := hp
              refine W.eq (g2 := F0 m 226 ls []) rfl ?_
              refine lv_aload_n C.hx C.hb dX3_put_226 rfl (lv_at hl 4 rfl) ?_
              refine lv_lload_n C.hx C.hb dX3_put_227 rfl (lv_at hl 5 rfl) ?_
              refine lv_iload_n C.hx C.hb dX3_put_228 rfl (lv_at hl 6 rfl) ?_
              refine lv_aload_n C.hx C.hb dX3_put_229 rfl (lv_at hl 4 rfl) ?_
              refine x3g_12 C X (x := nI (nx)) d12 dX3_put_230 ?_
              refine x3_cw (As := [.long (key), .int (nI (len)), .int (nI (nx))]) (rest := []) C X (c3_insert ((⟨by omega, d8, r1⟩ : Ct0 (upd v 11 (nI (S.length + 1))) fk K)) (key := key) (len := len) (itv := nx) (t := (ngt K key)) (lsT_n c1 hh)) wy_X3_insert ts_34 tw_455 rfl ⟨by decide, by decide⟩ rfl hl.1 rfl (Nat.le_of_ble_eq_true rfl) ⟨Nat.le_refl _, Nat.le_refl _⟩ dX3_put_233 (fun r v' fk' gl' go' gi' ga' gs' H locs hp X => ?_)
              obtain ⟨rfl, rfl, rfl, rfl, rfl, rfl, rfl, rfl⟩ := hp
              refine W.eq (g2 := F0 m 236 ls []) rfl ?_
              refine lv_aload_n C.hx C.hb dX3_put_236 rfl (lv_at hl 4 rfl) ?_
              refine lv_dup C.hx C.hb dX3_put_237 rfl ?_
              refine x3g_12 C X (x := nI (nx)) d12 dX3_put_238 ?_
              refine lv_iconst (v := nI (1)) C.hx C.hb dX3_put_241 (by decide) ?_
              refine n_add C dX3_put_242 ?_
              refine x3p_12 C X dX3_put_243 (fun H locs X => ?_)
              refine lv_aload_n C.hx C.hb dX3_put_246 rfl (lv_at hl 4 rfl) ?_
              refine x3g_19 C X dX3_put_247 ?_
              refine lv_iconst (v := nI (0)) C.hx C.hb dX3_put_250 (by decide) ?_
              refine lv_dup2_11 C.hx C.hb dX3_put_251 rfl rfl ?_
              refine x3l_6 C X (by first | omega | exact hbo _ | exact hbi _ | exact hba _ | exact hbl _) dX3_put_252 ?_
              refine lv_iconst (v := nI (1)) C.hx C.hb dX3_put_253 (by decide) ?_
              refine lv_iadd C.hx C.hb dX3_put_254 ?_
              refine x3t_6 C X (by first | omega | exact hbo _ | exact hbi _ | exact hba _ | exact hbl _) dX3_put_255 (fun H locs X => ?_)
              refine lv_iconst (v := nI (1)) C.hx C.hb dX3_put_256 (by decide) ?_
              have hkk : kos P S wd i = 1 := hko.2.1.mpr (by omega)
              rw [if_neg (by decide), if_pos hkk, own_S (by have := ownAt_c K S key i; omega)] at hT
              have hot := own_t (key := key) c1 hh hpb.1 c94 (by omega) hpb.2.1 hpb.2.2
              have eow : ownAt K S key i = i + 1 := by
                unfold ownAt
                rw [if_pos (by rw [← r1 _ (by omega)]; exact c186)]
              rw [eow] at hT hot
              have hcore := hC.own hk hrm (key := key) (i := i) (o := i + 1) (t := ngt K key) (len := len) hpb.1 (by omega) c94 hot (srt_ins c1 hh) hl1 hl2 (by omega) (by omega)
              exact ret3_i C X ⟨1, _, _, _, _, _, _, _, hT.symm, rfl, nx + 1, ac, 0, 0, 0, 0, A, hcore, ⟨a0, a1, a2, a3, rfl, a10, a11, (congrArg (· + nI 1) a15), a16, a17, a18, d1, d2, d3, d4, by rw [ins_len hng]; rfl, by rw [ins_len (by omega)]; rfl, rfl, d13, d14, d17, fun h => absurd h (by decide)⟩, ⟨by decide, by decide, fun h => absurd h (by decide)⟩, by omega, by omega⟩ dX3_put_257
      · refine lv_aload_n C.hx C.hb dX3_put_72 rfl (lv_at hl 1 rfl) ?_
        refine lv_lload_n C.hx C.hb dX3_put_73 rfl (lv_at hl 2 rfl) ?_
        refine lv_iload_n C.hx C.hb dX3_put_74 rfl (lv_at hl 3 rfl) ?_
        refine lv_aload_n C.hx C.hb dX3_put_75 rfl (lv_at hl 1 rfl) ?_
        refine x3g_9 C X dX3_put_76 ?_
        refine lv_iload C.hx C.hb dX3_put_79 (lv_at hl 0 rfl) ?_
        refine x3l_4 C X (by first | omega | exact hbo _ | exact hbi _ | exact hba _ | exact hbl _) dX3_put_81 ?_
        refine x3_cw (As := [.long (key), .int (nI (len)), .int (nI (gi i))]) (rest := []) C X (c3_insert ((⟨by omega, d8, r1⟩ : Ct0 (v) fk K)) (key := key) (len := len) (itv := (gi i)) (t := (ngt K key)) (lsT_n c1 hh)) wy_X3_insert ts_34 tw_455 rfl ⟨by decide, by decide⟩ rfl hl.1 rfl (Nat.le_of_ble_eq_true rfl) ⟨Nat.le_refl _, Nat.le_refl _⟩ dX3_put_82 (fun r v' fk' gl' go' gi' ga' gs' H locs hp X => ?_)
        obtain ⟨rfl, rfl, rfl, rfl, rfl, rfl, rfl, rfl⟩ := hp
        refine W.eq (g2 := F0 m 85 ls []) rfl ?_
        refine lv_iconst (v := nI (1)) C.hx C.hb dX3_put_85 (by decide) ?_
        rw [if_pos (by omega)] at hT
        have hcore := hC.ins1 hk hrm (key := key) (i := i) (t := ngt K key) (len := len) hpb.1 hpb.2.1 hpb.2.2 (srt_ins c1 hh) hl1 (by omega)
        exact ret3_i C X ⟨1, _, _, _, _, _, _, _, hT.symm, rfl, nx, ac, 0, 0, 0, 0, A, hcore, ⟨a0, a1, a2, a3, a9, a10, a11, a15, a16, a17, a18, d1, d2, d3, d4, by rw [ins_len hng]; rfl, by rw [List.length_set]; exact d11, d12, d13, d14, d17, fun h => absurd h (by decide)⟩, ⟨by decide, by decide, fun h => absurd h (by decide)⟩, by omega, by omega⟩ dX3_put_86
    · refine lv_aload_n C.hx C.hb dX3_put_50 rfl (lv_at hl 0 rfl) ?_
      refine lv_lload_n C.hx C.hb dX3_put_51 rfl (lv_at hl 1 rfl) ?_
      refine x3_cr (As := [.long (key)]) (rest := []) C X (c3_belongs h3 hb) wy_X3_belongs ts_31 tw_443 rfl ⟨by decide, by decide⟩ rfl hl.1 rfl (Nat.le_of_ble_eq_true rfl) ⟨Nat.le_refl _, Nat.le_refl _⟩ dX3_put_52 (fun r hp => ?_)
      subst hp
      refine W.eq (g2 := F0 m 55 ls [.int (nI (i))]) rfl ?_
      refine lv_istore (lv' := [(4, .int (nI (i))), (0, .ref (z 0)), (1, .long (key)), (3, .int (nI (len)))]) C.hx C.hb dX3_put_55 hl (by decide) rfl (fun ls hl => ?_)
      refine lv_aload_n C.hx C.hb dX3_put_57 rfl (lv_at hl 1 rfl) ?_
      refine lv_iload C.hx C.hb dX3_put_58 (lv_at hl 0 rfl) ?_
      refine x3_cr (As := [.int (nI (i))]) (rest := []) C X (c3_lengthsOf (i := i) h3 (by omega)) wy_X3_lengthsOf ts_33 tw_451 rfl ⟨by decide, by decide⟩ rfl hl.1 rfl (Nat.le_of_ble_eq_true rfl) ⟨Nat.le_refl _, Nat.le_refl _⟩ dX3_put_60 (fun r hp => ?_)
      subst hp
      refine W.eq (g2 := F0 m 63 ls [.int (nI (lin L S i))]) rfl ?_
      refine lv_iload_n C.hx C.hb dX3_put_63 rfl (lv_at hl 3 rfl) ?_
      refine n_add C dX3_put_64 ?_
      refine lv_aload_n C.hx C.hb dX3_put_65 rfl (lv_at hl 1 rfl) ?_
      refine x3g_1 C X (x := nI (rm)) d1 dX3_put_66 ?_
      refine n_icmp_gt (tgt := 87) C dX3_put_69 (by decide) (by first | omega | exact hbo _ | exact hbi _ | exact hba _ | exact hbl _) (by first | omega | exact hbo _ | exact hbi _ | exact hba _ | exact hbl _) (fun c69 => ?_) (fun c69 => ?_)
      · have hs1 : 1 ≤ S.getD i 0 := by
          rcases Nat.eq_zero_or_pos (S.getD i 0) with q | q
          · exfalso
            have : lin L S i = 0 := by unfold lin; rw [q]; exact sm_end (Or.inl (Nat.le_refl _))
            omega
          · exact q
        rw [if_neg (by omega)] at hT
        refine lv_aload_n C.hx C.hb dX3_put_87 rfl (lv_at hl 1 rfl) ?_
        refine lv_iload C.hx C.hb dX3_put_88 (lv_at hl 0 rfl) ?_
        refine x3_cr (As := [.int (nI (i))]) (rest := []) C X (c3_recordsOf (i := i) h3 (by omega)) wy_X3_recordsOf ts_35 tw_459 rfl ⟨by decide, by decide⟩ rfl hl.1 rfl (Nat.le_of_ble_eq_true rfl) ⟨Nat.le_refl _, Nat.le_refl _⟩ dX3_put_90 (fun r hp => ?_)
        subst hp
        refine W.eq (g2 := F0 m 93 ls [.int (nI (S.getD i 0))]) rfl ?_
        refine lv_iconst (v := nI (1)) C.hx C.hb dX3_put_93 (by decide) ?_
        refine n_icmp_ne (tgt := 101) C dX3_put_94 (by decide) (by first | omega | exact hbo _ | exact hbi _ | exact hba _ | exact hbl _) (by first | omega | exact hbo _ | exact hbi _ | exact hba _ | exact hbl _) (fun c94 => ?_) (fun c94 => ?_)
        · refine lv_iconst (v := nI (0)) C.hx C.hb dX3_put_101 (by decide) ?_
          refine lv_istore (lv' := [(5, .int (nI (0))), (4, .int (nI (i))), (0, .ref (z 0)), (1, .long (key)), (3, .int (nI (len)))]) C.hx C.hb dX3_put_102 hl (by decide) rfl (fun ls hl => ?_)
          refine lv_aload_n C.hx C.hb dX3_put_104 rfl (lv_at hl 2 rfl) ?_
          refine lv_iload C.hx C.hb dX3_put_105 (lv_at hl 1 rfl) ?_
          refine x3_cr (As := [.int (nI (i))]) (rest := []) C X (c3_widthOf (i := i) h3 (by omega)) wy_X3_widthOf ts_36 tw_463 rfl ⟨by decide, by decide⟩ rfl hl.1 rfl (Nat.le_of_ble_eq_true rfl) ⟨Nat.le_refl _, Nat.le_refl _⟩ dX3_put_107 (fun r hp => ?_)
          subst hp
          refine W.eq (g2 := F0 m 110 ls [.int (nI (P.getD (gIx P i) 0))]) rfl ?_
          refine lv_aload_n C.hx C.hb dX3_put_110 rfl (lv_at hl 2 rfl) ?_
          refine x3g_2 C X (x := nI (wd)) d2 dX3_put_111 ?_
          refine n_icmp_ge (tgt := 121) C dX3_put_114 (by decide) (by first | omega | exact hbo _ | exact hbi _ | exact hba _ | exact hbl _) (by first | omega | exact hbo _ | exact hbi _ | exact hba _ | exact hbl _) (fun c114 => ?_) (fun c114 => ?_)
          · refine lv_iconst (v := nI (0)) C.hx C.hb dX3_put_121 (by decide) ?_
            refine lv_istore (lv' := [(6, .int (nI (0))), (5, .int (nI (0))), (4, .int (nI (i))), (0, .ref (z 0)), (1, .long (key)), (3, .int (nI (len)))]) C.hx C.hb dX3_put_122 hl (by decide) rfl (fun ls hl => ?_)
            refine lv_aload_n C.hx C.hb dX3_put_124 rfl (lv_at hl 3 rfl) ?_
            refine lv_iload C.hx C.hb dX3_put_125 (lv_at hl 0 rfl) ?_
            refine n_if_ne (tgt := 134) C dX3_put_127 (by decide) (by decide) (fun h => absurd h (by decide)) (fun _ => ?_)
            refine lv_iconst (v := nI (3)) C.hx C.hb dX3_put_130 (by decide) ?_
            refine lv_goto (tgt := 144) C.hx C.hb dX3_put_131 (by decide) ?_
            refine lv_iload C.hx C.hb dX3_put_144 (lv_at hl 2 rfl) ?_
            refine x3_cw (As := [.int (nI (3)), .int (nI (i))]) (rest := []) C X (c3_isCut_y (kk := 3) (i := i) (tc := tc) (nx := nx) d14 d12 (by omega) htc (by decide)) wy_X3_isCut ts_37 tw_467 rfl ⟨by decide, by decide⟩ rfl hl.1 rfl (Nat.le_of_ble_eq_true rfl) ⟨Nat.le_refl _, Nat.le_refl _⟩ dX3_put_146 (fun r v' fk' gl' go' gi' ga' gs' H locs hp X => ?_)
            obtain ⟨rfl, rfl, rfl, rfl, rfl, rfl, rfl, rfl⟩ := hp
            refine W.eq (g2 := F0 m 149 ls [.int (nI (1))]) rfl ?_
            refine n_if_eq (tgt := 155) C dX3_put_149 (by decide) (by decide) (fun h => absurd h (by decide)) (fun _ => ?_)
            refine lv_bipush (v := (-5)) C.hx C.hb dX3_put_152 (by decide) ?_
            have hkk : kos P S wd i = 2 := hko.1.mpr (by omega)
            rw [if_pos (by omega), hkk] at hT
            have ebp : cbump tc 2 = (if 2 < tc ∧ (3 : Nat) < 3 then 1 else 0) := by
              unfold cbump
              first | rfl | (split <;> split <;> omega)
            have erw : crow tc = (if tc = 4 then 1 else 0) := by
              unfold crow
              split <;> split <;> omega
            have ebb : cbump tc 2 ≤ 1 ∧ (3 < tc → 2 ≠ 2 → cbump tc 2 = 1) := by
              unfold cbump
              split <;> omega
            refine ret3_i C X ⟨0, _, _, _, _, _, _, _, hT.symm, rfl, nx + cbump tc 2, ac, 0, 1, crow tc, i, A, ⟨hR, hJ, c1, c2, c3, c4, fun x hx => Nat.lt_of_lt_of_le (c5 x hx) (Nat.le_add_right _ _), c6, b1, b2, b3, b4⟩, ⟨a0, a1, a2, a3, rfl, rfl, rfl, a15, a16, a17, a18, d1, d2, d3, d4, d8, d11, by rw [ebp]; rfl, d13, rfl, rfl, fun _ => ⟨rfl, rfl, rfl, rfl, by rw [erw]; rfl⟩⟩, ⟨by decide, by decide, fun _ => ⟨by unfold crow; split <;> decide, by omega, hkk.symm, hs1, fun hr0 hk0 => by have e4 : 3 < tc := (by unfold crow at hr0; split at hr0; assumption; exact absurd hr0 (by decide)); have eb1 := ebb.2 e4 (by omega); exact ⟨by omega, fun x hx => by have := c5 x hx; omega⟩⟩⟩, by omega, by omega⟩ dX3_put_154
          · refine lv_iconst (v := nI (1)) C.hx C.hb dX3_put_117 (by decide) ?_
            refine lv_goto (tgt := 122) C.hx C.hb dX3_put_118 (by decide) ?_
            refine lv_istore (lv' := [(6, .int (nI (1))), (5, .int (nI (0))), (4, .int (nI (i))), (0, .ref (z 0)), (1, .long (key)), (3, .int (nI (len)))]) C.hx C.hb dX3_put_122 hl (by decide) rfl (fun ls hl => ?_)
            refine lv_aload_n C.hx C.hb dX3_put_124 rfl (lv_at hl 3 rfl) ?_
            refine lv_iload C.hx C.hb dX3_put_125 (lv_at hl 0 rfl) ?_
            refine n_if_ne (tgt := 134) C dX3_put_127 (by decide) (by decide) (fun _ => ?_) (fun h => absurd h (by decide))
            refine lv_iload C.hx C.hb dX3_put_134 (lv_at hl 1 rfl) ?_
            refine n_if_eq (tgt := 143) C dX3_put_136 (by decide) (by decide) (fun _ => ?_) (fun h => absurd h (by decide))
            refine lv_iconst (v := nI (1)) C.hx C.hb dX3_put_143 (by decide) ?_
            refine lv_iload C.hx C.hb dX3_put_144 (lv_at hl 2 rfl) ?_
            refine x3_cw (As := [.int (nI (1)), .int (nI (i))]) (rest := []) C X (c3_isCut_y (kk := 1) (i := i) (tc := tc) (nx := nx) d14 d12 (by omega) htc (by decide)) wy_X3_isCut ts_37 tw_467 rfl ⟨by decide, by decide⟩ rfl hl.1 rfl (Nat.le_of_ble_eq_true rfl) ⟨Nat.le_refl _, Nat.le_refl _⟩ dX3_put_146 (fun r v' fk' gl' go' gi' ga' gs' H locs hp X => ?_)
            obtain ⟨rfl, rfl, rfl, rfl, rfl, rfl, rfl, rfl⟩ := hp
            refine W.eq (g2 := F0 m 149 ls [.int (nI (1))]) rfl ?_
            refine n_if_eq (tgt := 155) C dX3_put_149 (by decide) (by decide) (fun h => absurd h (by decide)) (fun _ => ?_)
            refine lv_bipush (v := (-5)) C.hx C.hb dX3_put_152 (by decide) ?_
            have hkk : kos P S wd i = 0 := hko.2.2.mpr (by omega)
            rw [if_pos (by omega), hkk] at hT
            have ebp : cbump tc 0 = (if 2 < tc ∧ (1 : Nat) < 3 then 1 else 0) := by
              unfold cbump
              first | rfl | (split <;> split <;> omega)
            have erw : crow tc = (if tc = 4 then 1 else 0) := by
              unfold crow
              split <;> split <;> omega
            have ebb : cbump tc 0 ≤ 1 ∧ (3 < tc → 0 ≠ 2 → cbump tc 0 = 1) := by
              unfold cbump
              split <;> omega
            refine ret3_i C X ⟨0, _, _, _, _, _, _, _, hT.symm, rfl, nx + cbump tc 0, ac, 0, 1, crow tc, i, A, ⟨hR, hJ, c1, c2, c3, c4, fun x hx => Nat.lt_of_lt_of_le (c5 x hx) (Nat.le_add_right _ _), c6, b1, b2, b3, b4⟩, ⟨a0, a1, a2, a3, rfl, rfl, rfl, a15, a16, a17, a18, d1, d2, d3, d4, d8, d11, by rw [ebp]; rfl, d13, rfl, rfl, fun _ => ⟨rfl, rfl, rfl, rfl, by rw [erw]; rfl⟩⟩, ⟨by decide, by decide, fun _ => ⟨by unfold crow; split <;> decide, by omega, hkk.symm, hs1, fun hr0 hk0 => by have e4 : 3 < tc := (by unfold crow at hr0; split at hr0; assumption; exact absurd hr0 (by decide)); have eb1 := ebb.2 e4 (by omega); exact ⟨by omega, fun x hx => by have := c5 x hx; omega⟩⟩⟩, by omega, by omega⟩ dX3_put_154
        · refine lv_iconst (v := nI (1)) C.hx C.hb dX3_put_97 (by decide) ?_
          refine lv_goto (tgt := 102) C.hx C.hb dX3_put_98 (by decide) ?_
          refine lv_istore (lv' := [(5, .int (nI (1))), (4, .int (nI (i))), (0, .ref (z 0)), (1, .long (key)), (3, .int (nI (len)))]) C.hx C.hb dX3_put_102 hl (by decide) rfl (fun ls hl => ?_)
          refine lv_aload_n C.hx C.hb dX3_put_104 rfl (lv_at hl 2 rfl) ?_
          refine lv_iload C.hx C.hb dX3_put_105 (lv_at hl 1 rfl) ?_
          refine x3_cr (As := [.int (nI (i))]) (rest := []) C X (c3_widthOf (i := i) h3 (by omega)) wy_X3_widthOf ts_36 tw_463 rfl ⟨by decide, by decide⟩ rfl hl.1 rfl (Nat.le_of_ble_eq_true rfl) ⟨Nat.le_refl _, Nat.le_refl _⟩ dX3_put_107 (fun r hp => ?_)
          subst hp
          refine W.eq (g2 := F0 m 110 ls [.int (nI (P.getD (gIx P i) 0))]) rfl ?_
          refine lv_aload_n C.hx C.hb dX3_put_110 rfl (lv_at hl 2 rfl) ?_
          refine x3g_2 C X (x := nI (wd)) d2 dX3_put_111 ?_
          refine n_icmp_ge (tgt := 121) C dX3_put_114 (by decide) (by first | omega | exact hbo _ | exact hbi _ | exact hba _ | exact hbl _) (by first | omega | exact hbo _ | exact hbi _ | exact hba _ | exact hbl _) (fun c114 => ?_) (fun c114 => ?_)
          · refine lv_iconst (v := nI (0)) C.hx C.hb dX3_put_121 (by decide) ?_
            refine lv_istore (lv' := [(6, .int (nI (0))), (5, .int (nI (1))), (4, .int (nI (i))), (0, .ref (z 0)), (1, .long (key)), (3, .int (nI (len)))]) C.hx C.hb dX3_put_122 hl (by decide) rfl (fun ls hl => ?_)
            refine lv_aload_n C.hx C.hb dX3_put_124 rfl (lv_at hl 3 rfl) ?_
            refine lv_iload C.hx C.hb dX3_put_125 (lv_at hl 0 rfl) ?_
            refine n_if_ne (tgt := 134) C dX3_put_127 (by decide) (by decide) (fun h => absurd h (by decide)) (fun _ => ?_)
            refine lv_iconst (v := nI (3)) C.hx C.hb dX3_put_130 (by decide) ?_
            refine lv_goto (tgt := 144) C.hx C.hb dX3_put_131 (by decide) ?_
            refine lv_iload C.hx C.hb dX3_put_144 (lv_at hl 2 rfl) ?_
            refine x3_cw (As := [.int (nI (3)), .int (nI (i))]) (rest := []) C X (c3_isCut_y (kk := 3) (i := i) (tc := tc) (nx := nx) d14 d12 (by omega) htc (by decide)) wy_X3_isCut ts_37 tw_467 rfl ⟨by decide, by decide⟩ rfl hl.1 rfl (Nat.le_of_ble_eq_true rfl) ⟨Nat.le_refl _, Nat.le_refl _⟩ dX3_put_146 (fun r v' fk' gl' go' gi' ga' gs' H locs hp X => ?_)
            obtain ⟨rfl, rfl, rfl, rfl, rfl, rfl, rfl, rfl⟩ := hp
            refine W.eq (g2 := F0 m 149 ls [.int (nI (1))]) rfl ?_
            refine n_if_eq (tgt := 155) C dX3_put_149 (by decide) (by decide) (fun h => absurd h (by decide)) (fun _ => ?_)
            refine lv_bipush (v := (-5)) C.hx C.hb dX3_put_152 (by decide) ?_
            have hkk : kos P S wd i = 2 := hko.1.mpr (by omega)
            rw [if_pos (by omega), hkk] at hT
            have ebp : cbump tc 2 = (if 2 < tc ∧ (3 : Nat) < 3 then 1 else 0) := by
              unfold cbump
              first | rfl | (split <;> split <;> omega)
            have erw : crow tc = (if tc = 4 then 1 else 0) := by
              unfold crow
              split <;> split <;> omega
            have ebb : cbump tc 2 ≤ 1 ∧ (3 < tc → 2 ≠ 2 → cbump tc 2 = 1) := by
              unfold cbump
              split <;> omega
            refine ret3_i C X ⟨0, _, _, _, _, _, _, _, hT.symm, rfl, nx + cbump tc 2, ac, 0, 1, crow tc, i, A, ⟨hR, hJ, c1, c2, c3, c4, fun x hx => Nat.lt_of_lt_of_le (c5 x hx) (Nat.le_add_right _ _), c6, b1, b2, b3, b4⟩, ⟨a0, a1, a2, a3, rfl, rfl, rfl, a15, a16, a17, a18, d1, d2, d3, d4, d8, d11, by rw [ebp]; rfl, d13, rfl, rfl, fun _ => ⟨rfl, rfl, rfl, rfl, by rw [erw]; rfl⟩⟩, ⟨by decide, by decide, fun _ => ⟨by unfold crow; split <;> decide, by omega, hkk.symm, hs1, fun hr0 hk0 => by have e4 : 3 < tc := (by unfold crow at hr0; split at hr0; assumption; exact absurd hr0 (by decide)); have eb1 := ebb.2 e4 (by omega); exact ⟨by omega, fun x hx => by have := c5 x hx; omega⟩⟩⟩, by omega, by omega⟩ dX3_put_154
          · refine lv_iconst (v := nI (1)) C.hx C.hb dX3_put_117 (by decide) ?_
            refine lv_goto (tgt := 122) C.hx C.hb dX3_put_118 (by decide) ?_
            refine lv_istore (lv' := [(6, .int (nI (1))), (5, .int (nI (1))), (4, .int (nI (i))), (0, .ref (z 0)), (1, .long (key)), (3, .int (nI (len)))]) C.hx C.hb dX3_put_122 hl (by decide) rfl (fun ls hl => ?_)
            refine lv_aload_n C.hx C.hb dX3_put_124 rfl (lv_at hl 3 rfl) ?_
            refine lv_iload C.hx C.hb dX3_put_125 (lv_at hl 0 rfl) ?_
            refine n_if_ne (tgt := 134) C dX3_put_127 (by decide) (by decide) (fun _ => ?_) (fun h => absurd h (by decide))
            refine lv_iload C.hx C.hb dX3_put_134 (lv_at hl 1 rfl) ?_
            refine n_if_eq (tgt := 143) C dX3_put_136 (by decide) (by decide) (fun h => absurd h (by decide)) (fun _ => ?_)
            refine lv_iconst (v := nI (2)) C.hx C.hb dX3_put_139 (by decide) ?_
            refine lv_goto (tgt := 144) C.hx C.hb dX3_put_140 (by decide) ?_
            refine lv_iload C.hx C.hb dX3_put_144 (lv_at hl 2 rfl) ?_
            refine x3_cw (As := [.int (nI (2)), .int (nI (i))]) (rest := []) C X (c3_isCut_y (kk := 2) (i := i) (tc := tc) (nx := nx) d14 d12 (by omega) htc (by decide)) wy_X3_isCut ts_37 tw_467 rfl ⟨by decide, by decide⟩ rfl hl.1 rfl (Nat.le_of_ble_eq_true rfl) ⟨Nat.le_refl _, Nat.le_refl _⟩ dX3_put_146 (fun r v' fk' gl' go' gi' ga' gs' H locs hp X => ?_)
            obtain ⟨rfl, rfl, rfl, rfl, rfl, rfl, rfl, rfl⟩ := hp
            refine W.eq (g2 := F0 m 149 ls [.int (nI (1))]) rfl ?_
            refine n_if_eq (tgt := 155) C dX3_put_149 (by decide) (by decide) (fun h => absurd h (by decide)) (fun _ => ?_)
            refine lv_bipush (v := (-5)) C.hx C.hb dX3_put_152 (by decide) ?_
            have hkk : kos P S wd i = 1 := hko.2.1.mpr (by omega)
            rw [if_pos (by omega), hkk] at hT
            have ebp : cbump tc 1 = (if 2 < tc ∧ (2 : Nat) < 3 then 1 else 0) := by
              unfold cbump
              first | rfl | (split <;> split <;> omega)
            have erw : crow tc = (if tc = 4 then 1 else 0) := by
              unfold crow
              split <;> split <;> omega
            have ebb : cbump tc 1 ≤ 1 ∧ (3 < tc → 1 ≠ 2 → cbump tc 1 = 1) := by
              unfold cbump
              split <;> omega
            refine ret3_i C X ⟨0, _, _, _, _, _, _, _, hT.symm, rfl, nx + cbump tc 1, ac, 0, 1, crow tc, i, A, ⟨hR, hJ, c1, c2, c3, c4, fun x hx => Nat.lt_of_lt_of_le (c5 x hx) (Nat.le_add_right _ _), c6, b1, b2, b3, b4⟩, ⟨a0, a1, a2, a3, rfl, rfl, rfl, a15, a16, a17, a18, d1, d2, d3, d4, d8, d11, by rw [ebp]; rfl, d13, rfl, rfl, fun _ => ⟨rfl, rfl, rfl, rfl, by rw [erw]; rfl⟩⟩, ⟨by decide, by decide, fun _ => ⟨by unfold crow; split <;> decide, by omega, hkk.symm, hs1, fun hr0 hk0 => by have e4 : 3 < tc := (by unfold crow at hr0; split at hr0; assumption; exact absurd hr0 (by decide)); have eb1 := ebb.2 e4 (by omega); exact ⟨by omega, fun x hx => by have := c5 x hx; omega⟩⟩⟩, by omega, by omega⟩ dX3_put_154
      · refine lv_aload_n C.hx C.hb dX3_put_72 rfl (lv_at hl 1 rfl) ?_
        refine lv_lload_n C.hx C.hb dX3_put_73 rfl (lv_at hl 2 rfl) ?_
        refine lv_iload_n C.hx C.hb dX3_put_74 rfl (lv_at hl 3 rfl) ?_
        refine lv_aload_n C.hx C.hb dX3_put_75 rfl (lv_at hl 1 rfl) ?_
        refine x3g_9 C X dX3_put_76 ?_
        refine lv_iload C.hx C.hb dX3_put_79 (lv_at hl 0 rfl) ?_
        refine x3l_4 C X (by first | omega | exact hbo _ | exact hbi _ | exact hba _ | exact hbl _) dX3_put_81 ?_
        refine x3_cw (As := [.long (key), .int (nI (len)), .int (nI (gi i))]) (rest := []) C X (c3_insert ((⟨by omega, d8, r1⟩ : Ct0 (v) fk K)) (key := key) (len := len) (itv := (gi i)) (t := (ngt K key)) (lsT_n c1 hh)) wy_X3_insert ts_34 tw_455 rfl ⟨by decide, by decide⟩ rfl hl.1 rfl (Nat.le_of_ble_eq_true rfl) ⟨Nat.le_refl _, Nat.le_refl _⟩ dX3_put_82 (fun r v' fk' gl' go' gi' ga' gs' H locs hp X => ?_)
        obtain ⟨rfl, rfl, rfl, rfl, rfl, rfl, rfl, rfl⟩ := hp
        refine W.eq (g2 := F0 m 85 ls []) rfl ?_
        refine lv_iconst (v := nI (1)) C.hx C.hb dX3_put_85 (by decide) ?_
        rw [if_pos (by omega)] at hT
        have hcore := hC.ins1 hk hrm (key := key) (i := i) (t := ngt K key) (len := len) hpb.1 hpb.2.1 hpb.2.2 (srt_ins c1 hh) hl1 (by omega)
        exact ret3_i C X ⟨1, _, _, _, _, _, _, _, hT.symm, rfl, nx, ac, tc, 0, 0, 0, A, hcore, ⟨a0, a1, a2, a3, a9, a10, a11, a15, a16, a17, a18, d1, d2, d3, d4, by rw [ins_len hng]; rfl, by rw [List.length_set]; exact d11, d12, d13, d14, d17, fun h => absurd h (by decide)⟩, ⟨htc, by decide, fun h => absurd h (by decide)⟩, by omega, by omega⟩ dX3_put_86
