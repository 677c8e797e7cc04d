set_option maxHeartbeats 4000000 in
set_option maxRecDepth 100000 in
theorem l2_place {p : Program} {l : Launch} {e : Env} {s : State} {m : MethodId} {args : Array Value} {below : List Frame} {meth : Method} {c : Code} {E : Gq} {ws0 : va_W} {z : Nat → Nat} {key : Int64} {rm wd len tc : Nat} {T0 : Nat × (Nat → Int32) × Nat × List Int64 × List Nat × List Nat × List Nat × List Nat} (C : Cx E p s m args meth c cX2_place 7 (some .boolean) RX2 (va_A ws0 s.heap.size)) (hrm : rm ≤ 1000) (hwd : wd ≤ 20) (hw2 : 2 ≤ wd) (hlen : len ≤ 1000) (htc : tc ≤ 4) :
    ∀ (n d nx : Nat) (v : Nat → Int32) (kd : Nat) (K : List Int64) (L N S P : List Nat) (H : Heap) (locs : List Loc), d + n = 2400 → J2 K L N S P → K.length < 600 → nx + n < 2 ^ 30 → v 0 = nI rm → v 1 = nI wd → v 9 = nI nx → v 10 = nI tc → plc rm wd key len tc n nx v kd K L N S P = T0 → X2w E (va_A ws0 s.heap.size) z v kd K L N S P s H locs →
      ∀ ls : Array Slot, lv_has ls 7 [(4, .int (nI d)), (0, .ref (z 0)), (1, .long key), (3, .int (nI len))] → W p l e (Rm 5 0 0) s m args below meth c H locs 0 0 (MQ below (Qw E ws0 s.heap.size (P2 E z (fun r v' kd' K' L' N' S' P' => ∃ q, some (.int (nI q)) = r ∧ T0 = (q, v', kd', K', L', N', S', P')))) args s 0 0 (va_A ws0 s.heap.size)) (F0 m 3 ls []) := by
  intro n
  induction n with
  | zero =>
    intro d nx v kd K L N S P H locs hd hJ hk hnx hv0 hw hv9 hv10 hT X ls hl
    refine lv_iload C.hx C.hb dX2_place_3 (lv_at hl 0 rfl) ?_
    refine lv_sipush (v := nI (2400)) C.hx C.hb dX2_place_5 (by decide) ?_
    refine n_icmp_ge (tgt := 139) C dX2_place_8 (by decide) (by omega) (by omega) (fun c8 => ?_) (fun c8 => ?_)
    · refine lv_iconst (v := nI (0)) C.hx C.hb dX2_place_139 (by decide) ?_
      exact ret2_z C X (⟨0, rfl, hT.symm⟩) (by decide) dX2_place_140
    · omega
  | succ n ih =>
    intro d nx v kd K L N S P H locs hd hJ hk hnx hv0 hw hv9 hv10 hT X ls hl
    obtain ⟨j1, j2, j3, j4, j5, j6, j7, j8⟩ := id hJ
    obtain ⟨k1, k2, k3, k4⟩ := hJ.b
    have hng := ngt_le K key
    have hix : pIx K S key < S.length := gOf_lt j5
    have har : gOf P (pIx K S key) < P.length := gOf_lt k2
    have hll : lin L S (pIx K S key) ≤ L.sum := sm_le _ _ _
    have hgs := getD_le S (pIx K S key)
    simp only [plc] at hT
    rcases Nat.eq_zero_or_pos (ngt K key) with h0 | h0
    · refine lv_iload C.hx C.hb dX2_place_3 (lv_at hl 0 rfl) ?_
      refine lv_sipush (v := nI (2400)) C.hx C.hb dX2_place_5 (by decide) ?_
      refine n_icmp_ge (tgt := 139) C dX2_place_8 (by decide) (by omega) (by omega) (fun c8 => ?_) (fun c8 => ?_)
      · omega
      · refine lv_aload_n C.hx C.hb dX2_place_11 rfl (lv_at hl 1 rfl) ?_
        refine x2g_7 C X dX2_place_12 ?_
        refine lv_iconst (v := nI (0)) C.hx C.hb dX2_place_15 (by decide) ?_
        refine lv_aload_n C.hx C.hb dX2_place_16 rfl (lv_at hl 1 rfl) ?_
        refine lv_lload_n C.hx C.hb dX2_place_17 rfl (lv_at hl 2 rfl) ?_
        refine x2_cr (As := [.long (key)]) (rest := [.int (nI (0)), .ref (z 4)]) C X (c2_notGreaterThan (key := key)) wy_X2_notGreaterThan ts_7 tw_141 rfl ⟨by decide, by decide⟩ rfl hl.1 rfl (Nat.le_of_ble_eq_true rfl) ⟨Nat.le_refl _, Nat.le_refl _⟩ dX2_place_18 (fun r hp => ?_)
        subst hp
        refine W.eq (g2 := F0 m 21 ls [.int (nI (ngt K key)), .int (nI (0)), .ref (z 4)]) rfl ?_
        refine lv_iconst (v := nI (1)) C.hx C.hb dX2_place_21 (by decide) ?_
        refine lv_isub C.hx C.hb dX2_place_22 ?_
        refine va_mmax C.hx C.hb (C.hml.trans hl.1.symm) C.hown (C.hts _ tw_47) (C.hts _ tw_28) (C.hts _ tw_3) (C.hts _ tw_29) (by decide) (Nat.le_of_ble_eq_true rfl) (Nat.le_refl _) (Nat.le_refl _) dX2_place_23 ?_
        refine n_re (j := nI 0) (by rw [h0]; decide) ?_
        refine x2_groupOf_4 C X (by omega) (by omega) ⟨by decide, by decide⟩ hl.1 (Nat.le_of_ble_eq_true rfl) ⟨Nat.le_refl _, Nat.le_refl _⟩ dX2_place_26 ?_
        refine n_re (j := nI (pIx K S key)) (by unfold pIx; rw [h0]) ?_
        refine lv_istore (lv' := [(5, .int (nI (pIx K S key))), (4, .int (nI (d))), (0, .ref (z 0)), (1, .long (key)), (3, .int (nI (len)))]) C.hx C.hb dX2_place_29 hl (by decide) rfl (fun ls hl => ?_)
        refine lv_aload_n C.hx C.hb dX2_place_31 rfl (lv_at hl 2 rfl) ?_
        refine lv_iload C.hx C.hb dX2_place_32 (lv_at hl 0 rfl) ?_
        refine x2_cr (As := [.int (nI (pIx K S key))]) (rest := []) C X (c2_lengthsIn (i := pIx K S key) (by omega) (by omega)) wy_X2_lengthsIn ts_10 tw_154 rfl ⟨by decide, by decide⟩ rfl hl.1 rfl (Nat.le_of_ble_eq_true rfl) ⟨Nat.le_refl _, Nat.le_refl _⟩ dX2_place_34 (fun r hp => ?_)
        subst hp
        refine W.eq (g2 := F0 m 37 ls [.int (nI (lin L S (pIx K S key)))]) rfl ?_
        refine lv_iload_n C.hx C.hb dX2_place_37 rfl (lv_at hl 4 rfl) ?_
        refine n_add C dX2_place_38 ?_
        refine lv_aload_n C.hx C.hb dX2_place_39 rfl (lv_at hl 2 rfl) ?_
        refine x2g_0 C X (x := nI (rm)) hv0 dX2_place_40 ?_
        refine n_icmp_gt (tgt := 56) C dX2_place_43 (by decide) (by omega) (by omega) (fun c43 => ?_) (fun c43 => ?_)
        · refine lv_aload_n C.hx C.hb dX2_place_56 rfl (lv_at hl 2 rfl) ?_
          refine lv_iload C.hx C.hb dX2_place_57 (lv_at hl 0 rfl) ?_
          refine x2_cr (As := [.int (nI (pIx K S key))]) (rest := []) C X (c2_kindOfSplit (i := pIx K S key) (wd := wd) (by omega) (by omega) (by omega) hw hwd) wy_X2_kindOfSplit ts_13 tw_166 rfl ⟨by decide, by decide⟩ rfl hl.1 rfl (Nat.le_of_ble_eq_true rfl) ⟨Nat.le_refl _, Nat.le_refl _⟩ dX2_place_59 (fun r hp => ?_)
          subst hp
          refine W.eq (g2 := F0 m 62 ls [.ref (E.2.2.2 (kos P S wd (pIx K S key)))]) rfl ?_
          refine lv_astore (lv' := [(6, .ref (E.2.2.2 (kos P S wd (pIx K S key)))), (5, .int (nI (pIx K S key))), (4, .int (nI (d))), (0, .ref (z 0)), (1, .long (key)), (3, .int (nI (len)))]) C.hx C.hb dX2_place_62 hl (by decide) rfl (fun ls hl => ?_)
          refine lv_aload_n C.hx C.hb dX2_place_64 rfl (lv_at hl 3 rfl) ?_
          refine x2g_10 C X (x := nI (tc)) hv10 dX2_place_65 ?_
          refine n_if_eq (tgt := 81) C dX2_place_68 (by decide) (by omega) (fun c68 => ?_) (fun c68 => ?_)
          · refine lv_aload C.hx C.hb dX2_place_81 (lv_at hl 0 rfl) ?_
            refine x2_kind_1 C X dX2_place_83 ?_
            refine x2_acmp_ne (tgt := 99) C (i := (kos P S wd (pIx K S key))) (j := 1) (kos_lt _ _ _ _) (by decide) dX2_place_86 (by decide) (fun c86 => ?_) (fun c86 => ?_)
            · refine lv_aload C.hx C.hb dX2_place_99 (lv_at hl 0 rfl) ?_
              refine x2_kind_2 C X dX2_place_101 ?_
              refine x2_acmp_ne (tgt := 123) C (i := (kos P S wd (pIx K S key))) (j := 2) (kos_lt _ _ _ _) (by decide) dX2_place_104 (by decide) (fun c104 => ?_) (fun c104 => ?_)
              · have hkb := kbh_b (L := L) (S := S) (i := pIx K S key) (by have hk0 : kos P S wd (pIx K S key) = 0 := (by have := kos_lt P S wd (pIx K S key); omega); unfold kos at hk0; split at hk0; omega; split at hk0; omega; omega)
                have hk2 : ¬ wd ≤ P.getD (gOf P (pIx K S key)) 0 := fun h => c104 (by unfold kos; rw [if_pos h])
                refine lv_aload_n C.hx C.hb dX2_place_123 rfl (lv_at hl 3 rfl) ?_
                refine lv_iload C.hx C.hb dX2_place_124 (lv_at hl 1 rfl) ?_
                refine lv_aload_n C.hx C.hb dX2_place_126 rfl (lv_at hl 3 rfl) ?_
                refine x2_cw (As := []) (rest := [.int (nI (pIx K S key)), .ref (z 0)]) C X (c2_takeNumber (nx := nx) hv9) wy_X2_takeNumber ts_1 tw_52 rfl ⟨by decide, by decide⟩ rfl hl.1 rfl (Nat.le_of_ble_eq_true rfl) ⟨Nat.le_refl _, Nat.le_refl _⟩ dX2_place_127 (fun r v' kd' K' L' N' S' P' H locs hp X => ?_)
                obtain ⟨rfl, rfl, rfl, rfl, rfl, rfl, rfl, rfl⟩ := hp
                refine W.eq (g2 := F0 m 130 ls [.int (nI (nx)), .int (nI (pIx K S key)), .ref (z 0)]) rfl ?_
                refine x2_cw (As := [.int (nI (pIx K S key)), .int (nI (nx))]) (rest := []) C X (c2_halveInterval (i := (pIx K S key)) (num := nx) (by omega) (by omega) (by omega) (by omega) (by omega) (by omega) (by omega) (by omega) (by omega)) wy_X2_halveInterval ts_18 tw_190 rfl ⟨by decide, by decide⟩ rfl hl.1 rfl (Nat.le_of_ble_eq_true rfl) ⟨Nat.le_refl _, Nat.le_refl _⟩ dX2_place_130 (fun r v' kd' K' L' N' S' P' H locs hp X => ?_)
                obtain ⟨rfl, rfl, rfl, rfl, rfl, rfl, rfl, rfl⟩ := hp
                refine W.eq (g2 := F0 m 133 ls []) rfl ?_
                refine lv_iinc (v := nI (d + 1)) (lv' := [(4, .int (nI (d + 1))), (6, .ref (E.2.2.2 (kos P S wd (pIx K S key)))), (5, .int (nI (pIx K S key))), (0, .ref (z 0)), (1, .long (key)), (3, .int (nI (len)))]) C.hx C.hb dX2_place_133 hl (k := 2) rfl (nI_1 _) (by decide) rfl (fun ls hl => ?_)
                refine lv_goto (tgt := 3) C.hx C.hb dX2_place_136 (by decide) ?_
                exact ih (d + 1) (nx + 1) (upd (upd v 9 (nI (nx + 1))) 15 ((upd v 9 (nI (nx + 1))) 15 + nI 1)) kd K L (ins N ((pIx K S key) + 1) nx) (ins (S.set (pIx K S key) (S.getD (pIx K S key) 0 - (S.getD (pIx K S key) 0 - kbh L S (pIx K S key)))) ((pIx K S key) + 1) (S.getD (pIx K S key) 0 - kbh L S (pIx K S key))) (P.set (gOf P (pIx K S key)) (P.getD (gOf P (pIx K S key)) 0 + 1)) H locs (by omega) (hJ.halve hix har hkb.1 hkb.2) hk (by omega) hv0 hw rfl hv10 (by rw [if_neg (by omega), if_neg (by omega), if_neg c86, if_neg c104] at hT; exact hT) X ls (lv_sub hl [0, 3, 4, 5] rfl)
              · have hk2 : wd ≤ P.getD (gOf P (pIx K S key)) 0 := by
                  unfold kos at c104; split at c104; assumption; split at c104 <;> omega
                refine lv_aload_n C.hx C.hb dX2_place_107 rfl (lv_at hl 3 rfl) ?_
                refine lv_aload_n C.hx C.hb dX2_place_108 rfl (lv_at hl 3 rfl) ?_
                refine x2g_8 C X dX2_place_109 ?_
                refine lv_iload C.hx C.hb dX2_place_112 (lv_at hl 1 rfl) ?_
                refine x2_groupOf_5 C X (by omega) (by omega) ⟨by decide, by decide⟩ hl.1 (Nat.le_of_ble_eq_true rfl) ⟨Nat.le_refl _, Nat.le_refl _⟩ dX2_place_114 ?_
                refine x2_cw (As := [.int (nI (gOf P (pIx K S key)))]) (rest := []) C X (c2_splitArea (a := gOf P (pIx K S key)) (wd := wd) hw hwd (by omega) (by omega) (by omega)) wy_X2_splitArea ts_17 tw_186 rfl ⟨by decide, by decide⟩ rfl hl.1 rfl (Nat.le_of_ble_eq_true rfl) ⟨Nat.le_refl _, Nat.le_refl _⟩ dX2_place_117 (fun r v' kd' K' L' N' S' P' H locs hp X => ?_)
                obtain ⟨rfl, rfl, rfl, rfl, rfl, rfl, rfl, rfl⟩ := hp
                refine W.eq (g2 := F0 m 120 ls []) rfl ?_
                refine lv_goto (tgt := 133) C.hx C.hb dX2_place_120 (by decide) ?_
                refine lv_iinc (v := nI (d + 1)) (lv' := [(4, .int (nI (d + 1))), (6, .ref (E.2.2.2 (kos P S wd (pIx K S key)))), (5, .int (nI (pIx K S key))), (0, .ref (z 0)), (1, .long (key)), (3, .int (nI (len)))]) C.hx C.hb dX2_place_133 hl (k := 2) rfl (nI_1 _) (by decide) rfl (fun ls hl => ?_)
                refine lv_goto (tgt := 3) C.hx C.hb dX2_place_136 (by decide) ?_
                exact ih (d + 1) nx (upd v 16 (v 16 + nI 1)) kd K L N S (ins (P.set (gOf P (pIx K S key)) (P.getD (gOf P (pIx K S key)) 0 - wd / 2)) ((gOf P (pIx K S key)) + 1) (wd / 2)) H locs (by omega) (hJ.area har (by omega) (by omega)) hk (by omega) hv0 hw hv9 hv10 (by rw [if_neg (by omega), if_neg (by omega), if_neg c86, if_pos c104] at hT; exact hT) X ls (lv_sub hl [0, 3, 4, 5] rfl)
            · refine lv_aload_n C.hx C.hb dX2_place_89 rfl (lv_at hl 3 rfl) ?_
              refine lv_iload C.hx C.hb dX2_place_90 (lv_at hl 1 rfl) ?_
              refine lv_lload_n C.hx C.hb dX2_place_92 rfl (lv_at hl 4 rfl) ?_
              refine lv_iload_n C.hx C.hb dX2_place_93 rfl (lv_at hl 5 rfl) ?_
              refine x2_cw (As := [.int (nI (pIx K S key)), .long (key), .int (nI (len))]) (rest := []) C X (c2_giveOwnInterval (i := (pIx K S key)) (key := key) (len := len) (nx := nx) hv9 (by omega) (by omega) (by omega) (by omega) (by omega) (by omega) (by omega) (by omega) (by omega) (by omega)) wy_X2_giveOwnInterval ts_15 tw_178 rfl ⟨by decide, by decide⟩ rfl hl.1 rfl (Nat.le_of_ble_eq_true rfl) ⟨Nat.le_refl _, Nat.le_refl _⟩ dX2_place_94 (fun r v' kd' K' L' N' S' P' H locs hp X => ?_)
              obtain ⟨rfl, rfl, rfl, rfl, rfl, rfl, rfl, rfl⟩ := hp
              refine W.eq (g2 := F0 m 97 ls []) rfl ?_
              refine lv_iconst (v := nI (1)) C.hx C.hb dX2_place_97 (by decide) ?_
              exact ret2_z C X (⟨1, rfl, by rw [if_neg (by omega), if_neg (by omega), if_pos c86] at hT; exact hT.symm⟩) (by decide) dX2_place_98
          · refine lv_aload_n C.hx C.hb dX2_place_71 rfl (lv_at hl 3 rfl) ?_
            refine lv_aload C.hx C.hb dX2_place_72 (lv_at hl 0 rfl) ?_
            refine lv_iload C.hx C.hb dX2_place_74 (lv_at hl 1 rfl) ?_
            refine x2_cw (As := [.ref (E.2.2.2 (kos P S wd (pIx K S key))), .int (nI (pIx K S key))]) (rest := []) C X (c2_closeAhead (nx := nx) (tc := tc) (k := (kos P S wd (pIx K S key))) (i := (pIx K S key)) hv9 hv10 (by omega) (kos_lt _ _ _ _)) wy_X2_closeAhead ts_14 tw_174 rfl ⟨by decide, by decide⟩ rfl hl.1 rfl (Nat.le_of_ble_eq_true rfl) ⟨Nat.le_refl _, Nat.le_refl _⟩ dX2_place_76 (fun r v' kd' K' L' N' S' P' H locs hp X => ?_)
            obtain ⟨rfl, rfl, rfl, rfl, rfl, rfl, rfl, rfl⟩ := hp
            refine W.eq (g2 := F0 m 79 ls []) rfl ?_
            refine lv_iconst (v := nI (0)) C.hx C.hb dX2_place_79 (by decide) ?_
            exact ret2_z C X (⟨0, rfl, by rw [if_neg (by omega), if_pos c68] at hT; exact hT.symm⟩) (by decide) dX2_place_80
        · refine lv_aload_n C.hx C.hb dX2_place_46 rfl (lv_at hl 2 rfl) ?_
          refine lv_iload C.hx C.hb dX2_place_47 (lv_at hl 0 rfl) ?_
          refine lv_lload_n C.hx C.hb dX2_place_49 rfl (lv_at hl 3 rfl) ?_
          refine lv_iload_n C.hx C.hb dX2_place_50 rfl (lv_at hl 4 rfl) ?_
          refine x2_cw (As := [.int (nI (pIx K S key)), .long (key), .int (nI (len))]) (rest := []) C X (c2_insertRecord (i := pIx K S key) (key := key) (len := len) (by omega) (by omega) (by omega) (by omega)) wy_X2_insertRecord ts_12 tw_162 rfl ⟨by decide, by decide⟩ rfl hl.1 rfl (Nat.le_of_ble_eq_true rfl) ⟨Nat.le_refl _, Nat.le_refl _⟩ dX2_place_51 (fun r v' kd' K' L' N' S' P' H locs hp X => ?_)
          obtain ⟨rfl, rfl, rfl, rfl, rfl, rfl, rfl, rfl⟩ := hp
          refine W.eq (g2 := F0 m 54 ls []) rfl ?_
          refine lv_iconst (v := nI (1)) C.hx C.hb dX2_place_54 (by decide) ?_
          exact ret2_z C X (⟨1, rfl, by rw [if_pos (by omega)] at hT; exact hT.symm⟩) (by decide) dX2_place_55
    · refine lv_iload C.hx C.hb dX2_place_3 (lv_at hl 0 rfl) ?_
      refine lv_sipush (v := nI (2400)) C.hx C.hb dX2_place_5 (by decide) ?_
      refine n_icmp_ge (tgt := 139) C dX2_place_8 (by decide) (by omega) (by omega) (fun c8 => ?_) (fun c8 => ?_)
      · omega
      · refine lv_aload_n C.hx C.hb dX2_place_11 rfl (lv_at hl 1 rfl) ?_
        refine x2g_7 C X dX2_place_12 ?_
        refine lv_iconst (v := nI (0)) C.hx C.hb dX2_place_15 (by decide) ?_
        refine lv_aload_n C.hx C.hb dX2_place_16 rfl (lv_at hl 1 rfl) ?_
        refine lv_lload_n C.hx C.hb dX2_place_17 rfl (lv_at hl 2 rfl) ?_
        refine x2_cr (As := [.long (key)]) (rest := [.int (nI (0)), .ref (z 4)]) C X (c2_notGreaterThan (key := key)) wy_X2_notGreaterThan ts_7 tw_141 rfl ⟨by decide, by decide⟩ rfl hl.1 rfl (Nat.le_of_ble_eq_true rfl) ⟨Nat.le_refl _, Nat.le_refl _⟩ dX2_place_18 (fun r hp => ?_)
        subst hp
        refine W.eq (g2 := F0 m 21 ls [.int (nI (ngt K key)), .int (nI (0)), .ref (z 4)]) rfl ?_
        refine lv_iconst (v := nI (1)) C.hx C.hb dX2_place_21 (by decide) ?_
        refine n_sub C dX2_place_22 (by omega) ?_
        refine va_mmax C.hx C.hb (C.hml.trans hl.1.symm) C.hown (C.hts _ tw_47) (C.hts _ tw_28) (C.hts _ tw_3) (C.hts _ tw_29) (by decide) (Nat.le_of_ble_eq_true rfl) (Nat.le_refl _) (Nat.le_refl _) dX2_place_23 ?_
        refine n_re (j := nI (max 0 ((ngt K key) - 1))) (nmax (by omega) (by omega)) ?_
        refine n_re (j := nI (ngt K key - 1)) (by rw [Nat.zero_max]) ?_
        refine x2_groupOf_4 C X (by omega) (by omega) ⟨by decide, by decide⟩ hl.1 (Nat.le_of_ble_eq_true rfl) ⟨Nat.le_refl _, Nat.le_refl _⟩ dX2_place_26 ?_
        refine n_re (j := nI (pIx K S key)) rfl ?_
        refine lv_istore (lv' := [(5, .int (nI (pIx K S key))), (4, .int (nI (d))), (0, .ref (z 0)), (1, .long (key)), (3, .int (nI (len)))]) C.hx C.hb dX2_place_29 hl (by decide) rfl (fun ls hl => ?_)
        refine lv_aload_n C.hx C.hb dX2_place_31 rfl (lv_at hl 2 rfl) ?_
        refine lv_iload C.hx C.hb dX2_place_32 (lv_at hl 0 rfl) ?_
        refine x2_cr (As := [.int (nI (pIx K S key))]) (rest := []) C X (c2_lengthsIn (i := pIx K S key) (by omega) (by omega)) wy_X2_lengthsIn ts_10 tw_154 rfl ⟨by decide, by decide⟩ rfl hl.1 rfl (Nat.le_of_ble_eq_true rfl) ⟨Nat.le_refl _, Nat.le_refl _⟩ dX2_place_34 (fun r hp => ?_)
        subst hp
        refine W.eq (g2 := F0 m 37 ls [.int (nI (lin L S (pIx K S key)))]) rfl ?_
        refine lv_iload_n C.hx C.hb dX2_place_37 rfl (lv_at hl 4 rfl) ?_
        refine n_add C dX2_place_38 ?_
        refine lv_aload_n C.hx C.hb dX2_place_39 rfl (lv_at hl 2 rfl) ?_
        refine x2g_0 C X (x := nI (rm)) hv0 dX2_place_40 ?_
        refine n_icmp_gt (tgt := 56) C dX2_place_43 (by decide) (by omega) (by omega) (fun c43 => ?_) (fun c43 => ?_)
        · refine lv_aload_n C.hx C.hb dX2_place_56 rfl (lv_at hl 2 rfl) ?_
          refine lv_iload C.hx C.hb dX2_place_57 (lv_at hl 0 rfl) ?_
          refine x2_cr (As := [.int (nI (pIx K S key))]) (rest := []) C X (c2_kindOfSplit (i := pIx K S key) (wd := wd) (by omega) (by omega) (by omega) hw hwd) wy_X2_kindOfSplit ts_13 tw_166 rfl ⟨by decide, by decide⟩ rfl hl.1 rfl (Nat.le_of_ble_eq_true rfl) ⟨Nat.le_refl _, Nat.le_refl _⟩ dX2_place_59 (fun r hp => ?_)
          subst hp
          refine W.eq (g2 := F0 m 62 ls [.ref (E.2.2.2 (kos P S wd (pIx K S key)))]) rfl ?_
          refine lv_astore (lv' := [(6, .ref (E.2.2.2 (kos P S wd (pIx K S key)))), (5, .int (nI (pIx K S key))), (4, .int (nI (d))), (0, .ref (z 0)), (1, .long (key)), (3, .int (nI (len)))]) C.hx C.hb dX2_place_62 hl (by decide) rfl (fun ls hl => ?_)
          refine lv_aload_n C.hx C.hb dX2_place_64 rfl (lv_at hl 3 rfl) ?_
          refine x2g_10 C X (x := nI (tc)) hv10 dX2_place_65 ?_
          refine n_if_eq (tgt := 81) C dX2_place_68 (by decide) (by omega) (fun c68 => ?_) (fun c68 => ?_)
          · refine lv_aload C.hx C.hb dX2_place_81 (lv_at hl 0 rfl) ?_
            refine x2_kind_1 C X dX2_place_83 ?_
            refine x2_acmp_ne (tgt := 99) C (i := (kos P S wd (pIx K S key))) (j := 1) (kos_lt _ _ _ _) (by decide) dX2_place_86 (by decide) (fun c86 => ?_) (fun c86 => ?_)
            · refine lv_aload C.hx C.hb dX2_place_99 (lv_at hl 0 rfl) ?_
              refine x2_kind_2 C X dX2_place_101 ?_
              refine x2_acmp_ne (tgt := 123) C (i := (kos P S wd (pIx K S key))) (j := 2) (kos_lt _ _ _ _) (by decide) dX2_place_104 (by decide) (fun c104 => ?_) (fun c104 => ?_)
              · have hkb := kbh_b (L := L) (S := S) (i := pIx K S key) (by have hk0 : kos P S wd (pIx K S key) = 0 := (by have := kos_lt P S wd (pIx K S key); omega); unfold kos at hk0; split at hk0; omega; split at hk0; omega; omega)
                have hk2 : ¬ wd ≤ P.getD (gOf P (pIx K S key)) 0 := fun h => c104 (by unfold kos; rw [if_pos h])
                refine lv_aload_n C.hx C.hb dX2_place_123 rfl (lv_at hl 3 rfl) ?_
                refine lv_iload C.hx C.hb dX2_place_124 (lv_at hl 1 rfl) ?_
                refine lv_aload_n C.hx C.hb dX2_place_126 rfl (lv_at hl 3 rfl) ?_
                refine x2_cw (As := []) (rest := [.int (nI (pIx K S key)), .ref (z 0)]) C X (c2_takeNumber (nx := nx) hv9) wy_X2_takeNumber ts_1 tw_52 rfl ⟨by decide, by decide⟩ rfl hl.1 rfl (Nat.le_of_ble_eq_true rfl) ⟨Nat.le_refl _, Nat.le_refl _⟩ dX2_place_127 (fun r v' kd' K' L' N' S' P' H locs hp X => ?_)
                obtain ⟨rfl, rfl, rfl, rfl, rfl, rfl, rfl, rfl⟩ := hp
                refine W.eq (g2 := F0 m 130 ls [.int (nI (nx)), .int (nI (pIx K S key)), .ref (z 0)]) rfl ?_
                refine x2_cw (As := [.int (nI (pIx K S key)), .int (nI (nx))]) (rest := []) C X (c2_halveInterval (i := (pIx K S key)) (num := nx) (by omega) (by omega) (by omega) (by omega) (by omega) (by omega) (by omega) (by omega) (by omega)) wy_X2_halveInterval ts_18 tw_190 rfl ⟨by decide, by decide⟩ rfl hl.1 rfl (Nat.le_of_ble_eq_true rfl) ⟨Nat.le_refl _, Nat.le_refl _⟩ dX2_place_130 (fun r v' kd' K' L' N' S' P' H locs hp X => ?_)
                obtain ⟨rfl, rfl, rfl, rfl, rfl, rfl, rfl, rfl⟩ := hp
                refine W.eq (g2 := F0 m 133 ls []) rfl ?_
                refine lv_iinc (v := nI (d + 1)) (lv' := [(4, .int (nI (d + 1))), (6, .ref (E.2.2.2 (kos P S wd (pIx K S key)))), (5, .int (nI (pIx K S key))), (0, .ref (z 0)), (1, .long (key)), (3, .int (nI (len)))]) C.hx C.hb dX2_place_133 hl (k := 2) rfl (nI_1 _) (by decide) rfl (fun ls hl => ?_)
                refine lv_goto (tgt := 3) C.hx C.hb dX2_place_136 (by decide) ?_
                exact ih (d + 1) (nx + 1) (upd (upd v 9 (nI (nx + 1))) 15 ((upd v 9 (nI (nx + 1))) 15 + nI 1)) kd K L (ins N ((pIx K S key) + 1) nx) (ins (S.set (pIx K S key) (S.getD (pIx K S key) 0 - (S.getD (pIx K S key) 0 - kbh L S (pIx K S key)))) ((pIx K S key) + 1) (S.getD (pIx K S key) 0 - kbh L S (pIx K S key))) (P.set (gOf P (pIx K S key)) (P.getD (gOf P (pIx K S key)) 0 + 1)) H locs (by omega) (hJ.halve hix har hkb.1 hkb.2) hk (by omega) hv0 hw rfl hv10 (by rw [if_neg (by omega), if_neg (by omega), if_neg c86, if_neg c104] at hT; exact hT) X ls (lv_sub hl [0, 3, 4, 5] rfl)
              · have hk2 : wd ≤ P.getD (gOf P (pIx K S key)) 0 := by
                  unfold kos at c104; split at c104; assumption; split at c104 <;> omega
                refine lv_aload_n C.hx C.hb dX2_place_107 rfl (lv_at hl 3 rfl) ?_
                refine lv_aload_n C.hx C.hb dX2_place_108 rfl (lv_at hl 3 rfl) ?_
                refine x2g_8 C X dX2_place_109 ?_
                refine lv_iload C.hx C.hb dX2_place_112 (lv_at hl 1 rfl) ?_
                refine x2_groupOf_5 C X (by omega) (by omega) ⟨by decide, by decide⟩ hl.1 (Nat.le_of_ble_eq_true rfl) ⟨Nat.le_refl _, Nat.le_refl _⟩ dX2_place_114 ?_
                refine x2_cw (As := [.int (nI (gOf P (pIx K S key)))]) (rest := []) C X (c2_splitArea (a := gOf P (pIx K S key)) (wd := wd) hw hwd (by omega) (by omega) (by omega)) wy_X2_splitArea ts_17 tw_186 rfl ⟨by decide, by decide⟩ rfl hl.1 rfl (Nat.le_of_ble_eq_true rfl) ⟨Nat.le_refl _, Nat.le_refl _⟩ dX2_place_117 (fun r v' kd' K' L' N' S' P' H locs hp X => ?_)
                obtain ⟨rfl, rfl, rfl, rfl, rfl, rfl, rfl, rfl⟩ := hp
                refine W.eq (g2 := F0 m 120 ls []) rfl ?_
                refine lv_goto (tgt := 133) C.hx C.hb dX2_place_120 (by decide) ?_
                refine lv_iinc (v := nI (d + 1)) (lv' := [(4, .int (nI (d + 1))), (6, .ref (E.2.2.2 (kos P S wd (pIx K S key)))), (5, .int (nI (pIx K S key))), (0, .ref (z 0)), (1, .long (key)), (3, .int (nI (len)))]) C.hx C.hb dX2_place_133 hl (k := 2) rfl (nI_1 _) (by decide) rfl (fun ls hl => ?_)
                refine lv_goto (tgt := 3) C.hx C.hb dX2_place_136 (by decide) ?_
                exact ih (d + 1) nx (upd v 16 (v 16 + nI 1)) kd K L N S (ins (P.set (gOf P (pIx K S key)) (P.getD (gOf P (pIx K S key)) 0 - wd / 2)) ((gOf P (pIx K S key)) + 1) (wd / 2)) H locs (by omega) (hJ.area har (by omega) (by omega)) hk (by omega) hv0 hw hv9 hv10 (by rw [if_neg (by omega), if_neg (by omega), if_neg c86, if_pos c104] at hT; exact hT) X ls (lv_sub hl [0, 3, 4, 5] rfl)
            · refine lv_aload_n C.hx C.hb dX2_place_89 rfl (lv_at hl 3 rfl) ?_
              refine lv_iload C.hx C.hb dX2_place_90 (lv_at hl 1 rfl) ?_
              refine lv_lload_n C.hx C.hb dX2_place_92 rfl (lv_at hl 4 rfl) ?_
              refine lv_iload_n C.hx C.hb dX2_place_93 rfl (lv_at hl 5 rfl) ?_
              refine x2_cw (As := [.int (nI (pIx K S key)), .long (key), .int (nI (len))]) (rest := []) C X (c2_giveOwnInterval (i := (pIx K S key)) (key := key) (len := len) (nx := nx) hv9 (by omega) (by omega) (by omega) (by omega) (by omega) (by omega) (by omega) (by omega) (by omega) (by omega)) wy_X2_giveOwnInterval ts_15 tw_178 rfl ⟨by decide, by decide⟩ rfl hl.1 rfl (Nat.le_of_ble_eq_true rfl) ⟨Nat.le_refl _, Nat.le_refl _⟩ dX2_place_94 (fun r v' kd' K' L' N' S' P' H locs hp X => ?_)
              obtain ⟨rfl, rfl, rfl, rfl, rfl, rfl, rfl, rfl⟩ := hp
              refine W.eq (g2 := F0 m 97 ls []) rfl ?_
              refine lv_iconst (v := nI (1)) C.hx C.hb dX2_place_97 (by decide) ?_
              exact ret2_z C X (⟨1, rfl, by rw [if_neg (by omega), if_neg (by omega), if_pos c86] at hT; exact hT.symm⟩) (by decide) dX2_place_98
          · refine lv_aload_n C.hx C.hb dX2_place_71 rfl (lv_at hl 3 rfl) ?_
            refine lv_aload C.hx C.hb dX2_place_72 (lv_at hl 0 rfl) ?_
            refine lv_iload C.hx C.hb dX2_place_74 (lv_at hl 1 rfl) ?_
            refine x2_cw (As := [.ref (E.2.2.2 (kos P S wd (pIx K S key))), .int (nI (pIx K S key))]) (rest := []) C X (c2_closeAhead (nx := nx) (tc := tc) (k := (kos P S wd (pIx K S key))) (i := (pIx K S key)) hv9 hv10 (by omega) (kos_lt _ _ _ _)) wy_X2_closeAhead ts_14 tw_174 rfl ⟨by decide, by decide⟩ rfl hl.1 rfl (Nat.le_of_ble_eq_true rfl) ⟨Nat.le_refl _, Nat.le_refl _⟩ dX2_place_76 (fun r v' kd' K' L' N' S' P' H locs hp X => ?_)
            obtain ⟨rfl, rfl, rfl, rfl, rfl, rfl, rfl, rfl⟩ := hp
            refine W.eq (g2 := F0 m 79 ls []) rfl ?_
            refine lv_iconst (v := nI (0)) C.hx C.hb dX2_place_79 (by decide) ?_
            exact ret2_z C X (⟨0, rfl, by rw [if_neg (by omega), if_pos c68] at hT; exact hT.symm⟩) (by decide) dX2_place_80
        · refine lv_aload_n C.hx C.hb dX2_place_46 rfl (lv_at hl 2 rfl) ?_
          refine lv_iload C.hx C.hb dX2_place_47 (lv_at hl 0 rfl) ?_
          refine lv_lload_n C.hx C.hb dX2_place_49 rfl (lv_at hl 3 rfl) ?_
          refine lv_iload_n C.hx C.hb dX2_place_50 rfl (lv_at hl 4 rfl) ?_
          refine x2_cw (As := [.int (nI (pIx K S key)), .long (key), .int (nI (len))]) (rest := []) C X (c2_insertRecord (i := pIx K S key) (key := key) (len := len) (by omega) (by omega) (by omega) (by omega)) wy_X2_insertRecord ts_12 tw_162 rfl ⟨by decide, by decide⟩ rfl hl.1 rfl (Nat.le_of_ble_eq_true rfl) ⟨Nat.le_refl _, Nat.le_refl _⟩ dX2_place_51 (fun r v' kd' K' L' N' S' P' H locs hp X => ?_)
          obtain ⟨rfl, rfl, rfl, rfl, rfl, rfl, rfl, rfl⟩ := hp
          refine W.eq (g2 := F0 m 54 ls []) rfl ?_
          refine lv_iconst (v := nI (1)) C.hx C.hb dX2_place_54 (by decide) ?_
          exact ret2_z C X (⟨1, rfl, by rw [if_pos (by omega)] at hT; exact hT.symm⟩) (by decide) dX2_place_55
set_option maxHeartbeats 4000000 in
set_option maxRecDepth 100000 in
/-- a record is put, with its splits -/
theorem c2_place {l : Launch} {E : Gq} {z : Nat → Nat} {v : Nat → Int32} {kd : Nat} {K : List Int64} {L N S P : List Nat} {key : Int64} {len rm wd nx tc : Nat} (hrm : rm ≤ 1000) (hwd : wd ≤ 20) (hw2 : 2 ≤ wd) (hlen : len ≤ 1000) (htc : tc ≤ 4) (hJ : J2 K L N S P) (hk : K.length < 600) (hnx : nx + 2400 < 2 ^ 30) (hv0 : v 0 = nI rm) (hw : v 1 = nI wd) (hv9 : v 9 = nI nx) (hv10 : v 10 = nI tc) : M2w l E yX2_place cX2_place 7 (some .boolean) 5 [.ref (z 0), .long (key), .int (nI (len))] z v kd K L N S P (fun r v' kd' K' L' N' S' P' => ∃ q, some (.int (nI q)) = r ∧ plc rm wd key len tc 2400 nx v kd K L N S P = (q, v', kd', K', L', N', S', P')) := by
  intro f hf
  obtain ⟨b1, b2, b3, b4, b5⟩ := hf.lens
  refine mk_w (by decide) (Nat.le_of_ble_eq_true rfl) ?_
  intro p e s m below meth c ls C Wd hl
  have X : X2w E _ z v kd K L N S P s s.heap [] := ⟨f, Wd, hf⟩
  have hl : lv_has ls 7 [(0, .ref (z 0)), (1, .long (key)), (3, .int (nI (len)))] := hl
  refine lv_iconst (v := nI (0)) C.hx C.hb dX2_place_0 (by decide) ?_
  refine lv_istore (lv' := [(4, .int (nI (0))), (0, .ref (z 0)), (1, .long (key)), (3, .int (nI (len)))]) C.hx C.hb dX2_place_1 hl (by decide) rfl (fun ls hl => ?_)
  exact l2_place C hrm hwd hw2 hlen htc 2400 0 nx v kd K L N S P _ _ rfl hJ hk hnx hv0 hw hv9 hv10 rfl X ls (lv_sub hl [0, 1, 2, 3] rfl)
