set_option maxHeartbeats 4000000 in
set_option maxRecDepth 100000 in
theorem l3_rm1 {p : Program} {l : Launch} {e : Env} {s : State} {m : MethodId} {args : Array Value} {below : List Frame} {meth : Method} {c : Code} {E : Gq} {A : Nat → Prop} {R : Room} {Q : State → Prop} {z : Nat → Nat} {v : Nat → Int32} {fk : Nat → Int64} {gl go gi ga : Nat → Nat} {gs : Nat → Int32} (C : Cx E p s m args meth c cX3_remove 7 (some .int) RX3 A) {t n1 x : Nat} (hv8 : v 8 = nI n1) (hn1 : n1 ≤ 600) (kk : ∀ (H : Heap) (locs : List Loc), X3w E A z v (shd fk t n1) (shd gl t n1) (shd go t n1) gi ga gs s H locs → ∀ ls : Array Slot, lv_has ls 7 [(0, .ref (z 0)), (4, .int (nI (x)))] → W p l e R s m args below meth c H locs 0 0 Q (F0 m 115 ls [])) : ∀ (n k : Nat) (H : Heap) (locs : List Loc), n1 - k = n → t ≤ k → k ≤ n1 → X3w E A z v (shd fk t k) (shd gl t k) (shd go t k) gi ga gs s H locs → ∀ ls : Array Slot, lv_has ls 7 [(5, .int (nI (k))), (0, .ref (z 0)), (4, .int (nI (x)))] → W p l e R s m args below meth c H locs 0 0 Q (F0 m 52 ls []) := by
  intro n
  induction n with
  | zero =>
    intro k H locs hn hk hk2 X ls hl
    have e : k = n1 := by omega
    subst e
    refine lv_iload C.hx C.hb dX3_remove_52 (lv_at hl 0 rfl) ?_
    refine lv_aload_n C.hx C.hb dX3_remove_54 rfl (lv_at hl 1 rfl) ?_
    refine x3g_8 C X (x := nI (k)) hv8 dX3_remove_55 ?_
    refine n_icmp_ge (tgt := 115) C dX3_remove_58 (by decide) (by omega) (by omega) (fun c58 => ?_) (fun c58 => ?_)
    · exact kk H locs X ls (lv_sub hl [1, 2] rfl)
    · omega
  | succ n ih =>
    intro k H locs hn hk hk2 X ls hl
    refine lv_iload C.hx C.hb dX3_remove_52 (lv_at hl 0 rfl) ?_
    refine lv_aload_n C.hx C.hb dX3_remove_54 rfl (lv_at hl 1 rfl) ?_
    refine x3g_8 C X (x := nI (n1)) hv8 dX3_remove_55 ?_
    refine n_icmp_ge (tgt := 115) C dX3_remove_58 (by decide) (by omega) (by omega) (fun c58 => ?_) (fun c58 => ?_)
    · omega
    · refine lv_aload_n C.hx C.hb dX3_remove_61 rfl (lv_at hl 1 rfl) ?_
      refine x3g_5 C X dX3_remove_62 ?_
      refine lv_iload C.hx C.hb dX3_remove_65 (lv_at hl 0 rfl) ?_
      refine lv_aload_n C.hx C.hb dX3_remove_67 rfl (lv_at hl 1 rfl) ?_
      refine x3g_5 C X dX3_remove_68 ?_
      refine lv_iload C.hx C.hb dX3_remove_71 (lv_at hl 0 rfl) ?_
      refine lv_iconst (v := nI (1)) C.hx C.hb dX3_remove_73 (by decide) ?_
      refine n_add C dX3_remove_74 ?_
      refine x3l_1 C X (by omega) dX3_remove_75 ?_
      refine x3t_1 C X (by omega) dX3_remove_76 (fun H locs X => ?_)
      refine lv_aload_n C.hx C.hb dX3_remove_77 rfl (lv_at hl 1 rfl) ?_
      refine x3g_6 C X dX3_remove_78 ?_
      refine lv_iload C.hx C.hb dX3_remove_81 (lv_at hl 0 rfl) ?_
      refine lv_aload_n C.hx C.hb dX3_remove_83 rfl (lv_at hl 1 rfl) ?_
      refine x3g_6 C X dX3_remove_84 ?_
      refine lv_iload C.hx C.hb dX3_remove_87 (lv_at hl 0 rfl) ?_
      refine lv_iconst (v := nI (1)) C.hx C.hb dX3_remove_89 (by decide) ?_
      refine n_add C dX3_remove_90 ?_
      refine x3l_2 C X (by omega) dX3_remove_91 ?_
      refine x3t_2 C X (by omega) dX3_remove_92 (fun H locs X => ?_)
      refine lv_aload_n C.hx C.hb dX3_remove_93 rfl (lv_at hl 1 rfl) ?_
      refine x3g_7 C X dX3_remove_94 ?_
      refine lv_iload C.hx C.hb dX3_remove_97 (lv_at hl 0 rfl) ?_
      refine lv_aload_n C.hx C.hb dX3_remove_99 rfl (lv_at hl 1 rfl) ?_
      refine x3g_7 C X dX3_remove_100 ?_
      refine lv_iload C.hx C.hb dX3_remove_103 (lv_at hl 0 rfl) ?_
      refine lv_iconst (v := nI (1)) C.hx C.hb dX3_remove_105 (by decide) ?_
      refine n_add C dX3_remove_106 ?_
      refine x3l_3 C X (by omega) dX3_remove_107 ?_
      refine x3t_3 C X (by omega) dX3_remove_108 (fun H locs X => ?_)
      refine lv_iinc (v := nI (k + 1)) (lv' := [(5, .int (nI (k + 1))), (0, .ref (z 0)), (4, .int (nI (x)))]) C.hx C.hb dX3_remove_109 hl (k := 0) rfl (nI_1 _) (by decide) rfl (fun ls hl => ?_)
      refine lv_goto (tgt := 52) C.hx C.hb dX3_remove_112 (by decide) ?_
      rw [shd_sL hk, shd_sN hk, shd_sN hk] at X
      exact ih (k + 1) H locs (by omega) (by omega) (by omega) X ls (lv_sub hl [0, 1, 2] rfl)
set_option maxHeartbeats 4000000 in
set_option maxRecDepth 100000 in
theorem l3_rm2 {p : Program} {l : Launch} {e : Env} {s : State} {m : MethodId} {args : Array Value} {below : List Frame} {meth : Method} {c : Code} {E : Gq} {A : Nat → Prop} {R : Room} {Q : State → Prop} {z : Nat → Nat} {v : Nat → Int32} {fk : Nat → Int64} {gl go gi ga : Nat → Nat} {gs : Nat → Int32} (C : Cx E p s m args meth c cX3_remove 7 (some .int) RX3 A) {h x : Nat} (hh : h < 1300) (hx : x < 2 ^ 31) (hbi : ∀ k, gi k < 2 ^ 31) (hne : ∀ j, j < h → gi j ≠ x) (heq : gi h = x) (kk : ∀ (H : Heap) (locs : List Loc), X3w E A z v fk gl go gi ga gs s H locs → ∀ ls : Array Slot, lv_has ls 7 [(5, .int (nI (h))), (0, .ref (z 0))] → W p l e R s m args below meth c H locs 0 0 Q (F0 m 136 ls [])) : ∀ (n k : Nat) (H : Heap) (locs : List Loc), h - k = n → k ≤ h → X3w E A z v fk gl go gi ga gs s H locs → ∀ ls : Array Slot, lv_has ls 7 [(5, .int (nI (k))), (0, .ref (z 0)), (4, .int (nI (x)))] → W p l e R s m args below meth c H locs 0 0 Q (F0 m 118 ls []) := by
  intro n
  induction n with
  | zero =>
    intro k H locs hn hk X ls hl
    have e : k = h := by omega
    subst e
    refine lv_aload_n C.hx C.hb dX3_remove_118 rfl (lv_at hl 1 rfl) ?_
    refine x3g_9 C X dX3_remove_119 ?_
    refine lv_iload C.hx C.hb dX3_remove_122 (lv_at hl 0 rfl) ?_
    refine x3l_4 C X (by first | omega | exact hbi _) dX3_remove_124 ?_
    refine lv_iload C.hx C.hb dX3_remove_125 (lv_at hl 2 rfl) ?_
    refine n_icmp_eq (tgt := 136) C dX3_remove_127 (by decide) (by first | omega | exact hbi _) (by first | omega | exact hbi _) (fun c127 => ?_) (fun c127 => ?_)
    · exact kk H locs X ls (lv_sub hl [0, 1] rfl)
    · exact absurd heq c127
  | succ n ih =>
    intro k H locs hn hk X ls hl
    refine lv_aload_n C.hx C.hb dX3_remove_118 rfl (lv_at hl 1 rfl) ?_
    refine x3g_9 C X dX3_remove_119 ?_
    refine lv_iload C.hx C.hb dX3_remove_122 (lv_at hl 0 rfl) ?_
    refine x3l_4 C X (by first | omega | exact hbi _) dX3_remove_124 ?_
    refine lv_iload C.hx C.hb dX3_remove_125 (lv_at hl 2 rfl) ?_
    refine n_icmp_eq (tgt := 136) C dX3_remove_127 (by decide) (by first | omega | exact hbi _) (by first | omega | exact hbi _) (fun c127 => ?_) (fun c127 => ?_)
    · exact absurd c127 (hne k (by omega))
    · refine lv_iinc (v := nI (k + 1)) (lv' := [(5, .int (nI (k + 1))), (0, .ref (z 0)), (4, .int (nI (x)))]) C.hx C.hb dX3_remove_130 hl (k := 0) rfl (nI_1 _) (by decide) rfl (fun ls hl => ?_)
      refine lv_goto (tgt := 118) C.hx C.hb dX3_remove_133 (by decide) ?_
      exact ih (k + 1) H locs (by omega) (by omega) X ls (lv_sub hl [0, 1, 2] rfl)
set_option maxHeartbeats 4000000 in
set_option maxRecDepth 100000 in
theorem l3_rm3 {p : Program} {l : Launch} {e : Env} {s : State} {m : MethodId} {args : Array Value} {below : List Frame} {meth : Method} {c : Code} {E : Gq} {A : Nat → Prop} {R : Room} {Q : State → Prop} {z : Nat → Nat} {v : Nat → Int32} {fk : Nat → Int64} {gl go gi ga : Nat → Nat} {gs : Nat → Int32} (C : Cx E p s m args meth c cX3_remove 7 (some .int) RX3 A) {h m1 : Nat} (hv11 : v 11 = nI m1) (hm1 : m1 ≤ 1200) (kk : ∀ (H : Heap) (locs : List Loc), X3w E A z v fk gl go (shd gi h m1) (shd ga h m1) gs s H locs → ∀ ls : Array Slot, lv_has ls 7 [(0, .ref (z 0))] → W p l e R s m args below meth c H locs 0 0 Q (F0 m 216 ls [])) : ∀ (n k : Nat) (H : Heap) (locs : List Loc), m1 - k = n → h ≤ k → k ≤ m1 → X3w E A z v fk gl go (shd gi h k) (shd ga h k) gs s H locs → ∀ ls : Array Slot, lv_has ls 7 [(6, .int (nI (k))), (0, .ref (z 0))] → W p l e R s m args below meth c H locs 0 0 Q (F0 m 169 ls []) := by
  intro n
  induction n with
  | zero =>
    intro k H locs hn hk hk2 X ls hl
    have e : k = m1 := by omega
    subst e
    refine lv_iload C.hx C.hb dX3_remove_169 (lv_at hl 0 rfl) ?_
    refine lv_aload_n C.hx C.hb dX3_remove_171 rfl (lv_at hl 1 rfl) ?_
    refine x3g_11 C X (x := nI (k)) hv11 dX3_remove_172 ?_
    refine n_icmp_ge (tgt := 216) C dX3_remove_175 (by decide) (by omega) (by omega) (fun c175 => ?_) (fun c175 => ?_)
    · exact kk H locs X ls (lv_sub hl [1] rfl)
    · omega
  | succ n ih =>
    intro k H locs hn hk hk2 X ls hl
    refine lv_iload C.hx C.hb dX3_remove_169 (lv_at hl 0 rfl) ?_
    refine lv_aload_n C.hx C.hb dX3_remove_171 rfl (lv_at hl 1 rfl) ?_
    refine x3g_11 C X (x := nI (m1)) hv11 dX3_remove_172 ?_
    refine n_icmp_ge (tgt := 216) C dX3_remove_175 (by decide) (by omega) (by omega) (fun c175 => ?_) (fun c175 => ?_)
    · omega
    · refine lv_aload_n C.hx C.hb dX3_remove_178 rfl (lv_at hl 1 rfl) ?_
      refine x3g_9 C X dX3_remove_179 ?_
      refine lv_iload C.hx C.hb dX3_remove_182 (lv_at hl 0 rfl) ?_
      refine lv_aload_n C.hx C.hb dX3_remove_184 rfl (lv_at hl 1 rfl) ?_
      refine x3g_9 C X dX3_remove_185 ?_
      refine lv_iload C.hx C.hb dX3_remove_188 (lv_at hl 0 rfl) ?_
      refine lv_iconst (v := nI (1)) C.hx C.hb dX3_remove_190 (by decide) ?_
      refine n_add C dX3_remove_191 ?_
      refine x3l_4 C X (by omega) dX3_remove_192 ?_
      refine x3t_4 C X (by omega) dX3_remove_193 (fun H locs X => ?_)
      refine lv_aload_n C.hx C.hb dX3_remove_194 rfl (lv_at hl 1 rfl) ?_
      refine x3g_10 C X dX3_remove_195 ?_
      refine lv_iload C.hx C.hb dX3_remove_198 (lv_at hl 0 rfl) ?_
      refine lv_aload_n C.hx C.hb dX3_remove_200 rfl (lv_at hl 1 rfl) ?_
      refine x3g_10 C X dX3_remove_201 ?_
      refine lv_iload C.hx C.hb dX3_remove_204 (lv_at hl 0 rfl) ?_
      refine lv_iconst (v := nI (1)) C.hx C.hb dX3_remove_206 (by decide) ?_
      refine n_add C dX3_remove_207 ?_
      refine x3l_5 C X (by omega) dX3_remove_208 ?_
      refine x3t_5 C X (by omega) dX3_remove_209 (fun H locs X => ?_)
      refine lv_iinc (v := nI (k + 1)) (lv' := [(6, .int (nI (k + 1))), (0, .ref (z 0))]) C.hx C.hb dX3_remove_210 hl (k := 0) rfl (nI_1 _) (by decide) rfl (fun ls hl => ?_)
      refine lv_goto (tgt := 169) C.hx C.hb dX3_remove_213 (by decide) ?_
      rw [shd_sN hk, shd_sN hk] at X
      exact ih (k + 1) H locs (by omega) (by omega) (by omega) X ls (lv_sub hl [0, 1] rfl)
set_option maxHeartbeats 4000000 in
set_option maxRecDepth 100000 in
/-- the reference: remove -/
theorem c3_remove_c {l : Launch} {E : Gq} {z : Nat → Nat} {v : Nat → Int32} {fk : Nat → Int64} {gl go gi ga : Nat → Nat} {gs : Nat → Int32} {key : Int64} (d17 : v 17 = nI 1) : M3w l E yX3_remove cX3_remove 7 (some .int) 2 [.ref (z 0), .long (key)] z v fk gl go gi ga gs (fun r v' fk' gl' go' gi' ga' gs' => some (.int (-5)) = r ∧ upd v 0 (nI 0) = v' ∧ fk = fk' ∧ gl = gl' ∧ go = go' ∧ gi = gi' ∧ ga = ga' ∧ gs = gs') := by
  refine mk_w (by decide) (Nat.le_of_ble_eq_true rfl) ?_
  intro p e s m below meth c ls C Wd hl
  have X : X3w E _ z v fk gl go gi ga gs s s.heap [] := Wd
  have hl : lv_has ls 7 [(0, .ref (z 0)), (1, .long (key))] := hl
  refine lv_aload_n C.hx C.hb dX3_remove_0 rfl (lv_at hl 0 rfl) ?_
  refine lv_iconst (v := nI (0)) C.hx C.hb dX3_remove_1 (by decide) ?_
  refine x3p_0 C X dX3_remove_2 (fun H locs X => ?_)
  refine lv_aload_n C.hx C.hb dX3_remove_5 rfl (lv_at hl 0 rfl) ?_
  refine x3g_17 C X (x := nI (1)) d17 dX3_remove_6 ?_
  refine n_if_eq (tgt := 15) C dX3_remove_9 (by decide) (by decide) (fun h => absurd h (by decide)) (fun _ => ?_)
  refine lv_bipush (v := (-5)) C.hx C.hb dX3_remove_12 (by decide) ?_
  exact ret3_i C X (⟨rfl, rfl, rfl, rfl, rfl, rfl, rfl, rfl⟩) dX3_remove_14
set_option maxHeartbeats 4000000 in
set_option maxRecDepth 100000 in
/-- the reference: remove -/
theorem c3_remove_n {l : Launch} {E : Gq} {z : Nat → Nat} {v : Nat → Int32} {fk : Nat → Int64} {gl go gi ga : Nat → Nat} {gs : Nat → Int32} {K : List Int64} {L N S P A : List Nat} (h3 : Ctx3 v fk gl go gi ga K L N S P A) {key : Int64} (d17 : v 17 = nI 0) (hh : ¬ hask K key) : M3w l E yX3_remove cX3_remove 7 (some .int) 2 [.ref (z 0), .long (key)] z v fk gl go gi ga gs (fun r v' fk' gl' go' gi' ga' gs' => some (.int (nI 0)) = r ∧ upd v 0 (nI 0) = v' ∧ fk = fk' ∧ gl = gl' ∧ go = go' ∧ gi = gi' ∧ ga = ga' ∧ gs = gs') := by
  refine mk_w (by decide) (Nat.le_of_ble_eq_true rfl) ?_
  intro p e s m below meth c ls C Wd hl
  have X : X3w E _ z v fk gl go gi ga gs s s.heap [] := Wd
  have hl : lv_has ls 7 [(0, .ref (z 0)), (1, .long (key))] := hl
  obtain ⟨hR, hJ, hk, hs8, hm, hbl, hbo, hbi, hba, hso⟩ := id h3
  obtain ⟨r1, r2, r3, r4, r5, r6, r7, r8⟩ := id hR
  obtain ⟨j1, j2, j3, j4, j5, j6, j7, j8⟩ := id hJ
  obtain ⟨k1, k2, k3, k4⟩ := hJ.b
  refine lv_aload_n C.hx C.hb dX3_remove_0 rfl (lv_at hl 0 rfl) ?_
  refine lv_iconst (v := nI (0)) C.hx C.hb dX3_remove_1 (by decide) ?_
  refine x3p_0 C X dX3_remove_2 (fun H locs X => ?_)
  have h3 : Ctx3 (upd v 0 (nI 0)) fk gl go gi ga K L N S P A := h3
  refine lv_aload_n C.hx C.hb dX3_remove_5 rfl (lv_at hl 0 rfl) ?_
  refine x3g_17 C X (x := nI (0)) d17 dX3_remove_6 ?_
  refine n_if_eq (tgt := 15) C dX3_remove_9 (by decide) (by decide) (fun _ => ?_) (fun h => absurd h (by decide))
  refine lv_aload_n C.hx C.hb dX3_remove_15 rfl (lv_at hl 0 rfl) ?_
  refine lv_lload_n C.hx C.hb dX3_remove_16 rfl (lv_at hl 1 rfl) ?_
  refine x3_cr (As := [.long (key)]) (rest := []) C X (c3_has_n h3 hh) wy_X3_has ts_29 tw_435 rfl ⟨by decide, by decide⟩ rfl hl.1 rfl (Nat.le_of_ble_eq_true rfl) ⟨Nat.le_refl _, Nat.le_refl _⟩ dX3_remove_17 (fun r hp => ?_)
  subst hp
  refine W.eq (g2 := F0 m 20 ls [.int (nI (0))]) rfl ?_
  refine n_if_ne (tgt := 25) C dX3_remove_20 (by decide) (by decide) (fun h => absurd h (by decide)) (fun _ => ?_)
  refine lv_iconst (v := nI (0)) C.hx C.hb dX3_remove_23 (by decide) ?_
  exact ret3_i C X (⟨rfl, rfl, rfl, rfl, rfl, rfl, rfl, rfl⟩) dX3_remove_24
/-- the interval of a record that went -/
theorem rem_of {K : List Int64} {L N S P A : List Nat} {fk : Nat → Int64} {gl go gi ga : Nat → Nat} (hR : Rel3 K L N S P A fk gl go gi ga) (hJ : J2 K L N S P) {t h : Nat} (hh : h < S.length) (h1 : sm S 0 h ≤ t) (h2 : t < sm S 0 h + S.getD h 0) : ∀ j, j < K.length - 1 → (shd go t (K.length - 1) j = gi h ↔ sm (S.set h (S.getD h 0 - 1)) 0 h ≤ j ∧ j < sm (S.set h (S.getD h 0 - 1)) 0 h + (S.set h (S.getD h 0 - 1)).getD h 0) := by
  intro j hj
  have s1 := sm0_set (x := S.getD h 0 - 1) hh h
  rw [if_pos (Nat.le_refl _), if_pos (Nat.le_refl _)] at s1
  rw [getD_set hh, if_pos rfl]
  unfold shd
  by_cases q : t ≤ j
  · rw [if_pos ⟨q, hj⟩, hR.of hJ hh (show j + 1 < K.length by omega)]
    omega
  · rw [if_neg (fun z => q z.1), hR.of hJ hh (show j < K.length by omega)]
    omega
set_option maxHeartbeats 4000000 in
set_option maxRecDepth 100000 in
/-- the reference: remove -/
theorem c3_remove_k {l : Launch} {E : Gq} {z : Nat → Nat} {v : Nat → Int32} {fk : Nat → Int64} {gl go gi ga : Nat → Nat} {gs : Nat → Int32} {K : List Int64} {L N S P A : List Nat} (h3 : Ctx3 v fk gl go gi ga K L N S P A) {key : Int64} (d17 : v 17 = nI 0) (hh : hask K key) (hkeep : ¬ (S.getD (gIx S (ngt K key - 1)) 0 - 1 = 0 ∧ 1 < S.length)) : M3w l E yX3_remove cX3_remove 7 (some .int) 2 [.ref (z 0), .long (key)] z v fk gl go gi ga gs (fun r v' fk' gl' go' gi' ga' gs' => some (.int (nI 1)) = r ∧ upd (upd v 0 (nI 0)) 8 (nI (K.length - 1)) = v' ∧ shd fk (ngt K key - 1) (K.length - 1) = fk' ∧ shd gl (ngt K key - 1) (K.length - 1) = gl' ∧ shd go (ngt K key - 1) (K.length - 1) = go' ∧ gi = gi' ∧ ga = ga' ∧ gs = gs') := by
  refine mk_w (by decide) (Nat.le_of_ble_eq_true rfl) ?_
  intro p e s m below meth c ls C Wd hl
  have X : X3w E _ z v fk gl go gi ga gs s s.heap [] := Wd
  have hl : lv_has ls 7 [(0, .ref (z 0)), (1, .long (key))] := hl
  obtain ⟨hR, hJ, hk, hs8, hm, hbl, hbo, hbi, hba, hso⟩ := id h3
  obtain ⟨r1, r2, r3, r4, r5, r6, r7, r8⟩ := id hR
  obtain ⟨j1, j2, j3, j4, j5, j6, j7, j8⟩ := id hJ
  obtain ⟨k1, k2, k3, k4⟩ := hJ.b
  have hng := ngt_le K key
  have hh1 := hh.1
  have ht : ngt K key - 1 < S.sum := by omega
  have hsp := gIx_spec ht
  have hlt := gIx_lt ht
  have hs0 := sm0_get S (gIx S (ngt K key - 1))
  have hge := getD_set_self (x := S.getD (gIx S (ngt K key - 1)) 0 - 1) hlt
  have s1 := sm0_set (x := S.getD (gIx S (ngt K key - 1)) 0 - 1) hlt (gIx S (ngt K key - 1))
  rw [if_pos (Nat.le_refl _), if_pos (Nat.le_refl _)] at s1
  have hgo := r3 (ngt K key - 1) (by omega)
  have hgih := r4 (gIx S (ngt K key - 1)) hlt
  have hdl := del_len (L := K) (j := ngt K key - 1) (by omega)
  refine lv_aload_n C.hx C.hb dX3_remove_0 rfl (lv_at hl 0 rfl) ?_
  refine lv_iconst (v := nI (0)) C.hx C.hb dX3_remove_1 (by decide) ?_
  refine x3p_0 C X dX3_remove_2 (fun H locs X => ?_)
  have h3 : Ctx3 (upd v 0 (nI 0)) fk gl go gi ga K L N S P A := h3
  refine lv_aload_n C.hx C.hb dX3_remove_5 rfl (lv_at hl 0 rfl) ?_
  refine x3g_17 C X (x := nI (0)) d17 dX3_remove_6 ?_
  refine n_if_eq (tgt := 15) C dX3_remove_9 (by decide) (by decide) (fun _ => ?_) (fun h => absurd h (by decide))
  refine lv_aload_n C.hx C.hb dX3_remove_15 rfl (lv_at hl 0 rfl) ?_
  refine lv_lload_n C.hx C.hb dX3_remove_16 rfl (lv_at hl 1 rfl) ?_
  refine x3_cr (As := [.long (key)]) (rest := []) C X (c3_has_y h3 hh) wy_X3_has ts_29 tw_435 rfl ⟨by decide, by decide⟩ rfl hl.1 rfl (Nat.le_of_ble_eq_true rfl) ⟨Nat.le_refl _, Nat.le_refl _⟩ dX3_remove_17 (fun r hp => ?_)
  subst hp
  refine W.eq (g2 := F0 m 20 ls [.int (nI (1))]) rfl ?_
  refine n_if_ne (tgt := 25) C dX3_remove_20 (by decide) (by decide) (fun _ => ?_) (fun h => absurd h (by decide))
  refine lv_aload_n C.hx C.hb dX3_remove_25 rfl (lv_at hl 0 rfl) ?_
  refine lv_lload_n C.hx C.hb dX3_remove_26 rfl (lv_at hl 1 rfl) ?_
  refine x3_cr (As := [.long (key)]) (rest := []) C X (c3_less h3.ct0 (t := ngt K key - 1) (lsT_y hso hh)) wy_X3_less ts_30 tw_439 rfl ⟨by decide, by decide⟩ rfl hl.1 rfl (Nat.le_of_ble_eq_true rfl) ⟨Nat.le_refl _, Nat.le_refl _⟩ dX3_remove_27 (fun r hp => ?_)
  subst hp
  refine W.eq (g2 := F0 m 30 ls [.int (nI (ngt K key - 1))]) rfl ?_
  refine lv_istore_n (lv' := [(3, .int (nI (ngt K key - 1))), (0, .ref (z 0)), (1, .long (key))]) C.hx C.hb dX3_remove_30 rfl hl (by decide) rfl (fun ls hl => ?_)
  refine lv_aload_n C.hx C.hb dX3_remove_31 rfl (lv_at hl 1 rfl) ?_
  refine x3g_7 C X dX3_remove_32 ?_
  refine lv_iload_n C.hx C.hb dX3_remove_35 rfl (lv_at hl 0 rfl) ?_
  refine x3l_3 C X (by first | omega | exact hbo _ | exact hbi _ | exact hba _ | exact hbl _) dX3_remove_36 ?_
  refine lv_istore (lv' := [(4, .int (nI (go (ngt K key - 1)))), (3, .int (nI (ngt K key - 1))), (0, .ref (z 0)), (1, .long (key))]) C.hx C.hb dX3_remove_37 hl (by decide) rfl (fun ls hl => ?_)
  refine lv_aload_n C.hx C.hb dX3_remove_39 rfl (lv_at hl 2 rfl) ?_
  refine lv_dup C.hx C.hb dX3_remove_40 rfl ?_
  refine x3g_8 C X (x := nI (K.length)) hs8 dX3_remove_41 ?_
  refine lv_iconst (v := nI (1)) C.hx C.hb dX3_remove_44 (by decide) ?_
  refine n_sub C dX3_remove_45 (by first | omega | exact hbo _ | exact hbi _ | exact hba _ | exact hbl _) ?_
  refine x3p_8 C X dX3_remove_46 (fun H locs X => ?_)
  refine lv_iload_n C.hx C.hb dX3_remove_49 rfl (lv_at hl 1 rfl) ?_
  refine lv_istore (lv' := [(5, .int (nI (ngt K key - 1))), (4, .int (nI (go (ngt K key - 1)))), (3, .int (nI (ngt K key - 1))), (0, .ref (z 0)), (1, .long (key))]) C.hx C.hb dX3_remove_50 hl (by decide) rfl (fun ls hl => ?_)
  refine l3_rm1 (fk := fk) (gl := gl) (go := go) (gi := gi) (ga := ga) (gs := gs) (t := ngt K key - 1) (n1 := K.length - 1) (x := go (ngt K key - 1)) (v := upd (upd v 0 (nI (0))) 8 (nI (K.length - 1))) C rfl (by omega) (fun H locs X ls hl => ?_) _ (ngt K key - 1) H locs rfl (Nat.le_refl _) (by omega) (by rw [shd_0, shd_0, shd_0]; exact X) ls (lv_sub hl [0, 3, 1] rfl)
  refine lv_iconst (v := nI (0)) C.hx C.hb dX3_remove_115 (by decide) ?_
  refine lv_istore (lv' := [(5, .int (nI (0))), (0, .ref (z 0)), (4, .int (nI (go (ngt K key - 1))))]) C.hx C.hb dX3_remove_116 hl (by decide) rfl (fun ls hl => ?_)
  refine l3_rm2 (h := (gIx S (ngt K key - 1))) (x := go (ngt K key - 1)) C (by omega) (hbo _) hbi (fun j hj e => by rw [r4 j (by omega), hgo] at e; have := nd_inj r6 (by omega) (by omega) e; omega) (by rw [hgih, hgo]) (fun H locs X ls hl => ?_) _ 0 H locs rfl (Nat.zero_le _) X ls (lv_sub hl [0, 1, 2] rfl)
  refine lv_aload_n C.hx C.hb dX3_remove_136 rfl (lv_at hl 1 rfl) ?_
  refine lv_iload C.hx C.hb dX3_remove_137 (lv_at hl 0 rfl) ?_
  refine x3_cr (As := [.int (nI ((gIx S (ngt K key - 1))))]) (rest := []) C X (c3_rec0 (K := del K (ngt K key - 1)) (S := S.set (gIx S (ngt K key - 1)) (S.getD (gIx S (ngt K key - 1)) 0 - 1)) (i := (gIx S (ngt K key - 1))) (by omega) (by omega) (by rw [hdl]; rfl) (by omega) (fun k => by unfold shd; split <;> exact hbo _) hbi (fun j hj => rem_of hR hJ hlt hsp.1 hsp.2 j (by omega))) wy_X3_recordsOf ts_35 tw_459 rfl ⟨by decide, by decide⟩ rfl hl.1 rfl (Nat.le_of_ble_eq_true rfl) ⟨Nat.le_refl _, Nat.le_refl _⟩ dX3_remove_139 (fun r hp => ?_)
  subst hp
  refine W.eq (g2 := F0 m 142 ls [.int (nI ((S.set (gIx S (ngt K key - 1)) (S.getD (gIx S (ngt K key - 1)) 0 - 1)).getD (gIx S (ngt K key - 1)) 0))]) rfl ?_
  refine n_if_gt (tgt := 153) C dX3_remove_142 (by decide) (by first | omega | exact hbo _ | exact hbi _ | exact hba _ | exact hbl _) (fun c142 => ?_) (fun c142 => ?_)
  · refine lv_iconst (v := nI (1)) C.hx C.hb dX3_remove_153 (by decide) ?_
    exact ret3_i C X (⟨rfl, rfl, rfl, rfl, rfl, rfl, rfl, rfl⟩) dX3_remove_154
  · refine lv_aload_n C.hx C.hb dX3_remove_145 rfl (lv_at hl 1 rfl) ?_
    refine x3g_11 C X (x := nI (S.length)) hm dX3_remove_146 ?_
    refine lv_iconst (v := nI (1)) C.hx C.hb dX3_remove_149 (by decide) ?_
    refine n_icmp_ne (tgt := 155) C dX3_remove_150 (by decide) (by first | omega | exact hbo _ | exact hbi _ | exact hba _ | exact hbl _) (by first | omega | exact hbo _ | exact hbi _ | exact hba _ | exact hbl _) (fun c150 => ?_) (fun c150 => ?_)
    · omega
    · refine lv_iconst (v := nI (1)) C.hx C.hb dX3_remove_153 (by decide) ?_
      exact ret3_i C X (⟨rfl, rfl, rfl, rfl, rfl, rfl, rfl, rfl⟩) dX3_remove_154
set_option maxHeartbeats 4000000 in
set_option maxRecDepth 100000 in
/-- the reference: remove -/
theorem c3_remove_d {l : Launch} {E : Gq} {z : Nat → Nat} {v : Nat → Int32} {fk : Nat → Int64} {gl go gi ga : Nat → Nat} {gs : Nat → Int32} {K : List Int64} {L N S P A : List Nat} (h3 : Ctx3 v fk gl go gi ga K L N S P A) {key : Int64} (d17 : v 17 = nI 0) (hh : hask K key) (hdrop : S.getD (gIx S (ngt K key - 1)) 0 - 1 = 0 ∧ 1 < S.length) : M3w l E yX3_remove cX3_remove 7 (some .int) 2 [.ref (z 0), .long (key)] z v fk gl go gi ga gs (fun r v' fk' gl' go' gi' ga' gs' => some (.int (nI 1)) = r ∧ upd (upd (upd v 0 (nI 0)) 8 (nI (K.length - 1))) 11 (nI (S.length - 1)) = v' ∧ shd fk (ngt K key - 1) (K.length - 1) = fk' ∧ shd gl (ngt K key - 1) (K.length - 1) = gl' ∧ shd go (ngt K key - 1) (K.length - 1) = go' ∧ shd gi (gIx S (ngt K key - 1)) (S.length - 1) = gi' ∧ shd ga (gIx S (ngt K key - 1)) (S.length - 1) = ga' ∧ gs = gs') := by
  refine mk_w (by decide) (Nat.le_of_ble_eq_true rfl) ?_
  intro p e s m below meth c ls C Wd hl
  have X : X3w E _ z v fk gl go gi ga gs s s.heap [] := Wd
  have hl : lv_has ls 7 [(0, .ref (z 0)), (1, .long (key))] := hl
  obtain ⟨hR, hJ, hk, hs8, hm, hbl, hbo, hbi, hba, hso⟩ := id h3
  obtain ⟨r1, r2, r3, r4, r5, r6, r7, r8⟩ := id hR
  obtain ⟨j1, j2, j3, j4, j5, j6, j7, j8⟩ := id hJ
  obtain ⟨k1, k2, k3, k4⟩ := hJ.b
  have hng := ngt_le K key
  have hh1 := hh.1
  have ht : ngt K key - 1 < S.sum := by omega
  have hsp := gIx_spec ht
  have hlt := gIx_lt ht
  have hs0 := sm0_get S (gIx S (ngt K key - 1))
  have hge := getD_set_self (x := S.getD (gIx S (ngt K key - 1)) 0 - 1) hlt
  have s1 := sm0_set (x := S.getD (gIx S (ngt K key - 1)) 0 - 1) hlt (gIx S (ngt K key - 1))
  rw [if_pos (Nat.le_refl _), if_pos (Nat.le_refl _)] at s1
  have hgo := r3 (ngt K key - 1) (by omega)
  have hgih := r4 (gIx S (ngt K key - 1)) hlt
  have hdl := del_len (L := K) (j := ngt K key - 1) (by omega)
  refine lv_aload_n C.hx C.hb dX3_remove_0 rfl (lv_at hl 0 rfl) ?_
  refine lv_iconst (v := nI (0)) C.hx C.hb dX3_remove_1 (by decide) ?_
  refine x3p_0 C X dX3_remove_2 (fun H locs X => ?_)
  have h3 : Ctx3 (upd v 0 (nI 0)) fk gl go gi ga K L N S P A := h3
  refine lv_aload_n C.hx C.hb dX3_remove_5 rfl (lv_at hl 0 rfl) ?_
  refine x3g_17 C X (x := nI (0)) d17 dX3_remove_6 ?_
  refine n_if_eq (tgt := 15) C dX3_remove_9 (by decide) (by decide) (fun _ => ?_) (fun h => absurd h (by decide))
  refine lv_aload_n C.hx C.hb dX3_remove_15 rfl (lv_at hl 0 rfl) ?_
  refine lv_lload_n C.hx C.hb dX3_remove_16 rfl (lv_at hl 1 rfl) ?_
  refine x3_cr (As := [.long (key)]) (rest := []) C X (c3_has_y h3 hh) wy_X3_has ts_29 tw_435 rfl ⟨by decide, by decide⟩ rfl hl.1 rfl (Nat.le_of_ble_eq_true rfl) ⟨Nat.le_refl _, Nat.le_refl _⟩ dX3_remove_17 (fun r hp => ?_)
  subst hp
  refine W.eq (g2 := F0 m 20 ls [.int (nI (1))]) rfl ?_
  refine n_if_ne (tgt := 25) C dX3_remove_20 (by decide) (by decide) (fun _ => ?_) (fun h => absurd h (by decide))
  refine lv_aload_n C.hx C.hb dX3_remove_25 rfl (lv_at hl 0 rfl) ?_
  refine lv_lload_n C.hx C.hb dX3_remove_26 rfl (lv_at hl 1 rfl) ?_
  refine x3_cr (As := [.long (key)]) (rest := []) C X (c3_less h3.ct0 (t := ngt K key - 1) (lsT_y hso hh)) wy_X3_less ts_30 tw_439 rfl ⟨by decide, by decide⟩ rfl hl.1 rfl (Nat.le_of_ble_eq_true rfl) ⟨Nat.le_refl _, Nat.le_refl _⟩ dX3_remove_27 (fun r hp => ?_)
  subst hp
  refine W.eq (g2 := F0 m 30 ls [.int (nI (ngt K key - 1))]) rfl ?_
  refine lv_istore_n (lv' := [(3, .int (nI (ngt K key - 1))), (0, .ref (z 0)), (1, .long (key))]) C.hx C.hb dX3_remove_30 rfl hl (by decide) rfl (fun ls hl => ?_)
  refine lv_aload_n C.hx C.hb dX3_remove_31 rfl (lv_at hl 1 rfl) ?_
  refine x3g_7 C X dX3_remove_32 ?_
  refine lv_iload_n C.hx C.hb dX3_remove_35 rfl (lv_at hl 0 rfl) ?_
  refine x3l_3 C X (by first | omega | exact hbo _ | exact hbi _ | exact hba _ | exact hbl _) dX3_remove_36 ?_
  refine lv_istore (lv' := [(4, .int (nI (go (ngt K key - 1)))), (3, .int (nI (ngt K key - 1))), (0, .ref (z 0)), (1, .long (key))]) C.hx C.hb dX3_remove_37 hl (by decide) rfl (fun ls hl => ?_)
  refine lv_aload_n C.hx C.hb dX3_remove_39 rfl (lv_at hl 2 rfl) ?_
  refine lv_dup C.hx C.hb dX3_remove_40 rfl ?_
  refine x3g_8 C X (x := nI (K.length)) hs8 dX3_remove_41 ?_
  refine lv_iconst (v := nI (1)) C.hx C.hb dX3_remove_44 (by decide) ?_
  refine n_sub C dX3_remove_45 (by first | omega | exact hbo _ | exact hbi _ | exact hba _ | exact hbl _) ?_
  refine x3p_8 C X dX3_remove_46 (fun H locs X => ?_)
  refine lv_iload_n C.hx C.hb dX3_remove_49 rfl (lv_at hl 1 rfl) ?_
  refine lv_istore (lv' := [(5, .int (nI (ngt K key - 1))), (4, .int (nI (go (ngt K key - 1)))), (3, .int (nI (ngt K key - 1))), (0, .ref (z 0)), (1, .long (key))]) C.hx C.hb dX3_remove_50 hl (by decide) rfl (fun ls hl => ?_)
  refine l3_rm1 (fk := fk) (gl := gl) (go := go) (gi := gi) (ga := ga) (gs := gs) (t := ngt K key - 1) (n1 := K.length - 1) (x := go (ngt K key - 1)) (v := upd (upd v 0 (nI (0))) 8 (nI (K.length - 1))) C rfl (by omega) (fun H locs X ls hl => ?_) _ (ngt K key - 1) H locs rfl (Nat.le_refl _) (by omega) (by rw [shd_0, shd_0, shd_0]; exact X) ls (lv_sub hl [0, 3, 1] rfl)
  refine lv_iconst (v := nI (0)) C.hx C.hb dX3_remove_115 (by decide) ?_
  refine lv_istore (lv' := [(5, .int (nI (0))), (0, .ref (z 0)), (4, .int (nI (go (ngt K key - 1))))]) C.hx C.hb dX3_remove_116 hl (by decide) rfl (fun ls hl => ?_)
  refine l3_rm2 (h := (gIx S (ngt K key - 1))) (x := go (ngt K key - 1)) C (by omega) (hbo _) hbi (fun j hj e => by rw [r4 j (by omega), hgo] at e; have := nd_inj r6 (by omega) (by omega) e; omega) (by rw [hgih, hgo]) (fun H locs X ls hl => ?_) _ 0 H locs rfl (Nat.zero_le _) X ls (lv_sub hl [0, 1, 2] rfl)
  refine lv_aload_n C.hx C.hb dX3_remove_136 rfl (lv_at hl 1 rfl) ?_
  refine lv_iload C.hx C.hb dX3_remove_137 (lv_at hl 0 rfl) ?_
  refine x3_cr (As := [.int (nI ((gIx S (ngt K key - 1))))]) (rest := []) C X (c3_rec0 (K := del K (ngt K key - 1)) (S := S.set (gIx S (ngt K key - 1)) (S.getD (gIx S (ngt K key - 1)) 0 - 1)) (i := (gIx S (ngt K key - 1))) (by omega) (by omega) (by rw [hdl]; rfl) (by omega) (fun k => by unfold shd; split <;> exact hbo _) hbi (fun j hj => rem_of hR hJ hlt hsp.1 hsp.2 j (by omega))) wy_X3_recordsOf ts_35 tw_459 rfl ⟨by decide, by decide⟩ rfl hl.1 rfl (Nat.le_of_ble_eq_true rfl) ⟨Nat.le_refl _, Nat.le_refl _⟩ dX3_remove_139 (fun r hp => ?_)
  subst hp
  refine W.eq (g2 := F0 m 142 ls [.int (nI ((S.set (gIx S (ngt K key - 1)) (S.getD (gIx S (ngt K key - 1)) 0 - 1)).getD (gIx S (ngt K key - 1)) 0))]) rfl ?_
  refine n_if_gt (tgt := 153) C dX3_remove_142 (by decide) (by first | omega | exact hbo _ | exact hbi _ | exact hba _ | exact hbl _) (fun c142 => ?_) (fun c142 => ?_)
  · omega
  · refine lv_aload_n C.hx C.hb dX3_remove_145 rfl (lv_at hl 1 rfl) ?_
    refine x3g_11 C X (x := nI (S.length)) hm dX3_remove_146 ?_
    refine lv_iconst (v := nI (1)) C.hx C.hb dX3_remove_149 (by decide) ?_
    refine n_icmp_ne (tgt := 155) C dX3_remove_150 (by decide) (by first | omega | exact hbo _ | exact hbi _ | exact hba _ | exact hbl _) (by first | omega | exact hbo _ | exact hbi _ | exact hba _ | exact hbl _) (fun c150 => ?_) (fun c150 => ?_)
    · refine lv_aload_n C.hx C.hb dX3_remove_155 rfl (lv_at hl 1 rfl) ?_
      refine lv_dup C.hx C.hb dX3_remove_156 rfl ?_
      refine x3g_11 C X (x := nI (S.length)) hm dX3_remove_157 ?_
      refine lv_iconst (v := nI (1)) C.hx C.hb dX3_remove_160 (by decide) ?_
      refine n_sub C dX3_remove_161 (by first | omega | exact hbo _ | exact hbi _ | exact hba _ | exact hbl _) ?_
      refine x3p_11 C X dX3_remove_162 (fun H locs X => ?_)
      refine lv_iload C.hx C.hb dX3_remove_165 (lv_at hl 0 rfl) ?_
      refine lv_istore (lv' := [(6, .int (nI ((gIx S (ngt K key - 1))))), (5, .int (nI ((gIx S (ngt K key - 1))))), (0, .ref (z 0))]) C.hx C.hb dX3_remove_167 hl (by decide) rfl (fun ls hl => ?_)
      refine l3_rm3 (gi := gi) (ga := ga) (h := (gIx S (ngt K key - 1))) (m1 := S.length - 1) (v := upd (upd (upd v 0 (nI (0))) 8 (nI (K.length - 1))) 11 (nI (S.length - 1))) C rfl (by omega) (fun H locs X ls hl => ?_) _ (gIx S (ngt K key - 1)) H locs rfl (Nat.le_refl _) (by omega) (by rw [shd_0, shd_0]; exact X) ls (lv_sub hl [0, 2] rfl)
      refine lv_iconst (v := nI (1)) C.hx C.hb dX3_remove_216 (by decide) ?_
      exact ret3_i C X (⟨rfl, rfl, rfl, rfl, rfl, rfl, rfl, rfl⟩) dX3_remove_217
    · omega
