theorem upd_upd (v : Nat → Int32) (k : Nat) (x y : Int32) : upd (upd v k x) k y = upd v k y := by
  funext j
  unfold upd
  by_cases e : j = k
  · rw [if_pos e, if_pos e]
  · rw [if_neg e, if_neg e, if_neg e]
theorem sm0_s {S : List Nat} {j : Nat} (h : j < S.length) : sm S 0 (j + 1) = sm S 0 j + S.getD j 0 := by rw [sm0, sm0, take_s h]
theorem hld_c (n : Nat) (i : Int32) (hn : n < 2 ^ 31) : hld n i = 0 ∨ ∃ j, j < n ∧ i = nI j := by
  by_cases h : i < 0
  · exact Or.inl (by unfold hld; rw [if_pos h])
  · obtain ⟨j, hj, rfl⟩ := nI_of h
    by_cases h2 : j < n
    · exact Or.inr ⟨j, h2, rfl⟩
    · exact Or.inl (by unfold hld; rw [if_neg h, nI_clamp hj, if_neg h2])
theorem hld_y {n j : Nat} (hj : j < n) (hn : n < 2 ^ 31) : hld n (nI j) = 1 := by
  unfold hld
  rw [if_neg (nI_pos (by omega)), nI_clamp (by omega), if_pos hj]
set_option maxHeartbeats 4000000 in
set_option maxRecDepth 100000 in
/-- interval -/
theorem c2_interval_o {l : Launch} {E : Gq} {z : Nat → Nat} {v : Nat → Int32} {kd : Nat} {K : List Int64} {L N S P : List Nat} {i what : Int32} (hh : hld S.length i = 0) : M2r l E yX2_interval cX2_interval 3 (some .int) 3 [.ref (z 0), .int (i), .int (what)] z v kd K L N S P (fun r => r = some (.int (-1))) := by
  intro f hf
  obtain ⟨b1, b2, b3, b4, b5⟩ := hf.lens
  refine mk_r (by decide) (Nat.le_of_ble_eq_true rfl) ?_
  intro p e s m below meth c ls C Wd hl
  have X : X2w E _ z v kd K L N S P s s.heap [] := ⟨f, Wd, hf⟩
  have hl : lv_has ls 3 [(0, .ref (z 0)), (1, .int (i)), (2, .int (what))] := hl
  refine lv_aload_n C.hx C.hb dX2_interval_0 rfl (lv_at hl 0 rfl) ?_
  refine x2g_7 C X dX2_interval_1 ?_
  refine lv_iload_n C.hx C.hb dX2_interval_4 rfl (lv_at hl 1 rfl) ?_
  refine x2_holds_4 C X ⟨by decide, by decide⟩ hl.1 (Nat.le_of_ble_eq_true rfl) ⟨Nat.le_refl _, Nat.le_refl _⟩ dX2_interval_5 ?_
  refine lv_if_ne (tgt := 13) C.hx C.hb dX2_interval_8 (by decide) (fun c8 => ?_) (fun c8 => ?_)
  · exact absurd hh c8
  · refine lv_iconst (v := (-1)) C.hx C.hb dX2_interval_11 (by decide) ?_
    exact ret_ir C (rfl) dX2_interval_12
set_option maxHeartbeats 4000000 in
set_option maxRecDepth 100000 in
/-- interval -/
theorem c2_interval_0 {l : Launch} {E : Gq} {z : Nat → Nat} {v : Nat → Int32} {kd : Nat} {K : List Int64} {L N S P : List Nat} {j : Nat} (hJ : J2 K L N S P) (hj : j < S.length) (hk : K.length ≤ 600) : M2r l E yX2_interval cX2_interval 3 (some .int) 3 [.ref (z 0), .int (nI (j)), .int (nI (0))] z v kd K L N S P (fun r => r = some (.int (nI (N.getD j 0)))) := by
  intro f hf
  obtain ⟨b1, b2, b3, b4, b5⟩ := hf.lens
  refine mk_r (by decide) (Nat.le_of_ble_eq_true rfl) ?_
  intro p e s m below meth c ls C Wd hl
  have X : X2w E _ z v kd K L N S P s s.heap [] := ⟨f, Wd, hf⟩
  have hl : lv_has ls 3 [(0, .ref (z 0)), (1, .int (nI (j))), (2, .int (nI (0)))] := hl
  obtain ⟨j1, j2, j3, j4, j5, j6, j7, j8⟩ := id hJ
  obtain ⟨k1, k2, k3, k4⟩ := hJ.b
  refine lv_aload_n C.hx C.hb dX2_interval_0 rfl (lv_at hl 0 rfl) ?_
  refine x2g_7 C X dX2_interval_1 ?_
  refine lv_iload_n C.hx C.hb dX2_interval_4 rfl (lv_at hl 1 rfl) ?_
  refine x2_holds_4 C X ⟨by decide, by decide⟩ hl.1 (Nat.le_of_ble_eq_true rfl) ⟨Nat.le_refl _, Nat.le_refl _⟩ dX2_interval_5 ?_
  refine n_re (j := nI 1) (hld_y hj (by omega)) ?_
  refine n_if_ne (tgt := 13) C dX2_interval_8 (by decide) (by decide) (fun _ => ?_) (fun h => absurd h (by decide))
  refine lv_iload_n C.hx C.hb dX2_interval_13 rfl (lv_at hl 2 rfl) ?_
  refine lv_tableIn (off := 30) (tgt := 44) C.hx C.hb dX2_interval_14 (by decide) (by decide) (by decide) (by decide) ?_
  refine lv_aload_n C.hx C.hb dX2_interval_44 rfl (lv_at hl 0 rfl) ?_
  refine x2g_6 C X dX2_interval_45 ?_
  refine lv_iload_n C.hx C.hb dX2_interval_48 rfl (lv_at hl 1 rfl) ?_
  refine x2_intAt_3 C X (by omega) ⟨by decide, by decide⟩ hl.1 (Nat.le_of_ble_eq_true rfl) ⟨Nat.le_refl _, Nat.le_refl _⟩ dX2_interval_49 ?_
  exact ret_ir C (rfl) dX2_interval_52
set_option maxHeartbeats 4000000 in
set_option maxRecDepth 100000 in
/-- interval -/
theorem c2_interval_1 {l : Launch} {E : Gq} {z : Nat → Nat} {v : Nat → Int32} {kd : Nat} {K : List Int64} {L N S P : List Nat} {j : Nat} (hJ : J2 K L N S P) (hj : j < S.length) (hk : K.length ≤ 600) : M2r l E yX2_interval cX2_interval 3 (some .int) 3 [.ref (z 0), .int (nI (j)), .int (nI (1))] z v kd K L N S P (fun r => r = some (.int (nI (S.getD j 0)))) := by
  intro f hf
  obtain ⟨b1, b2, b3, b4, b5⟩ := hf.lens
  refine mk_r (by decide) (Nat.le_of_ble_eq_true rfl) ?_
  intro p e s m below meth c ls C Wd hl
  have X : X2w E _ z v kd K L N S P s s.heap [] := ⟨f, Wd, hf⟩
  have hl : lv_has ls 3 [(0, .ref (z 0)), (1, .int (nI (j))), (2, .int (nI (1)))] := hl
  obtain ⟨j1, j2, j3, j4, j5, j6, j7, j8⟩ := id hJ
  obtain ⟨k1, k2, k3, k4⟩ := hJ.b
  refine lv_aload_n C.hx C.hb dX2_interval_0 rfl (lv_at hl 0 rfl) ?_
  refine x2g_7 C X dX2_interval_1 ?_
  refine lv_iload_n C.hx C.hb dX2_interval_4 rfl (lv_at hl 1 rfl) ?_
  refine x2_holds_4 C X ⟨by decide, by decide⟩ hl.1 (Nat.le_of_ble_eq_true rfl) ⟨Nat.le_refl _, Nat.le_refl _⟩ dX2_interval_5 ?_
  refine n_re (j := nI 1) (hld_y hj (by omega)) ?_
  refine n_if_ne (tgt := 13) C dX2_interval_8 (by decide) (by decide) (fun _ => ?_) (fun h => absurd h (by decide))
  refine lv_iload_n C.hx C.hb dX2_interval_13 rfl (lv_at hl 2 rfl) ?_
  refine lv_tableIn (off := 39) (tgt := 53) C.hx C.hb dX2_interval_14 (by decide) (by decide) (by decide) (by decide) ?_
  refine lv_aload_n C.hx C.hb dX2_interval_53 rfl (lv_at hl 0 rfl) ?_
  refine x2g_7 C X dX2_interval_54 ?_
  refine lv_iload_n C.hx C.hb dX2_interval_57 rfl (lv_at hl 1 rfl) ?_
  refine x2_intAt_4 C X (by omega) ⟨by decide, by decide⟩ hl.1 (Nat.le_of_ble_eq_true rfl) ⟨Nat.le_refl _, Nat.le_refl _⟩ dX2_interval_58 ?_
  exact ret_ir C (rfl) dX2_interval_61
set_option maxHeartbeats 4000000 in
set_option maxRecDepth 100000 in
/-- interval -/
theorem c2_interval_2 {l : Launch} {E : Gq} {z : Nat → Nat} {v : Nat → Int32} {kd : Nat} {K : List Int64} {L N S P : List Nat} {j : Nat} (hJ : J2 K L N S P) (hj : j < S.length) (hk : K.length ≤ 600) : M2r l E yX2_interval cX2_interval 3 (some .int) 3 [.ref (z 0), .int (nI (j)), .int (nI (2))] z v kd K L N S P (fun r => r = some (.int (nI (lin L S j)))) := by
  intro f hf
  obtain ⟨b1, b2, b3, b4, b5⟩ := hf.lens
  refine mk_r (by decide) (Nat.le_of_ble_eq_true rfl) ?_
  intro p e s m below meth c ls C Wd hl
  have X : X2w E _ z v kd K L N S P s s.heap [] := ⟨f, Wd, hf⟩
  have hl : lv_has ls 3 [(0, .ref (z 0)), (1, .int (nI (j))), (2, .int (nI (2)))] := hl
  obtain ⟨j1, j2, j3, j4, j5, j6, j7, j8⟩ := id hJ
  obtain ⟨k1, k2, k3, k4⟩ := hJ.b
  refine lv_aload_n C.hx C.hb dX2_interval_0 rfl (lv_at hl 0 rfl) ?_
  refine x2g_7 C X dX2_interval_1 ?_
  refine lv_iload_n C.hx C.hb dX2_interval_4 rfl (lv_at hl 1 rfl) ?_
  refine x2_holds_4 C X ⟨by decide, by decide⟩ hl.1 (Nat.le_of_ble_eq_true rfl) ⟨Nat.le_refl _, Nat.le_refl _⟩ dX2_interval_5 ?_
  refine n_re (j := nI 1) (hld_y hj (by omega)) ?_
  refine n_if_ne (tgt := 13) C dX2_interval_8 (by decide) (by decide) (fun _ => ?_) (fun h => absurd h (by decide))
  refine lv_iload_n C.hx C.hb dX2_interval_13 rfl (lv_at hl 2 rfl) ?_
  refine lv_tableIn (off := 48) (tgt := 62) C.hx C.hb dX2_interval_14 (by decide) (by decide) (by decide) (by decide) ?_
  refine lv_aload_n C.hx C.hb dX2_interval_62 rfl (lv_at hl 0 rfl) ?_
  refine lv_iload_n C.hx C.hb dX2_interval_63 rfl (lv_at hl 1 rfl) ?_
  refine x2_cr (As := [.int (nI (j))]) (rest := []) C X (c2_lengthsIn (i := j) (by omega) (by omega)) wy_X2_lengthsIn ts_10 tw_154 rfl ⟨by decide, by decide⟩ rfl hl.1 rfl (Nat.le_of_ble_eq_true rfl) ⟨Nat.le_refl _, Nat.le_refl _⟩ dX2_interval_64 (fun r hp => ?_)
  subst hp
  refine W.eq (g2 := F0 m 67 ls [.int (nI (lin L S j))]) rfl ?_
  exact ret_ir C (rfl) dX2_interval_67
set_option maxHeartbeats 4000000 in
set_option maxRecDepth 100000 in
/-- interval -/
theorem c2_interval_3 {l : Launch} {E : Gq} {z : Nat → Nat} {v : Nat → Int32} {kd : Nat} {K : List Int64} {L N S P : List Nat} {j : Nat} (hJ : J2 K L N S P) (hj : j < S.length) (hk : K.length ≤ 600) : M2r l E yX2_interval cX2_interval 3 (some .int) 3 [.ref (z 0), .int (nI (j)), .int (nI (3))] z v kd K L N S P (fun r => r = some (.int (nI (gOf P j)))) := by
  intro f hf
  obtain ⟨b1, b2, b3, b4, b5⟩ := hf.lens
  refine mk_r (by decide) (Nat.le_of_ble_eq_true rfl) ?_
  intro p e s m below meth c ls C Wd hl
  have X : X2w E _ z v kd K L N S P s s.heap [] := ⟨f, Wd, hf⟩
  have hl : lv_has ls 3 [(0, .ref (z 0)), (1, .int (nI (j))), (2, .int (nI (3)))] := hl
  obtain ⟨j1, j2, j3, j4, j5, j6, j7, j8⟩ := id hJ
  obtain ⟨k1, k2, k3, k4⟩ := hJ.b
  refine lv_aload_n C.hx C.hb dX2_interval_0 rfl (lv_at hl 0 rfl) ?_
  refine x2g_7 C X dX2_interval_1 ?_
  refine lv_iload_n C.hx C.hb dX2_interval_4 rfl (lv_at hl 1 rfl) ?_
  refine x2_holds_4 C X ⟨by decide, by decide⟩ hl.1 (Nat.le_of_ble_eq_true rfl) ⟨Nat.le_refl _, Nat.le_refl _⟩ dX2_interval_5 ?_
  refine n_re (j := nI 1) (hld_y hj (by omega)) ?_
  refine n_if_ne (tgt := 13) C dX2_interval_8 (by decide) (by decide) (fun _ => ?_) (fun h => absurd h (by decide))
  refine lv_iload_n C.hx C.hb dX2_interval_13 rfl (lv_at hl 2 rfl) ?_
  refine lv_tableIn (off := 54) (tgt := 68) C.hx C.hb dX2_interval_14 (by decide) (by decide) (by decide) (by decide) ?_
  refine lv_aload_n C.hx C.hb dX2_interval_68 rfl (lv_at hl 0 rfl) ?_
  refine x2g_8 C X dX2_interval_69 ?_
  refine lv_iload_n C.hx C.hb dX2_interval_72 rfl (lv_at hl 1 rfl) ?_
  refine x2_groupOf_5 C X (by omega) (by omega) ⟨by decide, by decide⟩ hl.1 (Nat.le_of_ble_eq_true rfl) ⟨Nat.le_refl _, Nat.le_refl _⟩ dX2_interval_73 ?_
  exact ret_ir C (rfl) dX2_interval_76
set_option maxHeartbeats 4000000 in
set_option maxRecDepth 100000 in
/-- interval -/
theorem c2_interval_x {l : Launch} {E : Gq} {z : Nat → Nat} {v : Nat → Int32} {kd : Nat} {K : List Int64} {L N S P : List Nat} {j : Nat} {what : Int32} (hj : j < S.length) (hsw : what.toInt < 0 ∨ 3 < what.toInt) : M2r l E yX2_interval cX2_interval 3 (some .int) 3 [.ref (z 0), .int (nI (j)), .int (what)] z v kd K L N S P (fun r => r = some (.int (-1))) := by
  intro f hf
  obtain ⟨b1, b2, b3, b4, b5⟩ := hf.lens
  refine mk_r (by decide) (Nat.le_of_ble_eq_true rfl) ?_
  intro p e s m below meth c ls C Wd hl
  have X : X2w E _ z v kd K L N S P s s.heap [] := ⟨f, Wd, hf⟩
  have hl : lv_has ls 3 [(0, .ref (z 0)), (1, .int (nI (j))), (2, .int (what))] := hl
  refine lv_aload_n C.hx C.hb dX2_interval_0 rfl (lv_at hl 0 rfl) ?_
  refine x2g_7 C X dX2_interval_1 ?_
  refine lv_iload_n C.hx C.hb dX2_interval_4 rfl (lv_at hl 1 rfl) ?_
  refine x2_holds_4 C X ⟨by decide, by decide⟩ hl.1 (Nat.le_of_ble_eq_true rfl) ⟨Nat.le_refl _, Nat.le_refl _⟩ dX2_interval_5 ?_
  refine n_re (j := nI 1) (hld_y hj (by omega)) ?_
  refine n_if_ne (tgt := 13) C dX2_interval_8 (by decide) (by decide) (fun _ => ?_) (fun h => absurd h (by decide))
  refine lv_iload_n C.hx C.hb dX2_interval_13 rfl (lv_at hl 2 rfl) ?_
  refine lv_tableOut (tgt := 77) C.hx C.hb dX2_interval_14 hsw (by decide) ?_
  refine lv_iconst (v := (-1)) C.hx C.hb dX2_interval_77 (by decide) ?_
  exact ret_ir C (rfl) dX2_interval_78
set_option maxHeartbeats 4000000 in
set_option maxRecDepth 100000 in
/-- split -/
theorem c2_split_0 {l : Launch} {E : Gq} {z : Nat → Nat} {v : Nat → Int32} {kd : Nat} {K : List Int64} {L N S P : List Nat}  : M2r l E yX2_split cX2_split 2 (some .int) 0 [.ref (z 0), .int (nI (0))] z v kd K L N S P (fun r => r = some (.int (v 15))) := by
  intro f hf
  obtain ⟨b1, b2, b3, b4, b5⟩ := hf.lens
  refine mk_r (by decide) (Nat.le_of_ble_eq_true rfl) ?_
  intro p e s m below meth c ls C Wd hl
  have X : X2w E _ z v kd K L N S P s s.heap [] := ⟨f, Wd, hf⟩
  have hl : lv_has ls 2 [(0, .ref (z 0)), (1, .int (nI (0)))] := hl
  refine lv_iload_n C.hx C.hb dX2_split_0 rfl (lv_at hl 1 rfl) ?_
  refine lv_tableIn (off := 31) (tgt := 32) C.hx C.hb dX2_split_1 (by decide) (by decide) (by decide) (by decide) ?_
  refine lv_aload_n C.hx C.hb dX2_split_32 rfl (lv_at hl 0 rfl) ?_
  refine x2g_15 C X (x := v 15) rfl dX2_split_33 ?_
  exact ret_ir C (rfl) dX2_split_36
set_option maxHeartbeats 4000000 in
set_option maxRecDepth 100000 in
/-- split -/
theorem c2_split_1 {l : Launch} {E : Gq} {z : Nat → Nat} {v : Nat → Int32} {kd : Nat} {K : List Int64} {L N S P : List Nat}  : M2r l E yX2_split cX2_split 2 (some .int) 0 [.ref (z 0), .int (nI (1))] z v kd K L N S P (fun r => r = some (.int (v 16))) := by
  intro f hf
  obtain ⟨b1, b2, b3, b4, b5⟩ := hf.lens
  refine mk_r (by decide) (Nat.le_of_ble_eq_true rfl) ?_
  intro p e s m below meth c ls C Wd hl
  have X : X2w E _ z v kd K L N S P s s.heap [] := ⟨f, Wd, hf⟩
  have hl : lv_has ls 2 [(0, .ref (z 0)), (1, .int (nI (1)))] := hl
  refine lv_iload_n C.hx C.hb dX2_split_0 rfl (lv_at hl 1 rfl) ?_
  refine lv_tableIn (off := 36) (tgt := 37) C.hx C.hb dX2_split_1 (by decide) (by decide) (by decide) (by decide) ?_
  refine lv_aload_n C.hx C.hb dX2_split_37 rfl (lv_at hl 0 rfl) ?_
  refine x2g_16 C X (x := v 16) rfl dX2_split_38 ?_
  exact ret_ir C (rfl) dX2_split_41
set_option maxHeartbeats 4000000 in
set_option maxRecDepth 100000 in
/-- split -/
theorem c2_split_2 {l : Launch} {E : Gq} {z : Nat → Nat} {v : Nat → Int32} {kd : Nat} {K : List Int64} {L N S P : List Nat}  : M2r l E yX2_split cX2_split 2 (some .int) 0 [.ref (z 0), .int (nI (2))] z v kd K L N S P (fun r => r = some (.int (v 17))) := by
  intro f hf
  obtain ⟨b1, b2, b3, b4, b5⟩ := hf.lens
  refine mk_r (by decide) (Nat.le_of_ble_eq_true rfl) ?_
  intro p e s m below meth c ls C Wd hl
  have X : X2w E _ z v kd K L N S P s s.heap [] := ⟨f, Wd, hf⟩
  have hl : lv_has ls 2 [(0, .ref (z 0)), (1, .int (nI (2)))] := hl
  refine lv_iload_n C.hx C.hb dX2_split_0 rfl (lv_at hl 1 rfl) ?_
  refine lv_tableIn (off := 41) (tgt := 42) C.hx C.hb dX2_split_1 (by decide) (by decide) (by decide) (by decide) ?_
  refine lv_aload_n C.hx C.hb dX2_split_42 rfl (lv_at hl 0 rfl) ?_
  refine x2g_17 C X (x := v 17) rfl dX2_split_43 ?_
  exact ret_ir C (rfl) dX2_split_46
set_option maxHeartbeats 4000000 in
set_option maxRecDepth 100000 in
/-- split -/
theorem c2_split_3 {l : Launch} {E : Gq} {z : Nat → Nat} {v : Nat → Int32} {kd : Nat} {K : List Int64} {L N S P : List Nat}  : M2r l E yX2_split cX2_split 2 (some .int) 0 [.ref (z 0), .int (nI (3))] z v kd K L N S P (fun r => r = some (.int (v 18))) := by
  intro f hf
  obtain ⟨b1, b2, b3, b4, b5⟩ := hf.lens
  refine mk_r (by decide) (Nat.le_of_ble_eq_true rfl) ?_
  intro p e s m below meth c ls C Wd hl
  have X : X2w E _ z v kd K L N S P s s.heap [] := ⟨f, Wd, hf⟩
  have hl : lv_has ls 2 [(0, .ref (z 0)), (1, .int (nI (3)))] := hl
  refine lv_iload_n C.hx C.hb dX2_split_0 rfl (lv_at hl 1 rfl) ?_
  refine lv_tableIn (off := 46) (tgt := 47) C.hx C.hb dX2_split_1 (by decide) (by decide) (by decide) (by decide) ?_
  refine lv_aload_n C.hx C.hb dX2_split_47 rfl (lv_at hl 0 rfl) ?_
  refine x2g_18 C X (x := v 18) rfl dX2_split_48 ?_
  exact ret_ir C (rfl) dX2_split_51
set_option maxHeartbeats 4000000 in
set_option maxRecDepth 100000 in
/-- split -/
theorem c2_split_x {l : Launch} {E : Gq} {z : Nat → Nat} {v : Nat → Int32} {kd : Nat} {K : List Int64} {L N S P : List Nat} {what : Int32} (hsw : what.toInt < 0 ∨ 3 < what.toInt) : M2r l E yX2_split cX2_split 2 (some .int) 0 [.ref (z 0), .int (what)] z v kd K L N S P (fun r => r = some (.int (-1))) := by
  intro f hf
  obtain ⟨b1, b2, b3, b4, b5⟩ := hf.lens
  refine mk_r (by decide) (Nat.le_of_ble_eq_true rfl) ?_
  intro p e s m below meth c ls C Wd hl
  have X : X2w E _ z v kd K L N S P s s.heap [] := ⟨f, Wd, hf⟩
  have hl : lv_has ls 2 [(0, .ref (z 0)), (1, .int (what))] := hl
  refine lv_iload_n C.hx C.hb dX2_split_0 rfl (lv_at hl 1 rfl) ?_
  refine lv_tableOut (tgt := 52) C.hx C.hb dX2_split_1 hsw (by decide) ?_
  refine lv_iconst (v := (-1)) C.hx C.hb dX2_split_52 (by decide) ?_
  exact ret_ir C (rfl) dX2_split_53
set_option maxHeartbeats 4000000 in
set_option maxRecDepth 100000 in
/-- count -/
theorem c2_count_0 {l : Launch} {E : Gq} {z : Nat → Nat} {v : Nat → Int32} {kd : Nat} {K : List Int64} {L N S P : List Nat}  : M2r l E yX2_count cX2_count 2 (some .int) 2 [.ref (z 0), .int (nI (0))] z v kd K L N S P (fun r => r = some (.int (nI K.length))) := by
  intro f hf
  obtain ⟨b1, b2, b3, b4, b5⟩ := hf.lens
  refine mk_r (by decide) (Nat.le_of_ble_eq_true rfl) ?_
  intro p e s m below meth c ls C Wd hl
  have X : X2w E _ z v kd K L N S P s s.heap [] := ⟨f, Wd, hf⟩
  have hl : lv_has ls 2 [(0, .ref (z 0)), (1, .int (nI (0)))] := hl
  refine lv_iload_n C.hx C.hb dX2_count_0 rfl (lv_at hl 1 rfl) ?_
  refine lv_tableIn (off := 39) (tgt := 40) C.hx C.hb dX2_count_1 (by decide) (by decide) (by decide) (by decide) ?_
  refine lv_aload_n C.hx C.hb dX2_count_40 rfl (lv_at hl 0 rfl) ?_
  refine x2g_4 C X dX2_count_41 ?_
  refine x2s_1 C X dX2_count_44 ?_
  exact ret_ir C (rfl) dX2_count_47
set_option maxHeartbeats 4000000 in
set_option maxRecDepth 100000 in
/-- count -/
theorem c2_count_1 {l : Launch} {E : Gq} {z : Nat → Nat} {v : Nat → Int32} {kd : Nat} {K : List Int64} {L N S P : List Nat}  : M2r l E yX2_count cX2_count 2 (some .int) 2 [.ref (z 0), .int (nI (1))] z v kd K L N S P (fun r => r = some (.int (nI S.length))) := by
  intro f hf
  obtain ⟨b1, b2, b3, b4, b5⟩ := hf.lens
  refine mk_r (by decide) (Nat.le_of_ble_eq_true rfl) ?_
  intro p e s m below meth c ls C Wd hl
  have X : X2w E _ z v kd K L N S P s s.heap [] := ⟨f, Wd, hf⟩
  have hl : lv_has ls 2 [(0, .ref (z 0)), (1, .int (nI (1)))] := hl
  refine lv_iload_n C.hx C.hb dX2_count_0 rfl (lv_at hl 1 rfl) ?_
  refine lv_tableIn (off := 47) (tgt := 48) C.hx C.hb dX2_count_1 (by decide) (by decide) (by decide) (by decide) ?_
  refine lv_aload_n C.hx C.hb dX2_count_48 rfl (lv_at hl 0 rfl) ?_
  refine x2g_7 C X dX2_count_49 ?_
  refine x2s_4 C X dX2_count_52 ?_
  exact ret_ir C (rfl) dX2_count_55
set_option maxHeartbeats 4000000 in
set_option maxRecDepth 100000 in
/-- count -/
theorem c2_count_2 {l : Launch} {E : Gq} {z : Nat → Nat} {v : Nat → Int32} {kd : Nat} {K : List Int64} {L N S P : List Nat}  : M2r l E yX2_count cX2_count 2 (some .int) 2 [.ref (z 0), .int (nI (2))] z v kd K L N S P (fun r => r = some (.int (nI P.length))) := by
  intro f hf
  obtain ⟨b1, b2, b3, b4, b5⟩ := hf.lens
  refine mk_r (by decide) (Nat.le_of_ble_eq_true rfl) ?_
  intro p e s m below meth c ls C Wd hl
  have X : X2w E _ z v kd K L N S P s s.heap [] := ⟨f, Wd, hf⟩
  have hl : lv_has ls 2 [(0, .ref (z 0)), (1, .int (nI (2)))] := hl
  refine lv_iload_n C.hx C.hb dX2_count_0 rfl (lv_at hl 1 rfl) ?_
  refine lv_tableIn (off := 55) (tgt := 56) C.hx C.hb dX2_count_1 (by decide) (by decide) (by decide) (by decide) ?_
  refine lv_aload_n C.hx C.hb dX2_count_56 rfl (lv_at hl 0 rfl) ?_
  refine x2g_8 C X dX2_count_57 ?_
  refine x2s_5 C X dX2_count_60 ?_
  exact ret_ir C (rfl) dX2_count_63
set_option maxHeartbeats 4000000 in
set_option maxRecDepth 100000 in
/-- count -/
theorem c2_count_3 {l : Launch} {E : Gq} {z : Nat → Nat} {v : Nat → Int32} {kd : Nat} {K : List Int64} {L N S P : List Nat} {cl : Nat} (hv11 : v 11 = nI cl) (hcl : cl ≤ 1) : M2r l E yX2_count cX2_count 2 (some .int) 2 [.ref (z 0), .int (nI (3))] z v kd K L N S P (fun r => r = some (.int (nI cl))) := by
  intro f hf
  obtain ⟨b1, b2, b3, b4, b5⟩ := hf.lens
  refine mk_r (by decide) (Nat.le_of_ble_eq_true rfl) ?_
  intro p e s m below meth c ls C Wd hl
  have X : X2w E _ z v kd K L N S P s s.heap [] := ⟨f, Wd, hf⟩
  have hl : lv_has ls 2 [(0, .ref (z 0)), (1, .int (nI (3)))] := hl
  refine lv_iload_n C.hx C.hb dX2_count_0 rfl (lv_at hl 1 rfl) ?_
  refine lv_tableIn (off := 63) (tgt := 64) C.hx C.hb dX2_count_1 (by decide) (by decide) (by decide) (by decide) ?_
  refine lv_aload_n C.hx C.hb dX2_count_64 rfl (lv_at hl 0 rfl) ?_
  refine x2g_11 C X (x := nI (cl)) hv11 dX2_count_65 ?_
  refine n_if_eq (tgt := 75) C dX2_count_68 (by decide) (by omega) (fun c68 => ?_) (fun c68 => ?_)
  · refine lv_iconst (v := nI (0)) C.hx C.hb dX2_count_75 (by decide) ?_
    exact ret_ir C (by rw [c68]) dX2_count_76
  · refine lv_iconst (v := nI (1)) C.hx C.hb dX2_count_71 (by decide) ?_
    refine lv_goto (tgt := 76) C.hx C.hb dX2_count_72 (by decide) ?_
    exact ret_ir C (by rw [show cl = 1 by omega]) dX2_count_76
set_option maxHeartbeats 4000000 in
set_option maxRecDepth 100000 in
/-- count -/
theorem c2_count_4 {l : Launch} {E : Gq} {z : Nat → Nat} {v : Nat → Int32} {kd : Nat} {K : List Int64} {L N S P : List Nat}  : M2r l E yX2_count cX2_count 2 (some .int) 2 [.ref (z 0), .int (nI (4))] z v kd K L N S P (fun r => r = some (.int (v 9))) := by
  intro f hf
  obtain ⟨b1, b2, b3, b4, b5⟩ := hf.lens
  refine mk_r (by decide) (Nat.le_of_ble_eq_true rfl) ?_
  intro p e s m below meth c ls C Wd hl
  have X : X2w E _ z v kd K L N S P s s.heap [] := ⟨f, Wd, hf⟩
  have hl : lv_has ls 2 [(0, .ref (z 0)), (1, .int (nI (4)))] := hl
  refine lv_iload_n C.hx C.hb dX2_count_0 rfl (lv_at hl 1 rfl) ?_
  refine lv_tableIn (off := 76) (tgt := 77) C.hx C.hb dX2_count_1 (by decide) (by decide) (by decide) (by decide) ?_
  refine lv_aload_n C.hx C.hb dX2_count_77 rfl (lv_at hl 0 rfl) ?_
  refine x2g_9 C X (x := v 9) rfl dX2_count_78 ?_
  exact ret_ir C (rfl) dX2_count_81
set_option maxHeartbeats 4000000 in
set_option maxRecDepth 100000 in
/-- count -/
theorem c2_count_5 {l : Launch} {E : Gq} {z : Nat → Nat} {v : Nat → Int32} {kd : Nat} {K : List Int64} {L N S P : List Nat}  : M2r l E yX2_count cX2_count 2 (some .int) 2 [.ref (z 0), .int (nI (5))] z v kd K L N S P (fun r => r = some (.int (nI (sm L 0 L.length)))) := by
  intro f hf
  obtain ⟨b1, b2, b3, b4, b5⟩ := hf.lens
  refine mk_r (by decide) (Nat.le_of_ble_eq_true rfl) ?_
  intro p e s m below meth c ls C Wd hl
  have X : X2w E _ z v kd K L N S P s s.heap [] := ⟨f, Wd, hf⟩
  have hl : lv_has ls 2 [(0, .ref (z 0)), (1, .int (nI (5)))] := hl
  refine lv_iload_n C.hx C.hb dX2_count_0 rfl (lv_at hl 1 rfl) ?_
  refine lv_tableIn (off := 81) (tgt := 82) C.hx C.hb dX2_count_1 (by decide) (by decide) (by decide) (by decide) ?_
  refine lv_aload_n C.hx C.hb dX2_count_82 rfl (lv_at hl 0 rfl) ?_
  refine x2g_5 C X dX2_count_83 ?_
  refine lv_iconst (v := nI (0)) C.hx C.hb dX2_count_86 (by decide) ?_
  refine lv_aload_n C.hx C.hb dX2_count_87 rfl (lv_at hl 0 rfl) ?_
  refine x2g_5 C X dX2_count_88 ?_
  refine x2s_2 C X dX2_count_91 ?_
  refine x2_sum_2 C X (by omega) (by omega) ⟨by decide, by decide⟩ hl.1 (Nat.le_of_ble_eq_true rfl) ⟨Nat.le_refl _, Nat.le_refl _⟩ dX2_count_94 ?_
  exact ret_ir C (rfl) dX2_count_97
set_option maxHeartbeats 4000000 in
set_option maxRecDepth 100000 in
/-- count -/
theorem c2_count_x {l : Launch} {E : Gq} {z : Nat → Nat} {v : Nat → Int32} {kd : Nat} {K : List Int64} {L N S P : List Nat} {what : Int32} (hsw : what.toInt < 0 ∨ 5 < what.toInt) : M2r l E yX2_count cX2_count 2 (some .int) 2 [.ref (z 0), .int (what)] z v kd K L N S P (fun r => r = some (.int (-1))) := by
  intro f hf
  obtain ⟨b1, b2, b3, b4, b5⟩ := hf.lens
  refine mk_r (by decide) (Nat.le_of_ble_eq_true rfl) ?_
  intro p e s m below meth c ls C Wd hl
  have X : X2w E _ z v kd K L N S P s s.heap [] := ⟨f, Wd, hf⟩
  have hl : lv_has ls 2 [(0, .ref (z 0)), (1, .int (what))] := hl
  refine lv_iload_n C.hx C.hb dX2_count_0 rfl (lv_at hl 1 rfl) ?_
  refine lv_tableOut (tgt := 98) C.hx C.hb dX2_count_1 hsw (by decide) ?_
  refine lv_iconst (v := (-1)) C.hx C.hb dX2_count_98 (by decide) ?_
  exact ret_ir C (rfl) dX2_count_99
set_option maxHeartbeats 4000000 in
set_option maxRecDepth 100000 in
/-- order -/
theorem c2_order {l : Launch} {E : Gq} {z : Nat → Nat} {v : Nat → Int32} {kd : Nat} {K : List Int64} {L N S P : List Nat} {i : Int32} : M2r l E yX2_order cX2_order 2 (some .long) 1 [.ref (z 0), .int (i)] z v kd K L N S P (fun r => r = some (.long (lAt K i))) := by
  intro f hf
  obtain ⟨b1, b2, b3, b4, b5⟩ := hf.lens
  refine mk_r (by decide) (Nat.le_of_ble_eq_true rfl) ?_
  intro p e s m below meth c ls C Wd hl
  have X : X2w E _ z v kd K L N S P s s.heap [] := ⟨f, Wd, hf⟩
  have hl : lv_has ls 2 [(0, .ref (z 0)), (1, .int (i))] := hl
  refine lv_aload_n C.hx C.hb dX2_order_0 rfl (lv_at hl 0 rfl) ?_
  refine x2g_4 C X dX2_order_1 ?_
  refine lv_iload_n C.hx C.hb dX2_order_4 rfl (lv_at hl 1 rfl) ?_
  refine x2_at C X ⟨by decide, by decide⟩ hl.1 (Nat.le_of_ble_eq_true rfl) ⟨Nat.le_refl _, Nat.le_refl _⟩ dX2_order_5 ?_
  exact ret_lr C (rfl) dX2_order_8
set_option maxHeartbeats 4000000 in
set_option maxRecDepth 100000 in
theorem l2_bo {p : Program} {l : Launch} {e : Env} {s : State} {m : MethodId} {args : Array Value} {below : List Frame} {meth : Method} {c : Code} {E : Gq} {A : Nat → Prop} {z : Nat → Nat} {v : Nat → Int32} {kd : Nat} {K : List Int64} {L N S P : List Nat} (C : Cx E p s m args meth c cX2_brokenOrders 3 (some .int) RX2 A) (X : X2w E A z v kd K L N S P s s.heap []) (b1 : K.length ≤ 600) (b4 : S.length ≤ 601) (b5 : P.length ≤ 601) (hso : ∀ j, 1 ≤ j → j < K.length → K.getD (j - 1) 0 < K.getD j 0) : ∀ (n j : Nat), K.length - j = n → 1 ≤ j → j ≤ K.length + 1 → ∀ ls : Array Slot, lv_has ls 3 [(2, .int (nI (j))), (1, .int (nI (0))), (0, .ref (z 0))] → W p l e (Rm 1 0 0) s m args below meth c s.heap [] 0 0 (MQ below (Qr (fun r => r = some (.int (nI 0)))) args s 0 0 (fun _ => False)) (F0 m 4 ls []) := by
  intro n
  induction n with
  | zero =>
    intro j hn h1 hj ls hl
    refine lv_iload_n C.hx C.hb dX2_brokenOrders_4 rfl (lv_at hl 0 rfl) ?_
    refine lv_aload_n C.hx C.hb dX2_brokenOrders_5 rfl (lv_at hl 2 rfl) ?_
    refine x2g_4 C X dX2_brokenOrders_6 ?_
    refine x2s_1 C X dX2_brokenOrders_9 ?_
    refine n_icmp_ge (tgt := 46) C dX2_brokenOrders_12 (by decide) (by omega) (by omega) (fun c12 => ?_) (fun c12 => ?_)
    · refine lv_iload_n C.hx C.hb dX2_brokenOrders_46 rfl (lv_at hl 1 rfl) ?_
      exact ret_ir C (rfl) dX2_brokenOrders_47
    · omega
  | succ n ih =>
    intro j hn h1 hj ls hl
    refine lv_iload_n C.hx C.hb dX2_brokenOrders_4 rfl (lv_at hl 0 rfl) ?_
    refine lv_aload_n C.hx C.hb dX2_brokenOrders_5 rfl (lv_at hl 2 rfl) ?_
    refine x2g_4 C X dX2_brokenOrders_6 ?_
    refine x2s_1 C X dX2_brokenOrders_9 ?_
    refine n_icmp_ge (tgt := 46) C dX2_brokenOrders_12 (by decide) (by omega) (by omega) (fun c12 => ?_) (fun c12 => ?_)
    · omega
    · refine lv_aload_n C.hx C.hb dX2_brokenOrders_15 rfl (lv_at hl 2 rfl) ?_
      refine x2g_4 C X dX2_brokenOrders_16 ?_
      refine lv_iload_n C.hx C.hb dX2_brokenOrders_19 rfl (lv_at hl 0 rfl) ?_
      refine lv_iconst (v := nI (1)) C.hx C.hb dX2_brokenOrders_20 (by decide) ?_
      refine n_sub C dX2_brokenOrders_21 (by omega) ?_
      refine x2_at C X ⟨by decide, by decide⟩ hl.1 (Nat.le_of_ble_eq_true rfl) ⟨Nat.le_refl _, Nat.le_refl _⟩ dX2_brokenOrders_22 ?_
      refine n_rel (lAt_n (by omega)) ?_
      refine lv_aload_n C.hx C.hb dX2_brokenOrders_25 rfl (lv_at hl 2 rfl) ?_
      refine x2g_4 C X dX2_brokenOrders_26 ?_
      refine lv_iload_n C.hx C.hb dX2_brokenOrders_29 rfl (lv_at hl 0 rfl) ?_
      refine x2_at C X ⟨by decide, by decide⟩ hl.1 (Nat.le_of_ble_eq_true rfl) ⟨Nat.le_refl _, Nat.le_refl _⟩ dX2_brokenOrders_30 ?_
      refine n_rel (lAt_n (by omega)) ?_
      refine n_lcmp_lt (tgt := 40) C dX2_brokenOrders_33 dX2_brokenOrders_34 (by decide) (fun c33 => ?_) (fun c33 => ?_)
      · refine lv_iinc (v := nI (j + 1)) (lv' := [(2, .int (nI (j + 1))), (1, .int (nI (0))), (0, .ref (z 0))]) C.hx C.hb dX2_brokenOrders_40 hl (k := 0) rfl (nI_1 _) (by decide) rfl (fun ls hl => ?_)
        refine lv_goto (tgt := 4) C.hx C.hb dX2_brokenOrders_43 (by decide) ?_
        exact ih (j + 1) (by omega) (by omega) (by omega) ls (lv_sub hl [0, 1, 2] rfl)
      · exact absurd (hso j h1 (by omega)) (Int64.not_lt.mpr c33)
set_option maxHeartbeats 4000000 in
set_option maxRecDepth 100000 in
/-- no order is broken -/
theorem c2_brokenOrders {l : Launch} {E : Gq} {z : Nat → Nat} {v : Nat → Int32} {kd : Nat} {K : List Int64} {L N S P : List Nat} (hso : ∀ j, 1 ≤ j → j < K.length → K.getD (j - 1) 0 < K.getD j 0) : M2r l E yX2_brokenOrders cX2_brokenOrders 3 (some .int) 1 [.ref (z 0)] z v kd K L N S P (fun r => r = some (.int (nI 0))) := by
  intro f hf
  obtain ⟨b1, b2, b3, b4, b5⟩ := hf.lens
  refine mk_r (by decide) (Nat.le_of_ble_eq_true rfl) ?_
  intro p e s m below meth c ls C Wd hl
  have X : X2w E _ z v kd K L N S P s s.heap [] := ⟨f, Wd, hf⟩
  have hl : lv_has ls 3 [(0, .ref (z 0))] := hl
  refine lv_iconst (v := nI (0)) C.hx C.hb dX2_brokenOrders_0 (by decide) ?_
  refine lv_istore_n (lv' := [(1, .int (nI (0))), (0, .ref (z 0))]) C.hx C.hb dX2_brokenOrders_1 rfl hl (by decide) rfl (fun ls hl => ?_)
  refine lv_iconst (v := nI (1)) C.hx C.hb dX2_brokenOrders_2 (by decide) ?_
  refine lv_istore_n (lv' := [(2, .int (nI (1))), (1, .int (nI (0))), (0, .ref (z 0))]) C.hx C.hb dX2_brokenOrders_3 rfl hl (by decide) rfl (fun ls hl => ?_)
  exact l2_bo C X b1 b4 b5 hso _ 1 rfl (Nat.le_refl _) (by omega) ls (lv_sub hl [0, 1, 2] rfl)
set_option maxHeartbeats 4000000 in
set_option maxRecDepth 100000 in
theorem l2_br {p : Program} {l : Launch} {e : Env} {s : State} {m : MethodId} {args : Array Value} {below : List Frame} {meth : Method} {c : Code} {E : Gq} {A : Nat → Prop} {z : Nat → Nat} {v : Nat → Int32} {kd : Nat} {K : List Int64} {L N S P : List Nat} (C : Cx E p s m args meth c cX2_brokenRooms 5 (some .int) RX2 A) (X : X2w E A z v kd K L N S P s s.heap []) (b1 : K.length ≤ 600) (b4 : S.length ≤ 601) (b5 : P.length ≤ 601) {rm : Nat} (hv0 : v 0 = nI rm) (hrm : rm ≤ 1000) (hSs : S.sum ≤ 2 ^ 20) (hLs : L.sum ≤ 2 ^ 20) (hro : ∀ j, j < S.length → lin L S j ≤ rm) : ∀ (n j : Nat), S.length - j = n → True → j ≤ S.length + 1 → ∀ ls : Array Slot, lv_has ls 5 [(3, .int (nI (j))), (2, .int (nI (sm S 0 j))), (1, .int (nI (0))), (0, .ref (z 0))] → W p l e (Rm 2 0 0) s m args below meth c s.heap [] 0 0 (MQ below (Qr (fun r => r = some (.int (nI 0)))) args s 0 0 (fun _ => False)) (F0 m 6 ls []) := by
  intro n
  induction n with
  | zero =>
    intro j hn h1 hj ls hl
    refine lv_iload_n C.hx C.hb dX2_brokenRooms_6 rfl (lv_at hl 0 rfl) ?_
    refine lv_aload_n C.hx C.hb dX2_brokenRooms_7 rfl (lv_at hl 3 rfl) ?_
    refine x2g_7 C X dX2_brokenRooms_8 ?_
    refine x2s_4 C X dX2_brokenRooms_11 ?_
    refine n_icmp_ge (tgt := 58) C dX2_brokenRooms_14 (by decide) (by omega) (by omega) (fun c14 => ?_) (fun c14 => ?_)
    · refine lv_iload_n C.hx C.hb dX2_brokenRooms_58 rfl (lv_at hl 2 rfl) ?_
      exact ret_ir C (rfl) dX2_brokenRooms_59
    · omega
  | succ n ih =>
    intro j hn h1 hj ls hl
    have q1 := sm0_get S j
    have q2 := sm_le L (sm S 0 j) (sm S 0 j + S.getD j 0)
    refine lv_iload_n C.hx C.hb dX2_brokenRooms_6 rfl (lv_at hl 0 rfl) ?_
    refine lv_aload_n C.hx C.hb dX2_brokenRooms_7 rfl (lv_at hl 3 rfl) ?_
    refine x2g_7 C X dX2_brokenRooms_8 ?_
    refine x2s_4 C X dX2_brokenRooms_11 ?_
    refine n_icmp_ge (tgt := 58) C dX2_brokenRooms_14 (by decide) (by omega) (by omega) (fun c14 => ?_) (fun c14 => ?_)
    · omega
    · refine lv_iload_n C.hx C.hb dX2_brokenRooms_17 rfl (lv_at hl 1 rfl) ?_
      refine lv_aload_n C.hx C.hb dX2_brokenRooms_18 rfl (lv_at hl 3 rfl) ?_
      refine x2g_7 C X dX2_brokenRooms_19 ?_
      refine lv_iload_n C.hx C.hb dX2_brokenRooms_22 rfl (lv_at hl 0 rfl) ?_
      refine x2_intAt_4 C X (by omega) ⟨by decide, by decide⟩ hl.1 (Nat.le_of_ble_eq_true rfl) ⟨Nat.le_refl _, Nat.le_refl _⟩ dX2_brokenRooms_23 ?_
      refine n_add C dX2_brokenRooms_26 ?_
      refine lv_istore (lv' := [(4, .int (nI ((sm S 0 j) + (S.getD j 0)))), (3, .int (nI (j))), (2, .int (nI (sm S 0 j))), (1, .int (nI (0))), (0, .ref (z 0))]) C.hx C.hb dX2_brokenRooms_27 hl (by decide) rfl (fun ls hl => ?_)
      refine lv_aload_n C.hx C.hb dX2_brokenRooms_29 rfl (lv_at hl 4 rfl) ?_
      refine x2g_5 C X dX2_brokenRooms_30 ?_
      refine lv_iload_n C.hx C.hb dX2_brokenRooms_33 rfl (lv_at hl 2 rfl) ?_
      refine lv_iload C.hx C.hb dX2_brokenRooms_34 (lv_at hl 0 rfl) ?_
      refine x2_sum_2 C X (by omega) (by omega) ⟨by decide, by decide⟩ hl.1 (Nat.le_of_ble_eq_true rfl) ⟨Nat.le_refl _, Nat.le_refl _⟩ dX2_brokenRooms_36 ?_
      refine lv_aload_n C.hx C.hb dX2_brokenRooms_39 rfl (lv_at hl 4 rfl) ?_
      refine x2g_0 C X (x := nI (rm)) hv0 dX2_brokenRooms_40 ?_
      refine n_icmp_le (tgt := 49) C dX2_brokenRooms_43 (by decide) (by omega) (by omega) (fun c43 => ?_) (fun c43 => ?_)
      · refine lv_iload C.hx C.hb dX2_brokenRooms_49 (lv_at hl 0 rfl) ?_
        refine lv_istore_n (lv' := [(2, .int (nI ((sm S 0 j) + (S.getD j 0)))), (4, .int (nI ((sm S 0 j) + (S.getD j 0)))), (3, .int (nI (j))), (1, .int (nI (0))), (0, .ref (z 0))]) C.hx C.hb dX2_brokenRooms_51 rfl hl (by decide) rfl (fun ls hl => ?_)
        refine lv_iinc (v := nI (j + 1)) (lv' := [(3, .int (nI (j + 1))), (2, .int (nI ((sm S 0 j) + (S.getD j 0)))), (4, .int (nI ((sm S 0 j) + (S.getD j 0)))), (1, .int (nI (0))), (0, .ref (z 0))]) C.hx C.hb dX2_brokenRooms_52 hl (k := 2) rfl (nI_1 _) (by decide) rfl (fun ls hl => ?_)
        refine lv_goto (tgt := 6) C.hx C.hb dX2_brokenRooms_55 (by decide) ?_
        exact ih (j + 1) (by omega) trivial (by omega) ls (by rw [sm0_s (by omega)]; exact lv_sub hl [0, 1, 3, 4] rfl)
      · exact absurd (hro j (by omega)) (Nat.not_le.mpr c43)
set_option maxHeartbeats 4000000 in
set_option maxRecDepth 100000 in
/-- no room is broken -/
theorem c2_brokenRooms {l : Launch} {E : Gq} {z : Nat → Nat} {v : Nat → Int32} {kd : Nat} {K : List Int64} {L N S P : List Nat} {rm : Nat} (hv0 : v 0 = nI rm) (hrm : rm ≤ 1000) (hSs : S.sum ≤ 2 ^ 20) (hLs : L.sum ≤ 2 ^ 20) (hro : ∀ j, j < S.length → lin L S j ≤ rm) : M2r l E yX2_brokenRooms cX2_brokenRooms 5 (some .int) 2 [.ref (z 0)] z v kd K L N S P (fun r => r = some (.int (nI 0))) := by
  intro f hf
  obtain ⟨b1, b2, b3, b4, b5⟩ := hf.lens
  refine mk_r (by decide) (Nat.le_of_ble_eq_true rfl) ?_
  intro p e s m below meth c ls C Wd hl
  have X : X2w E _ z v kd K L N S P s s.heap [] := ⟨f, Wd, hf⟩
  have hl : lv_has ls 5 [(0, .ref (z 0))] := hl
  refine lv_iconst (v := nI (0)) C.hx C.hb dX2_brokenRooms_0 (by decide) ?_
  refine lv_istore_n (lv' := [(1, .int (nI (0))), (0, .ref (z 0))]) C.hx C.hb dX2_brokenRooms_1 rfl hl (by decide) rfl (fun ls hl => ?_)
  refine lv_iconst (v := nI (0)) C.hx C.hb dX2_brokenRooms_2 (by decide) ?_
  refine lv_istore_n (lv' := [(2, .int (nI (0))), (1, .int (nI (0))), (0, .ref (z 0))]) C.hx C.hb dX2_brokenRooms_3 rfl hl (by decide) rfl (fun ls hl => ?_)
  refine lv_iconst (v := nI (0)) C.hx C.hb dX2_brokenRooms_4 (by decide) ?_
  refine lv_istore_n (lv' := [(3, .int (nI (0))), (2, .int (nI (0))), (1, .int (nI (0))), (0, .ref (z 0))]) C.hx C.hb dX2_brokenRooms_5 rfl hl (by decide) rfl (fun ls hl => ?_)
  exact l2_br C X b1 b4 b5 hv0 hrm hSs hLs hro _ 0 rfl trivial (by omega) ls (lv_sub hl [0, 1, 2, 3] rfl)
set_option maxHeartbeats 4000000 in
set_option maxRecDepth 100000 in
theorem l2_bw {p : Program} {l : Launch} {e : Env} {s : State} {m : MethodId} {args : Array Value} {below : List Frame} {meth : Method} {c : Code} {E : Gq} {A : Nat → Prop} {z : Nat → Nat} {v : Nat → Int32} {kd : Nat} {K : List Int64} {L N S P : List Nat} (C : Cx E p s m args meth c cX2_brokenWidths 3 (some .int) RX2 A) (X : X2w E A z v kd K L N S P s s.heap []) (b1 : K.length ≤ 600) (b4 : S.length ≤ 601) (b5 : P.length ≤ 601) {wd : Nat} (hw : v 1 = nI wd) (hwd : wd ≤ 20) (hwi : ∀ j, j < P.length → P.getD j 0 ≤ wd) : ∀ (n j : Nat), P.length - j = n → True → j ≤ P.length + 1 → ∀ ls : Array Slot, lv_has ls 3 [(2, .int (nI (j))), (1, .int (nI (0))), (0, .ref (z 0))] → W p l e (Rm 2 0 0) s m args below meth c s.heap [] 0 0 (MQ below (Qr (fun r => r = some (.int (nI 0)))) args s 0 0 (fun _ => False)) (F0 m 4 ls []) := by
  intro n
  induction n with
  | zero =>
    intro j hn h1 hj ls hl
    refine lv_iload_n C.hx C.hb dX2_brokenWidths_4 rfl (lv_at hl 0 rfl) ?_
    refine lv_aload_n C.hx C.hb dX2_brokenWidths_5 rfl (lv_at hl 2 rfl) ?_
    refine x2g_8 C X dX2_brokenWidths_6 ?_
    refine x2s_5 C X dX2_brokenWidths_9 ?_
    refine n_icmp_ge (tgt := 39) C dX2_brokenWidths_12 (by decide) (by omega) (by omega) (fun c12 => ?_) (fun c12 => ?_)
    · refine lv_iload_n C.hx C.hb dX2_brokenWidths_39 rfl (lv_at hl 1 rfl) ?_
      exact ret_ir C (rfl) dX2_brokenWidths_40
    · omega
  | succ n ih =>
    intro j hn h1 hj ls hl
    have q1 := hwi j (by omega)
    refine lv_iload_n C.hx C.hb dX2_brokenWidths_4 rfl (lv_at hl 0 rfl) ?_
    refine lv_aload_n C.hx C.hb dX2_brokenWidths_5 rfl (lv_at hl 2 rfl) ?_
    refine x2g_8 C X dX2_brokenWidths_6 ?_
    refine x2s_5 C X dX2_brokenWidths_9 ?_
    refine n_icmp_ge (tgt := 39) C dX2_brokenWidths_12 (by decide) (by omega) (by omega) (fun c12 => ?_) (fun c12 => ?_)
    · omega
    · refine lv_aload_n C.hx C.hb dX2_brokenWidths_15 rfl (lv_at hl 2 rfl) ?_
      refine x2g_8 C X dX2_brokenWidths_16 ?_
      refine lv_iload_n C.hx C.hb dX2_brokenWidths_19 rfl (lv_at hl 0 rfl) ?_
      refine x2_intAt_5 C X (by omega) ⟨by decide, by decide⟩ hl.1 (Nat.le_of_ble_eq_true rfl) ⟨Nat.le_refl _, Nat.le_refl _⟩ dX2_brokenWidths_20 ?_
      refine lv_aload_n C.hx C.hb dX2_brokenWidths_23 rfl (lv_at hl 2 rfl) ?_
      refine x2g_1 C X (x := nI (wd)) hw dX2_brokenWidths_24 ?_
      refine n_icmp_le (tgt := 33) C dX2_brokenWidths_27 (by decide) (by omega) (by omega) (fun c27 => ?_) (fun c27 => ?_)
      · refine lv_iinc (v := nI (j + 1)) (lv' := [(2, .int (nI (j + 1))), (1, .int (nI (0))), (0, .ref (z 0))]) C.hx C.hb dX2_brokenWidths_33 hl (k := 0) rfl (nI_1 _) (by decide) rfl (fun ls hl => ?_)
        refine lv_goto (tgt := 4) C.hx C.hb dX2_brokenWidths_36 (by decide) ?_
        exact ih (j + 1) (by omega) trivial (by omega) ls (lv_sub hl [0, 1, 2] rfl)
      · exact absurd (hwi j (by omega)) (Nat.not_le.mpr c27)
set_option maxHeartbeats 4000000 in
set_option maxRecDepth 100000 in
/-- no width is broken -/
theorem c2_brokenWidths {l : Launch} {E : Gq} {z : Nat → Nat} {v : Nat → Int32} {kd : Nat} {K : List Int64} {L N S P : List Nat} {wd : Nat} (hw : v 1 = nI wd) (hwd : wd ≤ 20) (hwi : ∀ j, j < P.length → P.getD j 0 ≤ wd) : M2r l E yX2_brokenWidths cX2_brokenWidths 3 (some .int) 2 [.ref (z 0)] z v kd K L N S P (fun r => r = some (.int (nI 0))) := by
  intro f hf
  obtain ⟨b1, b2, b3, b4, b5⟩ := hf.lens
  refine mk_r (by decide) (Nat.le_of_ble_eq_true rfl) ?_
  intro p e s m below meth c ls C Wd hl
  have X : X2w E _ z v kd K L N S P s s.heap [] := ⟨f, Wd, hf⟩
  have hl : lv_has ls 3 [(0, .ref (z 0))] := hl
  refine lv_iconst (v := nI (0)) C.hx C.hb dX2_brokenWidths_0 (by decide) ?_
  refine lv_istore_n (lv' := [(1, .int (nI (0))), (0, .ref (z 0))]) C.hx C.hb dX2_brokenWidths_1 rfl hl (by decide) rfl (fun ls hl => ?_)
  refine lv_iconst (v := nI (0)) C.hx C.hb dX2_brokenWidths_2 (by decide) ?_
  refine lv_istore_n (lv' := [(2, .int (nI (0))), (1, .int (nI (0))), (0, .ref (z 0))]) C.hx C.hb dX2_brokenWidths_3 rfl hl (by decide) rfl (fun ls hl => ?_)
  exact l2_bw C X b1 b4 b5 hw hwd hwi _ 0 rfl trivial (by omega) ls (lv_sub hl [0, 1, 2] rfl)
set_option maxHeartbeats 4000000 in
set_option maxRecDepth 100000 in
/-- verify -/
theorem c2_verify {l : Launch} {E : Gq} {z : Nat → Nat} {v : Nat → Int32} {kd : Nat} {K : List Int64} {L N S P : List Nat} {rm wd : Nat} (hv0 : v 0 = nI rm) (hrm : rm ≤ 1000) (hSs : S.sum ≤ 2 ^ 20) (hLs : L.sum ≤ 2 ^ 20) (hro : ∀ j, j < S.length → lin L S j ≤ rm) (hw : v 1 = nI wd) (hwd : wd ≤ 20) (hwi : ∀ j, j < P.length → P.getD j 0 ≤ wd) (hso : ∀ j, 1 ≤ j → j < K.length → K.getD (j - 1) 0 < K.getD j 0) : M2r l E yX2_verify cX2_verify 1 (some .int) 3 [.ref (z 0)] z v kd K L N S P (fun r => r = some (.int (nI 0))) := by
  intro f hf
  obtain ⟨b1, b2, b3, b4, b5⟩ := hf.lens
  refine mk_r (by decide) (Nat.le_of_ble_eq_true rfl) ?_
  intro p e s m below meth c ls C Wd hl
  have X : X2w E _ z v kd K L N S P s s.heap [] := ⟨f, Wd, hf⟩
  have hl : lv_has ls 1 [(0, .ref (z 0))] := hl
  refine lv_aload_n C.hx C.hb dX2_verify_0 rfl (lv_at hl 0 rfl) ?_
  refine x2_cr (As := []) (rest := []) C X (c2_brokenOrders hso) wy_X2_brokenOrders ts_24 tw_246 rfl ⟨by decide, by decide⟩ rfl hl.1 rfl (Nat.le_of_ble_eq_true rfl) ⟨Nat.le_refl _, Nat.le_refl _⟩ dX2_verify_1 (fun r hp => ?_)
  subst hp
  refine W.eq (g2 := F0 m 4 ls [.int (nI (0))]) rfl ?_
  refine lv_aload_n C.hx C.hb dX2_verify_4 rfl (lv_at hl 0 rfl) ?_
  refine x2_cr (As := []) (rest := [.int (nI (0))]) C X (c2_brokenRooms hv0 hrm hSs hLs hro) wy_X2_brokenRooms ts_25 tw_250 rfl ⟨by decide, by decide⟩ rfl hl.1 rfl (Nat.le_of_ble_eq_true rfl) ⟨Nat.le_refl _, Nat.le_refl _⟩ dX2_verify_5 (fun r hp => ?_)
  subst hp
  refine W.eq (g2 := F0 m 8 ls [.int (nI (0)), .int (nI (0))]) rfl ?_
  refine n_add C dX2_verify_8 ?_
  refine lv_aload_n C.hx C.hb dX2_verify_9 rfl (lv_at hl 0 rfl) ?_
  refine x2_cr (As := []) (rest := [.int (nI (0 + 0))]) C X (c2_brokenWidths hw hwd hwi) wy_X2_brokenWidths ts_26 tw_254 rfl ⟨by decide, by decide⟩ rfl hl.1 rfl (Nat.le_of_ble_eq_true rfl) ⟨Nat.le_refl _, Nat.le_refl _⟩ dX2_verify_10 (fun r hp => ?_)
  subst hp
  refine W.eq (g2 := F0 m 13 ls [.int (nI (0)), .int (nI (0 + 0))]) rfl ?_
  refine n_add C dX2_verify_13 ?_
  exact ret_ir C (rfl) dX2_verify_14
/-- laying all records anew: how many are held, the next number, and the rows so far -/
def rgl (L : List Nat) (lr lw : Nat) : Nat → Nat → Nat → Nat → Nat → List Nat → List Nat → List Nat → Nat × Nat × List Nat × List Nat × List Nat
  | 0, _, held, _, nx, N, S, P => (held, nx, N, S, P)
  | n + 1, i, held, tog, nx, N, S, P =>
    if 0 < held ∧ lr < tog + L.getD i 0 then rgl L lr lw n (i + 1) (0 + 1) (0 + L.getD i 0) (nx + 1) (ins N N.length nx) (ins S S.length held) (lay P lw)
    else rgl L lr lw n (i + 1) (held + 1) (tog + L.getD i 0) nx N S P
theorem lay_b (P : List Nat) (lw : Nat) : (lay P lw).length ≤ P.length + 1 ∧ (lay P lw).sum = P.sum + 1 := by
  unfold lay
  split
  · rename_i h
    have q := set_sum (L := P) (j := P.length - 1) (x := P.getD (P.length - 1) 0 + 1) (by omega)
    rw [List.length_set]
    exact ⟨by omega, by omega⟩
  · rw [ins_len (Nat.le_refl _), ins_sum]
    exact ⟨Nat.le_refl _, rfl⟩
set_option maxHeartbeats 4000000 in
set_option maxRecDepth 100000 in
/-- reorganise: closed -/
theorem c2_reorganise_c {l : Launch} {E : Gq} {z : Nat → Nat} {v : Nat → Int32} {kd : Nat} {K : List Int64} {L N S P : List Nat} (hv11 : v 11 = nI 1) : M2w l E yX2_reorganise cX2_reorganise 5 (some .int) 3 [.ref (z 0)] z v kd K L N S P (fun r v' kd' K' L' N' S' P' => some (.int (-5)) = r ∧ v = v' ∧ kd = kd' ∧ K = K' ∧ L = L' ∧ N = N' ∧ S = S' ∧ P = P') := by
  intro f hf
  obtain ⟨b1, b2, b3, b4, b5⟩ := hf.lens
  refine mk_w (by decide) (Nat.le_of_ble_eq_true rfl) ?_
  intro p e s m below meth c ls C Wd hl
  have X : X2w E _ z v kd K L N S P s s.heap [] := ⟨f, Wd, hf⟩
  have hl : lv_has ls 5 [(0, .ref (z 0))] := hl
  refine lv_aload_n C.hx C.hb dX2_reorganise_0 rfl (lv_at hl 0 rfl) ?_
  refine x2g_11 C X (x := nI (1)) hv11 dX2_reorganise_1 ?_
  refine n_if_eq (tgt := 10) C dX2_reorganise_4 (by decide) (by decide) (fun h => absurd h (by decide)) (fun _ => ?_)
  refine lv_bipush (v := (-5)) C.hx C.hb dX2_reorganise_7 (by decide) ?_
  exact ret2_i C X (⟨rfl, rfl, rfl, rfl, rfl, rfl, rfl, rfl⟩) dX2_reorganise_9
set_option maxHeartbeats 4000000 in
set_option maxRecDepth 100000 in
theorem l2_reorg {p : Program} {l : Launch} {e : Env} {s : State} {m : MethodId} {args : Array Value} {below : List Frame} {meth : Method} {c : Code} {E : Gq} {ws0 : va_W} {z : Nat → Nat} {v0 : Nat → Int32} {kd : Nat} {K : List Int64} {L : List Nat} {lr lw : Nat} {T0 : Nat × Nat × List Nat × List Nat × List Nat} (C : Cx E p s m args meth c cX2_reorganise 5 (some .int) RX2 (va_A ws0 s.heap.size)) (hlr : lr ≤ 2 ^ 20) (hlw : lw ≤ 2 ^ 20) (hv2 : v0 2 = nI lr) (hv3 : v0 3 = nI lw) (hLl : L.length ≤ 600) (hLs : L.sum ≤ 2 ^ 20) :
    ∀ (n i held tog nx : Nat) (N S P : List Nat) (H : Heap) (locs : List Loc), i + n = L.length → held ≤ i → tog ≤ (L.take i).sum → nx + n < 2 ^ 30 → N.length ≤ i → S.length ≤ i → P.length ≤ i → P.sum ≤ i → rgl L lr lw n i held tog nx N S P = T0 → X2w E (va_A ws0 s.heap.size) z (upd v0 9 (nI nx)) kd K L N S P s H locs →
      ∀ ls : Array Slot, lv_has ls 5 [(3, .int (nI i)), (2, .int (nI tog)), (1, .int (nI held)), (0, .ref (z 0))] → W p l e (Rm 3 0 0) s m args below meth c H locs 0 0 (MQ below (Qw E ws0 s.heap.size (P2 E z (fun r v' kd' K' L' N' S' P' => ∃ (h nx1 : Nat) (N1 S1 P1 : List Nat), T0 = (h, nx1, N1, S1, P1) ∧ some (.int (nI (ins S1 S1.length h).length)) = r ∧ upd v0 9 (nI (nx1 + 1)) = v' ∧ kd = kd' ∧ K = K' ∧ L = L' ∧ ins N1 N1.length nx1 = N' ∧ ins S1 S1.length h = S' ∧ lay P1 lw = P'))) args s 0 0 (va_A ws0 s.heap.size)) (F0 m 40 ls []) := by
  intro n
  induction n with
  | zero =>
    intro i held tog nx N S P H locs hi hh ht hnx n1 n2 n3 n4 hT X ls hl
    refine lv_iload_n C.hx C.hb dX2_reorganise_40 rfl (lv_at hl 0 rfl) ?_
    refine lv_aload_n C.hx C.hb dX2_reorganise_41 rfl (lv_at hl 3 rfl) ?_
    refine x2g_5 C X dX2_reorganise_42 ?_
    refine x2s_2 C X dX2_reorganise_45 ?_
    refine n_icmp_ge (tgt := 99) C dX2_reorganise_48 (by decide) (by omega) (by omega) (fun c48 => ?_) (fun c48 => ?_)
    · refine lv_aload_n C.hx C.hb dX2_reorganise_99 rfl (lv_at hl 3 rfl) ?_
      refine lv_iload_n C.hx C.hb dX2_reorganise_100 rfl (lv_at hl 2 rfl) ?_
      refine x2_cw (As := [.int (nI (held))]) (rest := []) C X (c2_layInterval (nx := nx) (lw := lw) (sz := held) rfl hv3 (by omega) (by omega) (by omega) (by omega) (by omega) (by omega) (by omega)) wy_X2_layInterval ts_0 tw_48 rfl ⟨by decide, by decide⟩ rfl hl.1 rfl (Nat.le_of_ble_eq_true rfl) ⟨Nat.le_refl _, Nat.le_refl _⟩ dX2_reorganise_101 (fun r v' kd' K' L' N' S' P' H locs hp X => ?_)
      obtain ⟨rfl, rfl, rfl, rfl, rfl, rfl, rfl, rfl⟩ := hp
      refine W.eq (g2 := F0 m 104 ls []) rfl ?_
      rw [upd_upd] at X
      refine lv_aload_n C.hx C.hb dX2_reorganise_104 rfl (lv_at hl 3 rfl) ?_
      refine x2g_7 C X dX2_reorganise_105 ?_
      refine x2s_4 C X dX2_reorganise_108 ?_
      exact ret2_i C X (⟨held, nx, N, S, P, hT.symm, rfl, rfl, rfl, rfl, rfl, rfl, rfl, rfl⟩) dX2_reorganise_111
    · omega
  | succ n ih =>
    intro i held tog nx N S P H locs hi hh ht hnx n1 n2 n3 n4 hT X ls hl
    have hg := take_s (L := L) (j := i) (by omega)
    have hg2 := sum_split L (i + 1)
    have e1 := ins_len (L := N) (j := N.length) (x := nx) (Nat.le_refl _)
    have e2 := ins_len (L := S) (j := S.length) (x := held) (Nat.le_refl _)
    obtain ⟨e3, e4⟩ := lay_b P lw
    simp only [rgl] at hT
    refine lv_iload_n C.hx C.hb dX2_reorganise_40 rfl (lv_at hl 0 rfl) ?_
    refine lv_aload_n C.hx C.hb dX2_reorganise_41 rfl (lv_at hl 3 rfl) ?_
    refine x2g_5 C X dX2_reorganise_42 ?_
    refine x2s_2 C X dX2_reorganise_45 ?_
    refine n_icmp_ge (tgt := 99) C dX2_reorganise_48 (by decide) (by omega) (by omega) (fun c48 => ?_) (fun c48 => ?_)
    · omega
    · refine lv_aload_n C.hx C.hb dX2_reorganise_51 rfl (lv_at hl 3 rfl) ?_
      refine x2g_5 C X dX2_reorganise_52 ?_
      refine lv_iload_n C.hx C.hb dX2_reorganise_55 rfl (lv_at hl 0 rfl) ?_
      refine x2_intAt_2 C X (by omega) ⟨by decide, by decide⟩ hl.1 (Nat.le_of_ble_eq_true rfl) ⟨Nat.le_refl _, Nat.le_refl _⟩ dX2_reorganise_56 ?_
      refine lv_istore (lv' := [(4, .int (nI (L.getD i 0))), (3, .int (nI (i))), (2, .int (nI (tog))), (1, .int (nI (held))), (0, .ref (z 0))]) C.hx C.hb dX2_reorganise_59 hl (by decide) rfl (fun ls hl => ?_)
      refine lv_iload_n C.hx C.hb dX2_reorganise_61 rfl (lv_at hl 3 rfl) ?_
      refine n_if_le (tgt := 85) C dX2_reorganise_62 (by decide) (by omega) (fun c62 => ?_) (fun c62 => ?_)
      · refine lv_iinc (v := nI (held + 1)) (lv' := [(1, .int (nI (held + 1))), (4, .int (nI (L.getD i 0))), (3, .int (nI (i))), (2, .int (nI (tog))), (0, .ref (z 0))]) C.hx C.hb dX2_reorganise_85 hl (k := 3) rfl (nI_1 _) (by decide) rfl (fun ls hl => ?_)
        refine lv_iload_n C.hx C.hb dX2_reorganise_88 rfl (lv_at hl 3 rfl) ?_
        refine lv_iload C.hx C.hb dX2_reorganise_89 (lv_at hl 1 rfl) ?_
        refine n_add C dX2_reorganise_91 ?_
        refine lv_istore_n (lv' := [(2, .int (nI (tog + (L.getD i 0)))), (1, .int (nI (held + 1))), (4, .int (nI (L.getD i 0))), (3, .int (nI (i))), (0, .ref (z 0))]) C.hx C.hb dX2_reorganise_92 rfl hl (by decide) rfl (fun ls hl => ?_)
        refine lv_iinc (v := nI (i + 1)) (lv' := [(3, .int (nI (i + 1))), (2, .int (nI (tog + (L.getD i 0)))), (1, .int (nI (held + 1))), (4, .int (nI (L.getD i 0))), (0, .ref (z 0))]) C.hx C.hb dX2_reorganise_93 hl (k := 3) rfl (nI_1 _) (by decide) rfl (fun ls hl => ?_)
        refine lv_goto (tgt := 40) C.hx C.hb dX2_reorganise_96 (by decide) ?_
        exact ih (i + 1) (held + 1) (tog + L.getD i 0) nx N S P H locs (by omega) (by omega) (by omega) (by omega) (by omega) (by omega) (by omega) (by omega) (by rw [if_neg (fun h => by omega)] at hT; exact hT) X ls (lv_sub hl [0, 1, 2, 4] rfl)
      · refine lv_iload_n C.hx C.hb dX2_reorganise_65 rfl (lv_at hl 2 rfl) ?_
        refine lv_iload C.hx C.hb dX2_reorganise_66 (lv_at hl 0 rfl) ?_
        refine n_add C dX2_reorganise_68 ?_
        refine lv_aload_n C.hx C.hb dX2_reorganise_69 rfl (lv_at hl 4 rfl) ?_
        refine x2g_2 C X (x := nI (lr)) hv2 dX2_reorganise_70 ?_
        refine n_icmp_le (tgt := 85) C dX2_reorganise_73 (by decide) (by omega) (by omega) (fun c73 => ?_) (fun c73 => ?_)
        · refine lv_iinc (v := nI (held + 1)) (lv' := [(1, .int (nI (held + 1))), (4, .int (nI (L.getD i 0))), (3, .int (nI (i))), (2, .int (nI (tog))), (0, .ref (z 0))]) C.hx C.hb dX2_reorganise_85 hl (k := 3) rfl (nI_1 _) (by decide) rfl (fun ls hl => ?_)
          refine lv_iload_n C.hx C.hb dX2_reorganise_88 rfl (lv_at hl 3 rfl) ?_
          refine lv_iload C.hx C.hb dX2_reorganise_89 (lv_at hl 1 rfl) ?_
          refine n_add C dX2_reorganise_91 ?_
          refine lv_istore_n (lv' := [(2, .int (nI (tog + (L.getD i 0)))), (1, .int (nI (held + 1))), (4, .int (nI (L.getD i 0))), (3, .int (nI (i))), (0, .ref (z 0))]) C.hx C.hb dX2_reorganise_92 rfl hl (by decide) rfl (fun ls hl => ?_)
          refine lv_iinc (v := nI (i + 1)) (lv' := [(3, .int (nI (i + 1))), (2, .int (nI (tog + (L.getD i 0)))), (1, .int (nI (held + 1))), (4, .int (nI (L.getD i 0))), (0, .ref (z 0))]) C.hx C.hb dX2_reorganise_93 hl (k := 3) rfl (nI_1 _) (by decide) rfl (fun ls hl => ?_)
          refine lv_goto (tgt := 40) C.hx C.hb dX2_reorganise_96 (by decide) ?_
          exact ih (i + 1) (held + 1) (tog + L.getD i 0) nx N S P H locs (by omega) (by omega) (by omega) (by omega) (by omega) (by omega) (by omega) (by omega) (by rw [if_neg (fun h => by omega)] at hT; exact hT) X ls (lv_sub hl [0, 1, 2, 4] rfl)
        · refine lv_aload_n C.hx C.hb dX2_reorganise_76 rfl (lv_at hl 4 rfl) ?_
          refine lv_iload_n C.hx C.hb dX2_reorganise_77 rfl (lv_at hl 3 rfl) ?_
          refine x2_cw (As := [.int (nI (held))]) (rest := []) C X (c2_layInterval (nx := nx) (lw := lw) (sz := held) rfl hv3 (by omega) (by omega) (by omega) (by omega) (by omega) (by omega) (by omega)) wy_X2_layInterval ts_0 tw_48 rfl ⟨by decide, by decide⟩ rfl hl.1 rfl (Nat.le_of_ble_eq_true rfl) ⟨Nat.le_refl _, Nat.le_refl _⟩ dX2_reorganise_78 (fun r v' kd' K' L' N' S' P' H locs hp X => ?_)
          obtain ⟨rfl, rfl, rfl, rfl, rfl, rfl, rfl, rfl⟩ := hp
          refine W.eq (g2 := F0 m 81 ls []) rfl ?_
          rw [upd_upd] at X
          refine lv_iconst (v := nI (0)) C.hx C.hb dX2_reorganise_81 (by decide) ?_
          refine lv_istore_n (lv' := [(1, .int (nI (0))), (4, .int (nI (L.getD i 0))), (3, .int (nI (i))), (2, .int (nI (tog))), (0, .ref (z 0))]) C.hx C.hb dX2_reorganise_82 rfl hl (by decide) rfl (fun ls hl => ?_)
          refine lv_iconst (v := nI (0)) C.hx C.hb dX2_reorganise_83 (by decide) ?_
          refine lv_istore_n (lv' := [(2, .int (nI (0))), (1, .int (nI (0))), (4, .int (nI (L.getD i 0))), (3, .int (nI (i))), (0, .ref (z 0))]) C.hx C.hb dX2_reorganise_84 rfl hl (by decide) rfl (fun ls hl => ?_)
          refine lv_iinc (v := nI (0 + 1)) (lv' := [(1, .int (nI (0 + 1))), (2, .int (nI (0))), (4, .int (nI (L.getD i 0))), (3, .int (nI (i))), (0, .ref (z 0))]) C.hx C.hb dX2_reorganise_85 hl (k := 1) rfl (nI_1 _) (by decide) rfl (fun ls hl => ?_)
          refine lv_iload_n C.hx C.hb dX2_reorganise_88 rfl (lv_at hl 1 rfl) ?_
          refine lv_iload C.hx C.hb dX2_reorganise_89 (lv_at hl 2 rfl) ?_
          refine n_add C dX2_reorganise_91 ?_
          refine lv_istore_n (lv' := [(2, .int (nI (0 + (L.getD i 0)))), (1, .int (nI (0 + 1))), (4, .int (nI (L.getD i 0))), (3, .int (nI (i))), (0, .ref (z 0))]) C.hx C.hb dX2_reorganise_92 rfl hl (by decide) rfl (fun ls hl => ?_)
          refine lv_iinc (v := nI (i + 1)) (lv' := [(3, .int (nI (i + 1))), (2, .int (nI (0 + (L.getD i 0)))), (1, .int (nI (0 + 1))), (4, .int (nI (L.getD i 0))), (0, .ref (z 0))]) C.hx C.hb dX2_reorganise_93 hl (k := 3) rfl (nI_1 _) (by decide) rfl (fun ls hl => ?_)
          refine lv_goto (tgt := 40) C.hx C.hb dX2_reorganise_96 (by decide) ?_
          exact ih (i + 1) (0 + 1) (0 + L.getD i 0) (nx + 1) (ins N N.length nx) (ins S S.length held) (lay P lw) H locs (by omega) (by omega) (by omega) (by omega) (by omega) (by omega) (by omega) (by omega) (by rw [if_pos ⟨c62, c73⟩] at hT; exact hT) X ls (lv_sub hl [0, 1, 2, 4] rfl)
set_option maxHeartbeats 4000000 in
set_option maxRecDepth 100000 in
/-- reorganise -/
theorem c2_reorganise_g {l : Launch} {E : Gq} {z : Nat → Nat} {v : Nat → Int32} {kd : Nat} {K : List Int64} {L N S P : List Nat} {lr lw nx : Nat} (hlr : lr ≤ 2 ^ 20) (hlw : lw ≤ 2 ^ 20) (hv2 : v 2 = nI lr) (hv3 : v 3 = nI lw) (hv9 : v 9 = nI nx) (hv11 : v 11 = nI 0) (hnx : nx + 600 < 2 ^ 30) (hLs : L.sum ≤ 2 ^ 20) : M2w l E yX2_reorganise cX2_reorganise 5 (some .int) 3 [.ref (z 0)] z v kd K L N S P (fun r v' kd' K' L' N' S' P' => ∃ (h nx1 : Nat) (N1 S1 P1 : List Nat), rgl L lr lw L.length 0 0 0 nx [] [] [] = (h, nx1, N1, S1, P1) ∧ some (.int (nI (ins S1 S1.length h).length)) = r ∧ upd v 9 (nI (nx1 + 1)) = v' ∧ kd = kd' ∧ K = K' ∧ L = L' ∧ ins N1 N1.length nx1 = N' ∧ ins S1 S1.length h = S' ∧ lay P1 lw = P') := by
  intro f hf
  obtain ⟨b1, b2, b3, b4, b5⟩ := hf.lens
  refine mk_w (by decide) (Nat.le_of_ble_eq_true rfl) ?_
  intro p e s m below meth c ls C Wd hl
  have X : X2w E _ z v kd K L N S P s s.heap [] := ⟨f, Wd, hf⟩
  have hl : lv_has ls 5 [(0, .ref (z 0))] := hl
  refine lv_aload_n C.hx C.hb dX2_reorganise_0 rfl (lv_at hl 0 rfl) ?_
  refine x2g_11 C X (x := nI (0)) hv11 dX2_reorganise_1 ?_
  refine n_if_eq (tgt := 10) C dX2_reorganise_4 (by decide) (by decide) (fun _ => ?_) (fun h => absurd h (by decide))
  refine lv_aload_n C.hx C.hb dX2_reorganise_10 rfl (lv_at hl 0 rfl) ?_
  refine x2g_6 C X dX2_reorganise_11 ?_
  refine lv_iconst (v := nI (0)) C.hx C.hb dX2_reorganise_14 (by decide) ?_
  refine x2z_3 C X dX2_reorganise_15 (fun H locs X => ?_)
  refine lv_aload_n C.hx C.hb dX2_reorganise_18 rfl (lv_at hl 0 rfl) ?_
  refine x2g_7 C X dX2_reorganise_19 ?_
  refine lv_iconst (v := nI (0)) C.hx C.hb dX2_reorganise_22 (by decide) ?_
  refine x2z_4 C X dX2_reorganise_23 (fun H locs X => ?_)
  refine lv_aload_n C.hx C.hb dX2_reorganise_26 rfl (lv_at hl 0 rfl) ?_
  refine x2g_8 C X dX2_reorganise_27 ?_
  refine lv_iconst (v := nI (0)) C.hx C.hb dX2_reorganise_30 (by decide) ?_
  refine x2z_5 C X dX2_reorganise_31 (fun H locs X => ?_)
  refine lv_iconst (v := nI (0)) C.hx C.hb dX2_reorganise_34 (by decide) ?_
  refine lv_istore_n (lv' := [(1, .int (nI (0))), (0, .ref (z 0))]) C.hx C.hb dX2_reorganise_35 rfl hl (by decide) rfl (fun ls hl => ?_)
  refine lv_iconst (v := nI (0)) C.hx C.hb dX2_reorganise_36 (by decide) ?_
  refine lv_istore_n (lv' := [(2, .int (nI (0))), (1, .int (nI (0))), (0, .ref (z 0))]) C.hx C.hb dX2_reorganise_37 rfl hl (by decide) rfl (fun ls hl => ?_)
  refine lv_iconst (v := nI (0)) C.hx C.hb dX2_reorganise_38 (by decide) ?_
  refine lv_istore_n (lv' := [(3, .int (nI (0))), (2, .int (nI (0))), (1, .int (nI (0))), (0, .ref (z 0))]) C.hx C.hb dX2_reorganise_39 rfl hl (by decide) rfl (fun ls hl => ?_)
  exact l2_reorg (T0 := rgl L lr lw L.length 0 0 0 nx [] [] []) C hlr hlw hv2 hv3 b2 hLs L.length 0 0 0 nx [] [] [] H locs (by omega) (Nat.le_refl _) (Nat.le_refl _) (by omega) (Nat.le_refl _) (Nat.le_refl _) (Nat.le_refl _) (Nat.le_refl _) rfl (by rw [upd_same hv9]; exact X) ls (lv_sub hl [0, 1, 2, 3] rfl)
