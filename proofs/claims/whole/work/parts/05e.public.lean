theorem nI_m1 {a : Nat} (h : a < 2 ^ 31) : nI a ≠ -1 := by
  intro e
  have h1 := nI_toInt h
  rw [e] at h1
  have h2 : (-1 : Int32).toInt = -1 := by decide
  omega
theorem plc_lt {rm wd : Nat} {key : Int64} {len tc : Nat} : ∀ {n nx : Nat} {v : Nat → Int32} {kd : Nat} {K : List Int64} {L N S P : List Nat} {q : Nat} {v' : Nat → Int32} {kd' : Nat} {K' : List Int64} {L' N' S' P' : List Nat}, plc rm wd key len tc n nx v kd K L N S P = (q, v', kd', K', L', N', S', P') → q < 2 := by
  intro n
  induction n with
  | zero => intro nx v kd K L N S P q v' kd' K' L' N' S' P' h; simp only [plc, Prod.mk.injEq] at h; omega
  | succ n ih =>
    intro nx v kd K L N S P q v' kd' K' L' N' S' P' h
    simp only [plc] at h
    split at h
    · simp only [Prod.mk.injEq] at h; omega
    · split at h
      · simp only [Prod.mk.injEq] at h; omega
      · split at h
        · simp only [Prod.mk.injEq] at h; omega
        · split at h
          · exact ih h
          · exact ih h
set_option maxHeartbeats 4000000 in
set_option maxRecDepth 100000 in
/-- a cut split is finished, kind 2 -/
theorem c2_fin2 {l : Launch} {E : Gq} {z : Nat → Nat} {v : Nat → Int32} {K : List Int64} {L N S P : List Nat} {cp wd : Nat} (hw : v 1 = nI wd) (hwd : wd ≤ 20) (hv14 : v 14 = nI cp) (hJ : J2 K L N S P) (hk : K.length < 600) (hc : cp < S.length) (hp : wd / 2 ≤ P.getD (gOf P cp) 0) : M2w l E yX2_finishCutSplit cX2_finishCutSplit 1 none 5 [.ref (z 0)] z v 2 K L N S P (fun r v' kd' K' L' N' S' P' => none = r ∧ upd v 16 (v 16 + nI 1) = v' ∧ 2 = kd' ∧ K = K' ∧ L = L' ∧ N = N' ∧ S = S' ∧ ins (P.set (gOf P cp) (P.getD (gOf P cp) 0 - wd / 2)) (gOf P cp + 1) (wd / 2) = P') := by
  intro f hf
  obtain ⟨b1, b2, b3, b4, b5⟩ := hf.lens
  refine mk_w (by decide) (Nat.le_of_ble_eq_true rfl) ?_
  intro p e s m below meth c ls C Wd hl
  have X : X2w E _ z v 2 K L N S P s s.heap [] := ⟨f, Wd, hf⟩
  have hl : lv_has ls 1 [(0, .ref (z 0))] := hl
  obtain ⟨j1, j2, j3, j4, j5, j6, j7, j8⟩ := id hJ
  obtain ⟨k1, k2, k3, k4⟩ := hJ.b
  have har := gOf_lt (L := P) (m := cp) k2
  refine lv_aload_n C.hx C.hb dX2_finishCutSplit_0 rfl (lv_at hl 0 rfl) ?_
  refine x2g_13 C X dX2_finishCutSplit_1 ?_
  refine x2_kind_2 C X dX2_finishCutSplit_4 ?_
  refine x2_acmp_ne (tgt := 28) C (i := (2)) (j := 2) (by decide) (by decide) dX2_finishCutSplit_7 (by decide) (fun c7 => ?_) (fun c7 => ?_)
  · exact absurd rfl c7
  · refine lv_aload_n C.hx C.hb dX2_finishCutSplit_10 rfl (lv_at hl 0 rfl) ?_
    refine lv_aload_n C.hx C.hb dX2_finishCutSplit_11 rfl (lv_at hl 0 rfl) ?_
    refine x2g_8 C X dX2_finishCutSplit_12 ?_
    refine lv_aload_n C.hx C.hb dX2_finishCutSplit_15 rfl (lv_at hl 0 rfl) ?_
    refine x2g_14 C X (x := nI (cp)) hv14 dX2_finishCutSplit_16 ?_
    refine x2_groupOf_5 C X (by omega) (by omega) ⟨by decide, by decide⟩ hl.1 (Nat.le_of_ble_eq_true rfl) ⟨Nat.le_refl _, Nat.le_refl _⟩ dX2_finishCutSplit_19 ?_
    refine x2_cw (As := [.int (nI (gOf P cp))]) (rest := []) C X (c2_splitArea (a := gOf P cp) (wd := wd) hw hwd (by omega) (by omega) (by omega)) wy_X2_splitArea ts_17 tw_186 rfl ⟨by decide, by decide⟩ rfl hl.1 rfl (Nat.le_of_ble_eq_true rfl) ⟨Nat.le_refl _, Nat.le_refl _⟩ dX2_finishCutSplit_22 (fun r v' kd' K' L' N' S' P' H locs hp X => ?_)
    obtain ⟨rfl, rfl, rfl, rfl, rfl, rfl, rfl, rfl⟩ := hp
    refine W.eq (g2 := F0 m 25 ls []) rfl ?_
    refine lv_goto (tgt := 65) C.hx C.hb dX2_finishCutSplit_25 (by decide) ?_
    exact ret2_v C X (⟨rfl, rfl, rfl, rfl, rfl, rfl, rfl, rfl⟩) dX2_finishCutSplit_65
set_option maxHeartbeats 4000000 in
set_option maxRecDepth 100000 in
/-- a cut split is finished, kind 0 -/
theorem c2_fin0 {l : Launch} {E : Gq} {z : Nat → Nat} {v : Nat → Int32} {K : List Int64} {L N S P : List Nat} {cp nx : Nat} (hv9 : v 9 = nI nx) (hnx : nx < 2 ^ 31) (hnx1 : 1 ≤ nx) (hv14 : v 14 = nI cp) (hJ : J2 K L N S P) (hk : K.length < 600) (hc : cp < S.length) (htwo : 2 ≤ S.getD cp 0) : M2w l E yX2_finishCutSplit cX2_finishCutSplit 1 none 5 [.ref (z 0)] z v 0 K L N S P (fun r v' kd' K' L' N' S' P' => none = r ∧ upd v 15 (v 15 + nI 1) = v' ∧ 0 = kd' ∧ K = K' ∧ L = L' ∧ ins N (cp + 1) (nx - 1) = N' ∧ ins (S.set cp (S.getD cp 0 - (S.getD cp 0 - kbh L S cp))) (cp + 1) (S.getD cp 0 - kbh L S cp) = S' ∧ P.set (gOf P cp) (P.getD (gOf P cp) 0 + 1) = P') := by
  intro f hf
  obtain ⟨b1, b2, b3, b4, b5⟩ := hf.lens
  refine mk_w (by decide) (Nat.le_of_ble_eq_true rfl) ?_
  intro p e s m below meth c ls C Wd hl
  have X : X2w E _ z v 0 K L N S P s s.heap [] := ⟨f, Wd, hf⟩
  have hl : lv_has ls 1 [(0, .ref (z 0))] := hl
  obtain ⟨j1, j2, j3, j4, j5, j6, j7, j8⟩ := id hJ
  obtain ⟨k1, k2, k3, k4⟩ := hJ.b
  refine lv_aload_n C.hx C.hb dX2_finishCutSplit_0 rfl (lv_at hl 0 rfl) ?_
  refine x2g_13 C X dX2_finishCutSplit_1 ?_
  refine x2_kind_2 C X dX2_finishCutSplit_4 ?_
  refine x2_acmp_ne (tgt := 28) C (i := (0)) (j := 2) (by decide) (by decide) dX2_finishCutSplit_7 (by decide) (fun c7 => ?_) (fun c7 => ?_)
  · refine lv_aload_n C.hx C.hb dX2_finishCutSplit_28 rfl (lv_at hl 0 rfl) ?_
    refine x2g_13 C X dX2_finishCutSplit_29 ?_
    refine x2_kind_0 C X dX2_finishCutSplit_32 ?_
    refine x2_acmp_ne (tgt := 55) C (i := (0)) (j := 0) (by decide) (by decide) dX2_finishCutSplit_35 (by decide) (fun c35 => ?_) (fun c35 => ?_)
    · exact absurd rfl c35
    · refine lv_aload_n C.hx C.hb dX2_finishCutSplit_38 rfl (lv_at hl 0 rfl) ?_
      refine lv_aload_n C.hx C.hb dX2_finishCutSplit_39 rfl (lv_at hl 0 rfl) ?_
      refine x2g_14 C X (x := nI (cp)) hv14 dX2_finishCutSplit_40 ?_
      refine lv_aload_n C.hx C.hb dX2_finishCutSplit_43 rfl (lv_at hl 0 rfl) ?_
      refine x2g_9 C X (x := nI (nx)) hv9 dX2_finishCutSplit_44 ?_
      refine lv_iconst (v := nI (1)) C.hx C.hb dX2_finishCutSplit_47 (by decide) ?_
      refine n_sub C dX2_finishCutSplit_48 (by omega) ?_
      refine x2_cw (As := [.int (nI (cp)), .int (nI (nx - 1))]) (rest := []) C X (c2_halveInterval (i := cp) (num := (nx - 1)) (by omega) (by omega) (by omega) (by omega) (by omega) (by omega) (by omega) (by omega) (by omega)) wy_X2_halveInterval ts_18 tw_190 rfl ⟨by decide, by decide⟩ rfl hl.1 rfl (Nat.le_of_ble_eq_true rfl) ⟨Nat.le_refl _, Nat.le_refl _⟩ dX2_finishCutSplit_49 (fun r v' kd' K' L' N' S' P' H locs hp X => ?_)
      obtain ⟨rfl, rfl, rfl, rfl, rfl, rfl, rfl, rfl⟩ := hp
      refine W.eq (g2 := F0 m 52 ls []) rfl ?_
      refine lv_goto (tgt := 65) C.hx C.hb dX2_finishCutSplit_52 (by decide) ?_
      exact ret2_v C X (⟨rfl, rfl, rfl, rfl, rfl, rfl, rfl, rfl⟩) dX2_finishCutSplit_65
  · exact absurd c7 (by decide)
set_option maxHeartbeats 4000000 in
set_option maxRecDepth 100000 in
/-- a cut split is finished, kind 1 -/
theorem c2_fin1 {l : Launch} {E : Gq} {z : Nat → Nat} {v : Nat → Int32} {K : List Int64} {L N S P : List Nat}  : M2w l E yX2_finishCutSplit cX2_finishCutSplit 1 none 5 [.ref (z 0)] z v 1 K L N S P (fun r v' kd' K' L' N' S' P' => none = r ∧ upd v 15 (v 15 + nI 1) = v' ∧ 1 = kd' ∧ K = K' ∧ L = L' ∧ N = N' ∧ S = S' ∧ P = P') := by
  intro f hf
  obtain ⟨b1, b2, b3, b4, b5⟩ := hf.lens
  refine mk_w (by decide) (Nat.le_of_ble_eq_true rfl) ?_
  intro p e s m below meth c ls C Wd hl
  have X : X2w E _ z v 1 K L N S P s s.heap [] := ⟨f, Wd, hf⟩
  have hl : lv_has ls 1 [(0, .ref (z 0))] := hl
  refine lv_aload_n C.hx C.hb dX2_finishCutSplit_0 rfl (lv_at hl 0 rfl) ?_
  refine x2g_13 C X dX2_finishCutSplit_1 ?_
  refine x2_kind_2 C X dX2_finishCutSplit_4 ?_
  refine x2_acmp_ne (tgt := 28) C (i := (1)) (j := 2) (by decide) (by decide) dX2_finishCutSplit_7 (by decide) (fun c7 => ?_) (fun c7 => ?_)
  · refine lv_aload_n C.hx C.hb dX2_finishCutSplit_28 rfl (lv_at hl 0 rfl) ?_
    refine x2g_13 C X dX2_finishCutSplit_29 ?_
    refine x2_kind_0 C X dX2_finishCutSplit_32 ?_
    refine x2_acmp_ne (tgt := 55) C (i := (1)) (j := 0) (by decide) (by decide) dX2_finishCutSplit_35 (by decide) (fun c35 => ?_) (fun c35 => ?_)
    · refine lv_aload_n C.hx C.hb dX2_finishCutSplit_55 rfl (lv_at hl 0 rfl) ?_
      refine lv_dup C.hx C.hb dX2_finishCutSplit_56 rfl ?_
      refine x2g_15 C X (x := v 15) rfl dX2_finishCutSplit_57 ?_
      refine lv_iconst (v := nI (1)) C.hx C.hb dX2_finishCutSplit_60 (by decide) ?_
      refine lv_iadd C.hx C.hb dX2_finishCutSplit_61 ?_
      refine x2p_15 C X dX2_finishCutSplit_62 (fun H locs X => ?_)
      exact ret2_v C X (⟨rfl, rfl, rfl, rfl, rfl, rfl, rfl, rfl⟩) dX2_finishCutSplit_65
    · exact absurd c35 (by decide)
  · exact absurd c7 (by decide)
set_option maxHeartbeats 4000000 in
set_option maxRecDepth 100000 in
/-- open: it was not closed -/
theorem c2_open_n {l : Launch} {E : Gq} {z : Nat → Nat} {v : Nat → Int32} {kd : Nat} {K : List Int64} {L N S P : List Nat} (hv11 : v 11 = nI 0) : M2w l E yX2_open cX2_open 1 (some .int) 6 [.ref (z 0)] z v kd K L N S P (fun r v' kd' K' L' N' S' P' => some (.int (nI 0)) = r ∧ v = v' ∧ kd = kd' ∧ K = K' ∧ L = L' ∧ N = N' ∧ S = S' ∧ P = P') := by
  intro f hf
  obtain ⟨b1, b2, b3, b4, b5⟩ := hf.lens
  refine mk_w (by decide) (Nat.le_of_ble_eq_true rfl) ?_
  intro p e s m below meth c ls C Wd hl
  have X : X2w E _ z v kd K L N S P s s.heap [] := ⟨f, Wd, hf⟩
  have hl : lv_has ls 1 [(0, .ref (z 0))] := hl
  refine lv_aload_n C.hx C.hb dX2_open_0 rfl (lv_at hl 0 rfl) ?_
  refine x2g_11 C X (x := nI (0)) hv11 dX2_open_1 ?_
  refine n_if_ne (tgt := 9) C dX2_open_4 (by decide) (by decide) (fun h => absurd h (by decide)) (fun _ => ?_)
  refine lv_iconst (v := nI (0)) C.hx C.hb dX2_open_7 (by decide) ?_
  exact ret2_i C X (⟨rfl, rfl, rfl, rfl, rfl, rfl, rfl, rfl⟩) dX2_open_8
set_option maxHeartbeats 4000000 in
set_option maxRecDepth 100000 in
/-- open: undone -/
theorem c2_open_u {l : Launch} {E : Gq} {z : Nat → Nat} {v : Nat → Int32} {kd : Nat} {K : List Int64} {L N S P : List Nat} (hv11 : v 11 = nI 1) (hv12 : v 12 = nI 0) : M2w l E yX2_open cX2_open 1 (some .int) 6 [.ref (z 0)] z v kd K L N S P (fun r v' kd' K' L' N' S' P' => some (.int (nI 1)) = r ∧ upd (upd v 11 (nI 0)) 17 (v 17 + nI 1) = v' ∧ kd = kd' ∧ K = K' ∧ L = L' ∧ N = N' ∧ S = S' ∧ P = P') := by
  intro f hf
  obtain ⟨b1, b2, b3, b4, b5⟩ := hf.lens
  refine mk_w (by decide) (Nat.le_of_ble_eq_true rfl) ?_
  intro p e s m below meth c ls C Wd hl
  have X : X2w E _ z v kd K L N S P s s.heap [] := ⟨f, Wd, hf⟩
  have hl : lv_has ls 1 [(0, .ref (z 0))] := hl
  refine lv_aload_n C.hx C.hb dX2_open_0 rfl (lv_at hl 0 rfl) ?_
  refine x2g_11 C X (x := nI (1)) hv11 dX2_open_1 ?_
  refine n_if_ne (tgt := 9) C dX2_open_4 (by decide) (by decide) (fun _ => ?_) (fun h => absurd h (by decide))
  refine lv_aload_n C.hx C.hb dX2_open_9 rfl (lv_at hl 0 rfl) ?_
  refine lv_iconst (v := nI (0)) C.hx C.hb dX2_open_10 (by decide) ?_
  refine x2p_11 C X (by decide) (by decide) dX2_open_11 (fun H locs X => ?_)
  refine lv_aload_n C.hx C.hb dX2_open_14 rfl (lv_at hl 0 rfl) ?_
  refine x2g_12 C X (x := nI (0)) hv12 dX2_open_15 ?_
  refine n_if_ne (tgt := 33) C dX2_open_18 (by decide) (by decide) (fun h => absurd h (by decide)) (fun _ => ?_)
  refine lv_aload_n C.hx C.hb dX2_open_21 rfl (lv_at hl 0 rfl) ?_
  refine lv_dup C.hx C.hb dX2_open_22 rfl ?_
  refine x2g_17 C X (x := (upd v 11 (nI (0))) 17) rfl dX2_open_23 ?_
  refine lv_iconst (v := nI (1)) C.hx C.hb dX2_open_26 (by decide) ?_
  refine lv_iadd C.hx C.hb dX2_open_27 ?_
  refine x2p_17 C X dX2_open_28 (fun H locs X => ?_)
  refine lv_iconst (v := nI (1)) C.hx C.hb dX2_open_31 (by decide) ?_
  exact ret2_i C X (⟨rfl, rfl, rfl, rfl, rfl, rfl, rfl, rfl⟩) dX2_open_32
set_option maxHeartbeats 4000000 in
set_option maxRecDepth 100000 in
/-- open: finished, kind 2 -/
theorem c2_open_2 {l : Launch} {E : Gq} {z : Nat → Nat} {v : Nat → Int32} {K : List Int64} {L N S P : List Nat} (hv11 : v 11 = nI 1) (hv12 : v 12 = nI 1) {cp wd : Nat} (hw : v 1 = nI wd) (hwd : wd ≤ 20) (hv14 : v 14 = nI cp) (hJ : J2 K L N S P) (hk : K.length < 600) (hc : cp < S.length) (hp : wd / 2 ≤ P.getD (gOf P cp) 0) : M2w l E yX2_open cX2_open 1 (some .int) 6 [.ref (z 0)] z v 2 K L N S P (fun r v' kd' K' L' N' S' P' => some (.int (nI 2)) = r ∧ upd (upd (upd v 11 (nI 0)) 16 (v 16 + nI 1)) 18 (v 18 + nI 1) = v' ∧ 2 = kd' ∧ K = K' ∧ L = L' ∧ N = N' ∧ S = S' ∧ ins (P.set (gOf P cp) (P.getD (gOf P cp) 0 - wd / 2)) (gOf P cp + 1) (wd / 2) = P') := by
  intro f hf
  obtain ⟨b1, b2, b3, b4, b5⟩ := hf.lens
  refine mk_w (by decide) (Nat.le_of_ble_eq_true rfl) ?_
  intro p e s m below meth c ls C Wd hl
  have X : X2w E _ z v 2 K L N S P s s.heap [] := ⟨f, Wd, hf⟩
  have hl : lv_has ls 1 [(0, .ref (z 0))] := hl
  refine lv_aload_n C.hx C.hb dX2_open_0 rfl (lv_at hl 0 rfl) ?_
  refine x2g_11 C X (x := nI (1)) hv11 dX2_open_1 ?_
  refine n_if_ne (tgt := 9) C dX2_open_4 (by decide) (by decide) (fun _ => ?_) (fun h => absurd h (by decide))
  refine lv_aload_n C.hx C.hb dX2_open_9 rfl (lv_at hl 0 rfl) ?_
  refine lv_iconst (v := nI (0)) C.hx C.hb dX2_open_10 (by decide) ?_
  refine x2p_11 C X (by decide) (by decide) dX2_open_11 (fun H locs X => ?_)
  refine lv_aload_n C.hx C.hb dX2_open_14 rfl (lv_at hl 0 rfl) ?_
  refine x2g_12 C X (x := nI (1)) hv12 dX2_open_15 ?_
  refine n_if_ne (tgt := 33) C dX2_open_18 (by decide) (by decide) (fun _ => ?_) (fun h => absurd h (by decide))
  refine lv_aload_n C.hx C.hb dX2_open_33 rfl (lv_at hl 0 rfl) ?_
  refine x2_cw (As := []) (rest := []) C X (c2_fin2 (cp := cp) (wd := wd) hw hwd hv14 hJ hk hc hp) wy_X2_finishCutSplit ts_23 tw_234 rfl ⟨by decide, by decide⟩ rfl hl.1 rfl (Nat.le_of_ble_eq_true rfl) ⟨Nat.le_refl _, Nat.le_refl _⟩ dX2_open_34 (fun r v' kd' K' L' N' S' P' H locs hp X => ?_)
  obtain ⟨rfl, rfl, rfl, rfl, rfl, rfl, rfl, rfl⟩ := hp
  refine W.eq (g2 := F0 m 37 ls []) rfl ?_
  refine lv_aload_n C.hx C.hb dX2_open_37 rfl (lv_at hl 0 rfl) ?_
  refine lv_dup C.hx C.hb dX2_open_38 rfl ?_
  refine x2g_18 C X (x := (upd (upd v 11 (nI (0))) 16 ((upd v 11 (nI (0))) 16 + nI 1)) 18) rfl dX2_open_39 ?_
  refine lv_iconst (v := nI (1)) C.hx C.hb dX2_open_42 (by decide) ?_
  refine lv_iadd C.hx C.hb dX2_open_43 ?_
  refine x2p_18 C X dX2_open_44 (fun H locs X => ?_)
  refine lv_iconst (v := nI (2)) C.hx C.hb dX2_open_47 (by decide) ?_
  exact ret2_i C X (⟨rfl, rfl, rfl, rfl, rfl, rfl, rfl, rfl⟩) dX2_open_48
set_option maxHeartbeats 4000000 in
set_option maxRecDepth 100000 in
/-- open: finished, kind 0 -/
theorem c2_open_0 {l : Launch} {E : Gq} {z : Nat → Nat} {v : Nat → Int32} {K : List Int64} {L N S P : List Nat} (hv11 : v 11 = nI 1) (hv12 : v 12 = nI 1) {cp nx : Nat} (hv9 : v 9 = nI nx) (hnx : nx < 2 ^ 31) (hnx1 : 1 ≤ nx) (hv14 : v 14 = nI cp) (hJ : J2 K L N S P) (hk : K.length < 600) (hc : cp < S.length) (htwo : 2 ≤ S.getD cp 0) : M2w l E yX2_open cX2_open 1 (some .int) 6 [.ref (z 0)] z v 0 K L N S P (fun r v' kd' K' L' N' S' P' => some (.int (nI 2)) = r ∧ upd (upd (upd v 11 (nI 0)) 15 (v 15 + nI 1)) 18 (v 18 + nI 1) = v' ∧ 0 = kd' ∧ K = K' ∧ L = L' ∧ ins N (cp + 1) (nx - 1) = N' ∧ ins (S.set cp (S.getD cp 0 - (S.getD cp 0 - kbh L S cp))) (cp + 1) (S.getD cp 0 - kbh L S cp) = S' ∧ P.set (gOf P cp) (P.getD (gOf P cp) 0 + 1) = P') := by
  intro f hf
  obtain ⟨b1, b2, b3, b4, b5⟩ := hf.lens
  refine mk_w (by decide) (Nat.le_of_ble_eq_true rfl) ?_
  intro p e s m below meth c ls C Wd hl
  have X : X2w E _ z v 0 K L N S P s s.heap [] := ⟨f, Wd, hf⟩
  have hl : lv_has ls 1 [(0, .ref (z 0))] := hl
  refine lv_aload_n C.hx C.hb dX2_open_0 rfl (lv_at hl 0 rfl) ?_
  refine x2g_11 C X (x := nI (1)) hv11 dX2_open_1 ?_
  refine n_if_ne (tgt := 9) C dX2_open_4 (by decide) (by decide) (fun _ => ?_) (fun h => absurd h (by decide))
  refine lv_aload_n C.hx C.hb dX2_open_9 rfl (lv_at hl 0 rfl) ?_
  refine lv_iconst (v := nI (0)) C.hx C.hb dX2_open_10 (by decide) ?_
  refine x2p_11 C X (by decide) (by decide) dX2_open_11 (fun H locs X => ?_)
  refine lv_aload_n C.hx C.hb dX2_open_14 rfl (lv_at hl 0 rfl) ?_
  refine x2g_12 C X (x := nI (1)) hv12 dX2_open_15 ?_
  refine n_if_ne (tgt := 33) C dX2_open_18 (by decide) (by decide) (fun _ => ?_) (fun h => absurd h (by decide))
  refine lv_aload_n C.hx C.hb dX2_open_33 rfl (lv_at hl 0 rfl) ?_
  refine x2_cw (As := []) (rest := []) C X (c2_fin0 (cp := cp) (nx := nx) hv9 hnx hnx1 hv14 hJ hk hc htwo) wy_X2_finishCutSplit ts_23 tw_234 rfl ⟨by decide, by decide⟩ rfl hl.1 rfl (Nat.le_of_ble_eq_true rfl) ⟨Nat.le_refl _, Nat.le_refl _⟩ dX2_open_34 (fun r v' kd' K' L' N' S' P' H locs hp X => ?_)
  obtain ⟨rfl, rfl, rfl, rfl, rfl, rfl, rfl, rfl⟩ := hp
  refine W.eq (g2 := F0 m 37 ls []) rfl ?_
  refine lv_aload_n C.hx C.hb dX2_open_37 rfl (lv_at hl 0 rfl) ?_
  refine lv_dup C.hx C.hb dX2_open_38 rfl ?_
  refine x2g_18 C X (x := (upd (upd v 11 (nI (0))) 15 ((upd v 11 (nI (0))) 15 + nI 1)) 18) rfl dX2_open_39 ?_
  refine lv_iconst (v := nI (1)) C.hx C.hb dX2_open_42 (by decide) ?_
  refine lv_iadd C.hx C.hb dX2_open_43 ?_
  refine x2p_18 C X dX2_open_44 (fun H locs X => ?_)
  refine lv_iconst (v := nI (2)) C.hx C.hb dX2_open_47 (by decide) ?_
  exact ret2_i C X (⟨rfl, rfl, rfl, rfl, rfl, rfl, rfl, rfl⟩) dX2_open_48
set_option maxHeartbeats 4000000 in
set_option maxRecDepth 100000 in
/-- open: finished, kind 1 -/
theorem c2_open_1 {l : Launch} {E : Gq} {z : Nat → Nat} {v : Nat → Int32} {K : List Int64} {L N S P : List Nat} (hv11 : v 11 = nI 1) (hv12 : v 12 = nI 1)  : M2w l E yX2_open cX2_open 1 (some .int) 6 [.ref (z 0)] z v 1 K L N S P (fun r v' kd' K' L' N' S' P' => some (.int (nI 2)) = r ∧ upd (upd (upd v 11 (nI 0)) 15 (v 15 + nI 1)) 18 (v 18 + nI 1) = v' ∧ 1 = kd' ∧ K = K' ∧ L = L' ∧ N = N' ∧ S = S' ∧ P = P') := by
  intro f hf
  obtain ⟨b1, b2, b3, b4, b5⟩ := hf.lens
  refine mk_w (by decide) (Nat.le_of_ble_eq_true rfl) ?_
  intro p e s m below meth c ls C Wd hl
  have X : X2w E _ z v 1 K L N S P s s.heap [] := ⟨f, Wd, hf⟩
  have hl : lv_has ls 1 [(0, .ref (z 0))] := hl
  refine lv_aload_n C.hx C.hb dX2_open_0 rfl (lv_at hl 0 rfl) ?_
  refine x2g_11 C X (x := nI (1)) hv11 dX2_open_1 ?_
  refine n_if_ne (tgt := 9) C dX2_open_4 (by decide) (by decide) (fun _ => ?_) (fun h => absurd h (by decide))
  refine lv_aload_n C.hx C.hb dX2_open_9 rfl (lv_at hl 0 rfl) ?_
  refine lv_iconst (v := nI (0)) C.hx C.hb dX2_open_10 (by decide) ?_
  refine x2p_11 C X (by decide) (by decide) dX2_open_11 (fun H locs X => ?_)
  refine lv_aload_n C.hx C.hb dX2_open_14 rfl (lv_at hl 0 rfl) ?_
  refine x2g_12 C X (x := nI (1)) hv12 dX2_open_15 ?_
  refine n_if_ne (tgt := 33) C dX2_open_18 (by decide) (by decide) (fun _ => ?_) (fun h => absurd h (by decide))
  refine lv_aload_n C.hx C.hb dX2_open_33 rfl (lv_at hl 0 rfl) ?_
  refine x2_cw (As := []) (rest := []) C X (c2_fin1) wy_X2_finishCutSplit ts_23 tw_234 rfl ⟨by decide, by decide⟩ rfl hl.1 rfl (Nat.le_of_ble_eq_true rfl) ⟨Nat.le_refl _, Nat.le_refl _⟩ dX2_open_34 (fun r v' kd' K' L' N' S' P' H locs hp X => ?_)
  obtain ⟨rfl, rfl, rfl, rfl, rfl, rfl, rfl, rfl⟩ := hp
  refine W.eq (g2 := F0 m 37 ls []) rfl ?_
  refine lv_aload_n C.hx C.hb dX2_open_37 rfl (lv_at hl 0 rfl) ?_
  refine lv_dup C.hx C.hb dX2_open_38 rfl ?_
  refine x2g_18 C X (x := (upd (upd v 11 (nI (0))) 15 ((upd v 11 (nI (0))) 15 + nI 1)) 18) rfl dX2_open_39 ?_
  refine lv_iconst (v := nI (1)) C.hx C.hb dX2_open_42 (by decide) ?_
  refine lv_iadd C.hx C.hb dX2_open_43 ?_
  refine x2p_18 C X dX2_open_44 (fun H locs X => ?_)
  refine lv_iconst (v := nI (2)) C.hx C.hb dX2_open_47 (by decide) ?_
  exact ret2_i C X (⟨rfl, rfl, rfl, rfl, rfl, rfl, rfl, rfl⟩) dX2_open_48
set_option maxHeartbeats 4000000 in
set_option maxRecDepth 100000 in
/-- cut: closed -/
theorem c2_cut_c {l : Launch} {E : Gq} {z : Nat → Nat} {v : Nat → Int32} {kd : Nat} {K : List Int64} {L N S P : List Nat} {wr : Int32} (hv11 : v 11 = nI 1) : M2w l E yX2_cut cX2_cut 3 (some .int) 0 [.ref (z 0), .int (wr)] z v kd K L N S P (fun r v' kd' K' L' N' S' P' => some (.int (-5)) = r ∧ v = v' ∧ kd = kd' ∧ K = K' ∧ L = L' ∧ N = N' ∧ S = S' ∧ P = P') := by
  intro f hf
  obtain ⟨b1, b2, b3, b4, b5⟩ := hf.lens
  refine mk_w (by decide) (Nat.le_of_ble_eq_true rfl) ?_
  intro p e s m below meth c ls C Wd hl
  have X : X2w E _ z v kd K L N S P s s.heap [] := ⟨f, Wd, hf⟩
  have hl : lv_has ls 3 [(0, .ref (z 0)), (1, .int (wr))] := hl
  refine lv_aload_n C.hx C.hb dX2_cut_0 rfl (lv_at hl 0 rfl) ?_
  refine x2g_11 C X (x := nI (1)) hv11 dX2_cut_1 ?_
  refine n_if_eq (tgt := 10) C dX2_cut_4 (by decide) (by decide) (fun h => absurd h (by decide)) (fun _ => ?_)
  refine lv_bipush (v := (-5)) C.hx C.hb dX2_cut_7 (by decide) ?_
  exact ret2_i C X (⟨rfl, rfl, rfl, rfl, rfl, rfl, rfl, rfl⟩) dX2_cut_9
set_option maxHeartbeats 4000000 in
set_option maxRecDepth 100000 in
/-- cut: no such write -/
theorem c2_cut_b {l : Launch} {E : Gq} {z : Nat → Nat} {v : Nat → Int32} {kd : Nat} {K : List Int64} {L N S P : List Nat} {wr : Int32} (hv11 : v 11 = nI 0) (hb : wr < 0 ∨ nI 4 < wr) : M2w l E yX2_cut cX2_cut 3 (some .int) 0 [.ref (z 0), .int (wr)] z v kd K L N S P (fun r v' kd' K' L' N' S' P' => some (.int (-1)) = r ∧ v = v' ∧ kd = kd' ∧ K = K' ∧ L = L' ∧ N = N' ∧ S = S' ∧ P = P') := by
  intro f hf
  obtain ⟨b1, b2, b3, b4, b5⟩ := hf.lens
  refine mk_w (by decide) (Nat.le_of_ble_eq_true rfl) ?_
  intro p e s m below meth c ls C Wd hl
  have X : X2w E _ z v kd K L N S P s s.heap [] := ⟨f, Wd, hf⟩
  have hl : lv_has ls 3 [(0, .ref (z 0)), (1, .int (wr))] := hl
  refine lv_aload_n C.hx C.hb dX2_cut_0 rfl (lv_at hl 0 rfl) ?_
  refine x2g_11 C X (x := nI (0)) hv11 dX2_cut_1 ?_
  refine n_if_eq (tgt := 10) C dX2_cut_4 (by decide) (by decide) (fun _ => ?_) (fun h => absurd h (by decide))
  refine lv_iload_n C.hx C.hb dX2_cut_10 rfl (lv_at hl 1 rfl) ?_
  refine lv_if_lt (tgt := 19) C.hx C.hb dX2_cut_11 (by decide) (fun c11 => ?_) (fun c11 => ?_)
  · refine lv_iconst (v := (-1)) C.hx C.hb dX2_cut_19 (by decide) ?_
    exact ret2_i C X (⟨rfl, rfl, rfl, rfl, rfl, rfl, rfl, rfl⟩) dX2_cut_20
  · refine lv_iload_n C.hx C.hb dX2_cut_14 rfl (lv_at hl 1 rfl) ?_
    refine lv_iconst (v := nI (4)) C.hx C.hb dX2_cut_15 (by decide) ?_
    refine lv_icmp_le (tgt := 21) C.hx C.hb dX2_cut_16 (by decide) (fun c16 => ?_) (fun c16 => ?_)
    · exact hb.elim (fun h => absurd h c11) (fun h => absurd c16 (Int32.not_le.mpr h))
    · refine lv_iconst (v := (-1)) C.hx C.hb dX2_cut_19 (by decide) ?_
      exact ret2_i C X (⟨rfl, rfl, rfl, rfl, rfl, rfl, rfl, rfl⟩) dX2_cut_20
set_option maxHeartbeats 4000000 in
set_option maxRecDepth 100000 in
/-- cut -/
theorem c2_cut_g {l : Launch} {E : Gq} {z : Nat → Nat} {v : Nat → Int32} {kd : Nat} {K : List Int64} {L N S P : List Nat} {q tc : Nat} (hv11 : v 11 = nI 0) (hv10 : v 10 = nI tc) (hq : q ≤ 4) : M2w l E yX2_cut cX2_cut 3 (some .int) 0 [.ref (z 0), .int (nI (q))] z v kd K L N S P (fun r v' kd' K' L' N' S' P' => some (.int (nI tc)) = r ∧ upd v 10 (nI q) = v' ∧ kd = kd' ∧ K = K' ∧ L = L' ∧ N = N' ∧ S = S' ∧ P = P') := by
  intro f hf
  obtain ⟨b1, b2, b3, b4, b5⟩ := hf.lens
  refine mk_w (by decide) (Nat.le_of_ble_eq_true rfl) ?_
  intro p e s m below meth c ls C Wd hl
  have X : X2w E _ z v kd K L N S P s s.heap [] := ⟨f, Wd, hf⟩
  have hl : lv_has ls 3 [(0, .ref (z 0)), (1, .int (nI (q)))] := hl
  refine lv_aload_n C.hx C.hb dX2_cut_0 rfl (lv_at hl 0 rfl) ?_
  refine x2g_11 C X (x := nI (0)) hv11 dX2_cut_1 ?_
  refine n_if_eq (tgt := 10) C dX2_cut_4 (by decide) (by decide) (fun _ => ?_) (fun h => absurd h (by decide))
  refine lv_iload_n C.hx C.hb dX2_cut_10 rfl (lv_at hl 1 rfl) ?_
  refine n_if_lt (tgt := 19) C dX2_cut_11 (by decide) (by omega) ?_
  refine lv_iload_n C.hx C.hb dX2_cut_14 rfl (lv_at hl 1 rfl) ?_
  refine lv_iconst (v := nI (4)) C.hx C.hb dX2_cut_15 (by decide) ?_
  refine n_icmp_le (tgt := 21) C dX2_cut_16 (by decide) (by omega) (by omega) (fun c16 => ?_) (fun c16 => ?_)
  · refine lv_aload_n C.hx C.hb dX2_cut_21 rfl (lv_at hl 0 rfl) ?_
    refine x2g_10 C X (x := nI (tc)) hv10 dX2_cut_22 ?_
    refine lv_istore_n (lv' := [(2, .int (nI (tc))), (0, .ref (z 0)), (1, .int (nI (q)))]) C.hx C.hb dX2_cut_25 rfl hl (by decide) rfl (fun ls hl => ?_)
    refine lv_aload_n C.hx C.hb dX2_cut_26 rfl (lv_at hl 1 rfl) ?_
    refine lv_iload_n C.hx C.hb dX2_cut_27 rfl (lv_at hl 2 rfl) ?_
    refine x2p_10 C X dX2_cut_28 (fun H locs X => ?_)
    refine lv_iload_n C.hx C.hb dX2_cut_31 rfl (lv_at hl 0 rfl) ?_
    exact ret2_i C X (⟨rfl, rfl, rfl, rfl, rfl, rfl, rfl, rfl⟩) dX2_cut_32
  · omega
set_option maxHeartbeats 4000000 in
set_option maxRecDepth 100000 in
/-- put: closed -/
theorem c2_put_c {l : Launch} {E : Gq} {z : Nat → Nat} {v : Nat → Int32} {kd : Nat} {K : List Int64} {L N S P : List Nat} {key : Int64} {ln : Int32} (hv11 : v 11 = nI 1) : M2w l E yX2_put cX2_put 4 (some .int) 6 [.ref (z 0), .long (key), .int (ln)] z v kd K L N S P (fun r v' kd' K' L' N' S' P' => some (.int (-5)) = r ∧ v = v' ∧ kd = kd' ∧ K = K' ∧ L = L' ∧ N = N' ∧ S = S' ∧ P = P') := by
  intro f hf
  obtain ⟨b1, b2, b3, b4, b5⟩ := hf.lens
  refine mk_w (by decide) (Nat.le_of_ble_eq_true rfl) ?_
  intro p e s m below meth c ls C Wd hl
  have X : X2w E _ z v kd K L N S P s s.heap [] := ⟨f, Wd, hf⟩
  have hl : lv_has ls 4 [(0, .ref (z 0)), (1, .long (key)), (3, .int (ln))] := hl
  refine lv_aload_n C.hx C.hb dX2_put_0 rfl (lv_at hl 0 rfl) ?_
  refine x2g_11 C X (x := nI (1)) hv11 dX2_put_1 ?_
  refine n_if_eq (tgt := 10) C dX2_put_4 (by decide) (by decide) (fun h => absurd h (by decide)) (fun _ => ?_)
  refine lv_bipush (v := (-5)) C.hx C.hb dX2_put_7 (by decide) ?_
  exact ret2_i C X (⟨rfl, rfl, rfl, rfl, rfl, rfl, rfl, rfl⟩) dX2_put_9
set_option maxHeartbeats 4000000 in
set_option maxRecDepth 100000 in
/-- put: the key is there -/
theorem c2_put_h {l : Launch} {E : Gq} {z : Nat → Nat} {v : Nat → Int32} {kd : Nat} {K : List Int64} {L N S P : List Nat} {key : Int64} {ln : Int32} (hv11 : v 11 = nI 0) (hh : hask K key) : M2w l E yX2_put cX2_put 4 (some .int) 6 [.ref (z 0), .long (key), .int (ln)] z v kd K L N S P (fun r v' kd' K' L' N' S' P' => some (.int (nI 0)) = r ∧ v = v' ∧ kd = kd' ∧ K = K' ∧ L = L' ∧ N = N' ∧ S = S' ∧ P = P') := by
  intro f hf
  obtain ⟨b1, b2, b3, b4, b5⟩ := hf.lens
  refine mk_w (by decide) (Nat.le_of_ble_eq_true rfl) ?_
  intro p e s m below meth c ls C Wd hl
  have X : X2w E _ z v kd K L N S P s s.heap [] := ⟨f, Wd, hf⟩
  have hl : lv_has ls 4 [(0, .ref (z 0)), (1, .long (key)), (3, .int (ln))] := hl
  have hng := ngt_le K key
  refine lv_aload_n C.hx C.hb dX2_put_0 rfl (lv_at hl 0 rfl) ?_
  refine x2g_11 C X (x := nI (0)) hv11 dX2_put_1 ?_
  refine n_if_eq (tgt := 10) C dX2_put_4 (by decide) (by decide) (fun _ => ?_) (fun h => absurd h (by decide))
  refine lv_aload_n C.hx C.hb dX2_put_10 rfl (lv_at hl 0 rfl) ?_
  refine lv_lload_n C.hx C.hb dX2_put_11 rfl (lv_at hl 1 rfl) ?_
  refine x2_cr (As := [.long (key)]) (rest := []) C X (c2_positionOf (key := key)) wy_X2_positionOf ts_6 tw_137 rfl ⟨by decide, by decide⟩ rfl hl.1 rfl (Nat.le_of_ble_eq_true rfl) ⟨Nat.le_refl _, Nat.le_refl _⟩ dX2_put_12 (fun r hp => ?_)
  subst hp
  refine W.eq (g2 := F0 m 15 ls [.int (pof K key)]) rfl ?_
  refine n_re (pof_y hh) ?_
  refine lv_iconst (v := (-1)) C.hx C.hb dX2_put_15 (by decide) ?_
  refine lv_icmp_eq (tgt := 21) C.hx C.hb dX2_put_16 (by decide) (fun c16 => ?_) (fun c16 => ?_)
  · exact absurd c16 (nI_m1 (by omega))
  · refine lv_iconst (v := nI (0)) C.hx C.hb dX2_put_19 (by decide) ?_
    exact ret2_i C X (⟨rfl, rfl, rfl, rfl, rfl, rfl, rfl, rfl⟩) dX2_put_20
set_option maxHeartbeats 4000000 in
set_option maxRecDepth 100000 in
/-- put: no such length -/
theorem c2_put_b {l : Launch} {E : Gq} {z : Nat → Nat} {v : Nat → Int32} {kd : Nat} {K : List Int64} {L N S P : List Nat} {key : Int64} {ln : Int32} {rm : Nat} (hv11 : v 11 = nI 0) (hv0 : v 0 = nI rm) (hh : ¬ hask K key) (hb : ln < nI 1 ∨ nI rm < ln) : M2w l E yX2_put cX2_put 4 (some .int) 6 [.ref (z 0), .long (key), .int (ln)] z v kd K L N S P (fun r v' kd' K' L' N' S' P' => some (.int (-1)) = r ∧ v = v' ∧ kd = kd' ∧ K = K' ∧ L = L' ∧ N = N' ∧ S = S' ∧ P = P') := by
  intro f hf
  obtain ⟨b1, b2, b3, b4, b5⟩ := hf.lens
  refine mk_w (by decide) (Nat.le_of_ble_eq_true rfl) ?_
  intro p e s m below meth c ls C Wd hl
  have X : X2w E _ z v kd K L N S P s s.heap [] := ⟨f, Wd, hf⟩
  have hl : lv_has ls 4 [(0, .ref (z 0)), (1, .long (key)), (3, .int (ln))] := hl
  refine lv_aload_n C.hx C.hb dX2_put_0 rfl (lv_at hl 0 rfl) ?_
  refine x2g_11 C X (x := nI (0)) hv11 dX2_put_1 ?_
  refine n_if_eq (tgt := 10) C dX2_put_4 (by decide) (by decide) (fun _ => ?_) (fun h => absurd h (by decide))
  refine lv_aload_n C.hx C.hb dX2_put_10 rfl (lv_at hl 0 rfl) ?_
  refine lv_lload_n C.hx C.hb dX2_put_11 rfl (lv_at hl 1 rfl) ?_
  refine x2_cr (As := [.long (key)]) (rest := []) C X (c2_positionOf (key := key)) wy_X2_positionOf ts_6 tw_137 rfl ⟨by decide, by decide⟩ rfl hl.1 rfl (Nat.le_of_ble_eq_true rfl) ⟨Nat.le_refl _, Nat.le_refl _⟩ dX2_put_12 (fun r hp => ?_)
  subst hp
  refine W.eq (g2 := F0 m 15 ls [.int (pof K key)]) rfl ?_
  refine n_re (pof_n hh) ?_
  refine lv_iconst (v := (-1)) C.hx C.hb dX2_put_15 (by decide) ?_
  refine lv_icmp_eq (tgt := 21) C.hx C.hb dX2_put_16 (by decide) (fun c16 => ?_) (fun c16 => ?_)
  · refine lv_iload_n C.hx C.hb dX2_put_21 rfl (lv_at hl 2 rfl) ?_
    refine lv_iconst (v := nI (1)) C.hx C.hb dX2_put_22 (by decide) ?_
    refine lv_icmp_lt (tgt := 47) C.hx C.hb dX2_put_23 (by decide) (fun c23 => ?_) (fun c23 => ?_)
    · refine lv_iconst (v := (-1)) C.hx C.hb dX2_put_47 (by decide) ?_
      exact ret2_i C X (⟨rfl, rfl, rfl, rfl, rfl, rfl, rfl, rfl⟩) dX2_put_48
    · refine lv_iload_n C.hx C.hb dX2_put_26 rfl (lv_at hl 2 rfl) ?_
      refine lv_aload_n C.hx C.hb dX2_put_27 rfl (lv_at hl 0 rfl) ?_
      refine x2g_0 C X (x := nI (rm)) hv0 dX2_put_28 ?_
      refine lv_icmp_gt (tgt := 47) C.hx C.hb dX2_put_31 (by decide) (fun c31 => ?_) (fun c31 => ?_)
      · refine lv_iconst (v := (-1)) C.hx C.hb dX2_put_47 (by decide) ?_
        exact ret2_i C X (⟨rfl, rfl, rfl, rfl, rfl, rfl, rfl, rfl⟩) dX2_put_48
      · exact hb.elim (fun h => absurd h c23) (fun h => absurd h c31)
  · exact absurd rfl c16
set_option maxHeartbeats 4000000 in
set_option maxRecDepth 100000 in
/-- put -/
theorem c2_put_g {l : Launch} {E : Gq} {z : Nat → Nat} {v : Nat → Int32} {kd : Nat} {K : List Int64} {L N S P : List Nat} {key : Int64} {len rm wd nx tc : Nat} (hrm : rm ≤ 1000) (hwd : wd ≤ 20) (hw2 : 2 ≤ wd) (hl1 : 1 ≤ len) (hl2 : len ≤ rm) (htc : tc ≤ 4) (hJ : J2 K L N S P) (hk : K.length < 600) (hnx : nx + 2400 < 2 ^ 30) (hv0 : v 0 = nI rm) (hw : v 1 = nI wd) (hv9 : v 9 = nI nx) (hv10 : v 10 = nI tc) (hv11 : v 11 = nI 0) (hh : ¬ hask K key) : M2w l E yX2_put cX2_put 4 (some .int) 6 [.ref (z 0), .long (key), .int (nI (len))] z v kd K L N S P (fun r v' kd' K' L' N' S' P' => ∃ q, some (.int (if q = 0 then -5 else nI 1)) = r ∧ q < 2 ∧ plc rm wd key len tc 2400 nx v kd K L N S P = (q, v', kd', K', L', N', S', P')) := by
  intro f hf
  obtain ⟨b1, b2, b3, b4, b5⟩ := hf.lens
  refine mk_w (by decide) (Nat.le_of_ble_eq_true rfl) ?_
  intro p e s m below meth c ls C Wd hl
  have X : X2w E _ z v kd K L N S P s s.heap [] := ⟨f, Wd, hf⟩
  have hl : lv_has ls 4 [(0, .ref (z 0)), (1, .long (key)), (3, .int (nI (len)))] := hl
  refine lv_aload_n C.hx C.hb dX2_put_0 rfl (lv_at hl 0 rfl) ?_
  refine x2g_11 C X (x := nI (0)) hv11 dX2_put_1 ?_
  refine n_if_eq (tgt := 10) C dX2_put_4 (by decide) (by decide) (fun _ => ?_) (fun h => absurd h (by decide))
  refine lv_aload_n C.hx C.hb dX2_put_10 rfl (lv_at hl 0 rfl) ?_
  refine lv_lload_n C.hx C.hb dX2_put_11 rfl (lv_at hl 1 rfl) ?_
  refine x2_cr (As := [.long (key)]) (rest := []) C X (c2_positionOf (key := key)) wy_X2_positionOf ts_6 tw_137 rfl ⟨by decide, by decide⟩ rfl hl.1 rfl (Nat.le_of_ble_eq_true rfl) ⟨Nat.le_refl _, Nat.le_refl _⟩ dX2_put_12 (fun r hp => ?_)
  subst hp
  refine W.eq (g2 := F0 m 15 ls [.int (pof K key)]) rfl ?_
  refine n_re (pof_n hh) ?_
  refine lv_iconst (v := (-1)) C.hx C.hb dX2_put_15 (by decide) ?_
  refine lv_icmp_eq (tgt := 21) C.hx C.hb dX2_put_16 (by decide) (fun c16 => ?_) (fun c16 => ?_)
  · refine lv_iload_n C.hx C.hb dX2_put_21 rfl (lv_at hl 2 rfl) ?_
    refine lv_iconst (v := nI (1)) C.hx C.hb dX2_put_22 (by decide) ?_
    refine n_icmp_lt (tgt := 47) C dX2_put_23 (by decide) (by omega) (by omega) (fun c23 => ?_) (fun c23 => ?_)
    · omega
    · refine lv_iload_n C.hx C.hb dX2_put_26 rfl (lv_at hl 2 rfl) ?_
      refine lv_aload_n C.hx C.hb dX2_put_27 rfl (lv_at hl 0 rfl) ?_
      refine x2g_0 C X (x := nI (rm)) hv0 dX2_put_28 ?_
      refine n_icmp_gt (tgt := 47) C dX2_put_31 (by decide) (by omega) (by omega) (fun c31 => ?_) (fun c31 => ?_)
      · omega
      · refine lv_aload_n C.hx C.hb dX2_put_34 rfl (lv_at hl 0 rfl) ?_
        refine x2g_4 C X dX2_put_35 ?_
        refine x2s_1 C X dX2_put_38 ?_
        refine lv_sipush (v := nI (600)) C.hx C.hb dX2_put_41 (by decide) ?_
        refine n_icmp_lt (tgt := 49) C dX2_put_44 (by decide) (by omega) (by omega) (fun c44 => ?_) (fun c44 => ?_)
        · refine lv_aload_n C.hx C.hb dX2_put_49 rfl (lv_at hl 0 rfl) ?_
          refine lv_lload_n C.hx C.hb dX2_put_50 rfl (lv_at hl 1 rfl) ?_
          refine lv_iload_n C.hx C.hb dX2_put_51 rfl (lv_at hl 2 rfl) ?_
          refine x2_cw (As := [.long (key), .int (nI (len))]) (rest := []) C X (c2_place (key := key) (len := len) hrm hwd hw2 (by omega) htc hJ hk hnx hv0 hw hv9 hv10) wy_X2_place ts_8 tw_146 rfl ⟨by decide, by decide⟩ rfl hl.1 rfl (Nat.le_of_ble_eq_true rfl) ⟨Nat.le_refl _, Nat.le_refl _⟩ dX2_put_52 (fun r v' kd' K' L' N' S' P' H locs hp X => ?_)
          obtain ⟨q, rfl, hq⟩ := hp
          have hq2 := plc_lt hq
          refine W.eq (g2 := F0 m 55 ls [.int (nI (q))]) rfl ?_
          refine n_if_eq (tgt := 62) C dX2_put_55 (by decide) (by omega) (fun c55 => ?_) (fun c55 => ?_)
          · refine lv_bipush (v := (-5)) C.hx C.hb dX2_put_62 (by decide) ?_
            exact ret2_i C X (⟨q, by rw [if_pos c55], hq2, hq⟩) dX2_put_64
          · refine lv_iconst (v := nI (1)) C.hx C.hb dX2_put_58 (by decide) ?_
            refine lv_goto (tgt := 64) C.hx C.hb dX2_put_59 (by decide) ?_
            exact ret2_i C X (⟨q, by rw [if_neg c55], hq2, hq⟩) dX2_put_64
        · omega
  · exact absurd rfl c16
set_option maxHeartbeats 4000000 in
set_option maxRecDepth 100000 in
/-- find -/
theorem c2_find_y {l : Launch} {E : Gq} {z : Nat → Nat} {v : Nat → Int32} {kd : Nat} {K : List Int64} {L N S P : List Nat} {key : Int64} (hh : hask K key) (hJ : J2 K L N S P) : M2r l E yX2_find cX2_find 4 (some .int) 3 [.ref (z 0), .long (key)] z v kd K L N S P (fun r => r = some (.int (nI (N.getD (gOf S (ngt K key - 1)) 0)))) := by
  intro f hf
  obtain ⟨b1, b2, b3, b4, b5⟩ := hf.lens
  refine mk_r (by decide) (Nat.le_of_ble_eq_true rfl) ?_
  intro p e s m below meth c ls C Wd hl
  have X : X2w E _ z v kd K L N S P s s.heap [] := ⟨f, Wd, hf⟩
  have hl : lv_has ls 4 [(0, .ref (z 0)), (1, .long (key))] := hl
  obtain ⟨j1, j2, j3, j4, j5, j6, j7, j8⟩ := id hJ
  obtain ⟨k1, k2, k3, k4⟩ := hJ.b
  have hng := ngt_le K key
  have hgo := gOf_lt (L := S) (m := ngt K key - 1) j5
  refine lv_aload_n C.hx C.hb dX2_find_0 rfl (lv_at hl 0 rfl) ?_
  refine lv_lload_n C.hx C.hb dX2_find_1 rfl (lv_at hl 1 rfl) ?_
  refine x2_cr (As := [.long (key)]) (rest := []) C X (c2_positionOf (key := key)) wy_X2_positionOf ts_6 tw_137 rfl ⟨by decide, by decide⟩ rfl hl.1 rfl (Nat.le_of_ble_eq_true rfl) ⟨Nat.le_refl _, Nat.le_refl _⟩ dX2_find_2 (fun r hp => ?_)
  subst hp
  refine W.eq (g2 := F0 m 5 ls [.int (pof K key)]) rfl ?_
  refine n_re (pof_y hh) ?_
  refine lv_istore_n (lv' := [(3, .int (nI (ngt K key - 1))), (0, .ref (z 0)), (1, .long (key))]) C.hx C.hb dX2_find_5 rfl hl (by decide) rfl (fun ls hl => ?_)
  refine lv_iload_n C.hx C.hb dX2_find_6 rfl (lv_at hl 0 rfl) ?_
  refine lv_iconst (v := (-1)) C.hx C.hb dX2_find_7 (by decide) ?_
  refine lv_icmp_ne (tgt := 15) C.hx C.hb dX2_find_8 (by decide) (fun c8 => ?_) (fun c8 => ?_)
  · refine lv_aload_n C.hx C.hb dX2_find_15 rfl (lv_at hl 1 rfl) ?_
    refine x2g_6 C X dX2_find_16 ?_
    refine lv_aload_n C.hx C.hb dX2_find_19 rfl (lv_at hl 1 rfl) ?_
    refine x2g_7 C X dX2_find_20 ?_
    refine lv_iload_n C.hx C.hb dX2_find_23 rfl (lv_at hl 0 rfl) ?_
    refine x2_groupOf_4 C X (by omega) (by omega) ⟨by decide, by decide⟩ hl.1 (Nat.le_of_ble_eq_true rfl) ⟨Nat.le_refl _, Nat.le_refl _⟩ dX2_find_24 ?_
    refine x2_intAt_3 C X (by omega) ⟨by decide, by decide⟩ hl.1 (Nat.le_of_ble_eq_true rfl) ⟨Nat.le_refl _, Nat.le_refl _⟩ dX2_find_27 ?_
    exact ret_ir C (rfl) dX2_find_30
  · exact absurd c8 (nI_m1 (by omega))
set_option maxHeartbeats 4000000 in
set_option maxRecDepth 100000 in
/-- find: not there -/
theorem c2_find_n {l : Launch} {E : Gq} {z : Nat → Nat} {v : Nat → Int32} {kd : Nat} {K : List Int64} {L N S P : List Nat} {key : Int64} (hh : ¬ hask K key) : M2r l E yX2_find cX2_find 4 (some .int) 3 [.ref (z 0), .long (key)] z v kd K L N S P (fun r => r = some (.int (-1))) := by
  intro f hf
  obtain ⟨b1, b2, b3, b4, b5⟩ := hf.lens
  refine mk_r (by decide) (Nat.le_of_ble_eq_true rfl) ?_
  intro p e s m below meth c ls C Wd hl
  have X : X2w E _ z v kd K L N S P s s.heap [] := ⟨f, Wd, hf⟩
  have hl : lv_has ls 4 [(0, .ref (z 0)), (1, .long (key))] := hl
  refine lv_aload_n C.hx C.hb dX2_find_0 rfl (lv_at hl 0 rfl) ?_
  refine lv_lload_n C.hx C.hb dX2_find_1 rfl (lv_at hl 1 rfl) ?_
  refine x2_cr (As := [.long (key)]) (rest := []) C X (c2_positionOf (key := key)) wy_X2_positionOf ts_6 tw_137 rfl ⟨by decide, by decide⟩ rfl hl.1 rfl (Nat.le_of_ble_eq_true rfl) ⟨Nat.le_refl _, Nat.le_refl _⟩ dX2_find_2 (fun r hp => ?_)
  subst hp
  refine W.eq (g2 := F0 m 5 ls [.int (pof K key)]) rfl ?_
  refine n_re (pof_n hh) ?_
  refine lv_istore_n (lv' := [(3, .int (-1)), (0, .ref (z 0)), (1, .long (key))]) C.hx C.hb dX2_find_5 rfl hl (by decide) rfl (fun ls hl => ?_)
  refine lv_iload_n C.hx C.hb dX2_find_6 rfl (lv_at hl 0 rfl) ?_
  refine lv_iconst (v := (-1)) C.hx C.hb dX2_find_7 (by decide) ?_
  refine lv_icmp_ne (tgt := 15) C.hx C.hb dX2_find_8 (by decide) (fun c8 => ?_) (fun c8 => ?_)
  · exact absurd rfl c8
  · refine lv_iconst (v := (-1)) C.hx C.hb dX2_find_11 (by decide) ?_
    refine lv_goto (tgt := 30) C.hx C.hb dX2_find_12 (by decide) ?_
    exact ret_ir C (rfl) dX2_find_30
set_option maxHeartbeats 4000000 in
set_option maxRecDepth 100000 in
/-- next -/
theorem c2_next {l : Launch} {E : Gq} {z : Nat → Nat} {v : Nat → Int32} {kd : Nat} {K : List Int64} {L N S P : List Nat} {key : Int64} : M2r l E yX2_next cX2_next 4 (some .int) 2 [.ref (z 0), .long (key)] z v kd K L N S P (fun r => r = some (.int (if ngt K key < K.length then nI (ngt K key) else -1))) := by
  intro f hf
  obtain ⟨b1, b2, b3, b4, b5⟩ := hf.lens
  refine mk_r (by decide) (Nat.le_of_ble_eq_true rfl) ?_
  intro p e s m below meth c ls C Wd hl
  have X : X2w E _ z v kd K L N S P s s.heap [] := ⟨f, Wd, hf⟩
  have hl : lv_has ls 4 [(0, .ref (z 0)), (1, .long (key))] := hl
  have hng := ngt_le K key
  refine lv_aload_n C.hx C.hb dX2_next_0 rfl (lv_at hl 0 rfl) ?_
  refine lv_lload_n C.hx C.hb dX2_next_1 rfl (lv_at hl 1 rfl) ?_
  refine x2_cr (As := [.long (key)]) (rest := []) C X (c2_notGreaterThan (key := key)) wy_X2_notGreaterThan ts_7 tw_141 rfl ⟨by decide, by decide⟩ rfl hl.1 rfl (Nat.le_of_ble_eq_true rfl) ⟨Nat.le_refl _, Nat.le_refl _⟩ dX2_next_2 (fun r hp => ?_)
  subst hp
  refine W.eq (g2 := F0 m 5 ls [.int (nI (ngt K key))]) rfl ?_
  refine lv_istore_n (lv' := [(3, .int (nI (ngt K key))), (0, .ref (z 0)), (1, .long (key))]) C.hx C.hb dX2_next_5 rfl hl (by decide) rfl (fun ls hl => ?_)
  refine lv_iload_n C.hx C.hb dX2_next_6 rfl (lv_at hl 0 rfl) ?_
  refine lv_aload_n C.hx C.hb dX2_next_7 rfl (lv_at hl 1 rfl) ?_
  refine x2g_4 C X dX2_next_8 ?_
  refine x2s_1 C X dX2_next_11 ?_
  refine n_icmp_ge (tgt := 21) C dX2_next_14 (by decide) (by omega) (by omega) (fun c14 => ?_) (fun c14 => ?_)
  · refine lv_iconst (v := (-1)) C.hx C.hb dX2_next_21 (by decide) ?_
    exact ret_ir C (by rw [if_neg (Nat.not_lt.mpr c14)]) dX2_next_22
  · refine lv_iload_n C.hx C.hb dX2_next_17 rfl (lv_at hl 0 rfl) ?_
    refine lv_goto (tgt := 22) C.hx C.hb dX2_next_18 (by decide) ?_
    exact ret_ir C (by rw [if_pos c14]) dX2_next_22
set_option maxHeartbeats 4000000 in
set_option maxRecDepth 100000 in
/-- remove: closed -/
theorem c2_remove_c {l : Launch} {E : Gq} {z : Nat → Nat} {v : Nat → Int32} {kd : Nat} {K : List Int64} {L N S P : List Nat} {key : Int64} (hv11 : v 11 = nI 1) : M2w l E yX2_remove cX2_remove 5 (some .int) 3 [.ref (z 0), .long (key)] z v kd K L N S P (fun r v' kd' K' L' N' S' P' => some (.int (-5)) = r ∧ v = v' ∧ kd = kd' ∧ K = K' ∧ L = L' ∧ N = N' ∧ S = S' ∧ P = P') := by
  intro f hf
  obtain ⟨b1, b2, b3, b4, b5⟩ := hf.lens
  refine mk_w (by decide) (Nat.le_of_ble_eq_true rfl) ?_
  intro p e s m below meth c ls C Wd hl
  have X : X2w E _ z v kd K L N S P s s.heap [] := ⟨f, Wd, hf⟩
  have hl : lv_has ls 5 [(0, .ref (z 0)), (1, .long (key))] := hl
  refine lv_aload_n C.hx C.hb dX2_remove_0 rfl (lv_at hl 0 rfl) ?_
  refine x2g_11 C X (x := nI (1)) hv11 dX2_remove_1 ?_
  refine n_if_eq (tgt := 10) C dX2_remove_4 (by decide) (by decide) (fun h => absurd h (by decide)) (fun _ => ?_)
  refine lv_bipush (v := (-5)) C.hx C.hb dX2_remove_7 (by decide) ?_
  exact ret2_i C X (⟨rfl, rfl, rfl, rfl, rfl, rfl, rfl, rfl⟩) dX2_remove_9
set_option maxHeartbeats 4000000 in
set_option maxRecDepth 100000 in
/-- remove: not there -/
theorem c2_remove_n {l : Launch} {E : Gq} {z : Nat → Nat} {v : Nat → Int32} {kd : Nat} {K : List Int64} {L N S P : List Nat} {key : Int64} (hv11 : v 11 = nI 0) (hh : ¬ hask K key) : M2w l E yX2_remove cX2_remove 5 (some .int) 3 [.ref (z 0), .long (key)] z v kd K L N S P (fun r v' kd' K' L' N' S' P' => some (.int (nI 0)) = r ∧ v = v' ∧ kd = kd' ∧ K = K' ∧ L = L' ∧ N = N' ∧ S = S' ∧ P = P') := by
  intro f hf
  obtain ⟨b1, b2, b3, b4, b5⟩ := hf.lens
  refine mk_w (by decide) (Nat.le_of_ble_eq_true rfl) ?_
  intro p e s m below meth c ls C Wd hl
  have X : X2w E _ z v kd K L N S P s s.heap [] := ⟨f, Wd, hf⟩
  have hl : lv_has ls 5 [(0, .ref (z 0)), (1, .long (key))] := hl
  refine lv_aload_n C.hx C.hb dX2_remove_0 rfl (lv_at hl 0 rfl) ?_
  refine x2g_11 C X (x := nI (0)) hv11 dX2_remove_1 ?_
  refine n_if_eq (tgt := 10) C dX2_remove_4 (by decide) (by decide) (fun _ => ?_) (fun h => absurd h (by decide))
  refine lv_aload_n C.hx C.hb dX2_remove_10 rfl (lv_at hl 0 rfl) ?_
  refine lv_lload_n C.hx C.hb dX2_remove_11 rfl (lv_at hl 1 rfl) ?_
  refine x2_cr (As := [.long (key)]) (rest := []) C X (c2_positionOf (key := key)) wy_X2_positionOf ts_6 tw_137 rfl ⟨by decide, by decide⟩ rfl hl.1 rfl (Nat.le_of_ble_eq_true rfl) ⟨Nat.le_refl _, Nat.le_refl _⟩ dX2_remove_12 (fun r hp => ?_)
  subst hp
  refine W.eq (g2 := F0 m 15 ls [.int (pof K key)]) rfl ?_
  refine n_re (pof_n hh) ?_
  refine lv_istore_n (lv' := [(3, .int (-1)), (0, .ref (z 0)), (1, .long (key))]) C.hx C.hb dX2_remove_15 rfl hl (by decide) rfl (fun ls hl => ?_)
  refine lv_iload_n C.hx C.hb dX2_remove_16 rfl (lv_at hl 0 rfl) ?_
  refine lv_iconst (v := (-1)) C.hx C.hb dX2_remove_17 (by decide) ?_
  refine lv_icmp_ne (tgt := 23) C.hx C.hb dX2_remove_18 (by decide) (fun c18 => ?_) (fun c18 => ?_)
  · exact absurd rfl c18
  · refine lv_iconst (v := nI (0)) C.hx C.hb dX2_remove_21 (by decide) ?_
    exact ret2_i C X (⟨rfl, rfl, rfl, rfl, rfl, rfl, rfl, rfl⟩) dX2_remove_22
set_option maxHeartbeats 4000000 in
set_option maxRecDepth 100000 in
/-- remove -/
theorem c2_remove_k {l : Launch} {E : Gq} {z : Nat → Nat} {v : Nat → Int32} {kd : Nat} {K : List Int64} {L N S P : List Nat} {key : Int64} (hv11 : v 11 = nI 0) (hh : hask K key) (hJ : J2 K L N S P) (hone : 1 ≤ S.getD (gOf S (ngt K key - 1)) 0) (hkeep : ¬ (S.getD (gOf S (ngt K key - 1)) 0 - 1 = 0 ∧ 1 < S.length)) : M2w l E yX2_remove cX2_remove 5 (some .int) 3 [.ref (z 0), .long (key)] z v kd K L N S P (fun r v' kd' K' L' N' S' P' => some (.int (nI 1)) = r ∧ v = v' ∧ kd = kd' ∧ del K (ngt K key - 1) = K' ∧ del L (ngt K key - 1) = L' ∧ N = N' ∧ S.set (gOf S (ngt K key - 1)) (S.getD (gOf S (ngt K key - 1)) 0 - 1) = S' ∧ P = P') := by
  intro f hf
  obtain ⟨b1, b2, b3, b4, b5⟩ := hf.lens
  refine mk_w (by decide) (Nat.le_of_ble_eq_true rfl) ?_
  intro p e s m below meth c ls C Wd hl
  have X : X2w E _ z v kd K L N S P s s.heap [] := ⟨f, Wd, hf⟩
  have hl : lv_has ls 5 [(0, .ref (z 0)), (1, .long (key))] := hl
  obtain ⟨j1, j2, j3, j4, j5, j6, j7, j8⟩ := id hJ
  obtain ⟨k1, k2, k3, k4⟩ := hJ.b
  have hng := ngt_le K key
  have hgo := gOf_lt (L := S) (m := ngt K key - 1) j5
  have hh1 := hh.1
  have hge := getD_set_self (x := S.getD (gOf S (ngt K key - 1)) 0 - 1) hgo
  have hsl : (S.set (gOf S (ngt K key - 1)) (S.getD (gOf S (ngt K key - 1)) 0 - 1)).length = S.length := List.length_set ..
  have hq := getD_le S (gOf S (ngt K key - 1))
  have har := gOf_lt (L := P) (m := (gOf S (ngt K key - 1))) k2
  have hp1 := j6 _ (getD_mem har)
  refine lv_aload_n C.hx C.hb dX2_remove_0 rfl (lv_at hl 0 rfl) ?_
  refine x2g_11 C X (x := nI (0)) hv11 dX2_remove_1 ?_
  refine n_if_eq (tgt := 10) C dX2_remove_4 (by decide) (by decide) (fun _ => ?_) (fun h => absurd h (by decide))
  refine lv_aload_n C.hx C.hb dX2_remove_10 rfl (lv_at hl 0 rfl) ?_
  refine lv_lload_n C.hx C.hb dX2_remove_11 rfl (lv_at hl 1 rfl) ?_
  refine x2_cr (As := [.long (key)]) (rest := []) C X (c2_positionOf (key := key)) wy_X2_positionOf ts_6 tw_137 rfl ⟨by decide, by decide⟩ rfl hl.1 rfl (Nat.le_of_ble_eq_true rfl) ⟨Nat.le_refl _, Nat.le_refl _⟩ dX2_remove_12 (fun r hp => ?_)
  subst hp
  refine W.eq (g2 := F0 m 15 ls [.int (pof K key)]) rfl ?_
  refine n_re (pof_y hh) ?_
  refine lv_istore_n (lv' := [(3, .int (nI (ngt K key - 1))), (0, .ref (z 0)), (1, .long (key))]) C.hx C.hb dX2_remove_15 rfl hl (by decide) rfl (fun ls hl => ?_)
  refine lv_iload_n C.hx C.hb dX2_remove_16 rfl (lv_at hl 0 rfl) ?_
  refine lv_iconst (v := (-1)) C.hx C.hb dX2_remove_17 (by decide) ?_
  refine lv_icmp_ne (tgt := 23) C.hx C.hb dX2_remove_18 (by decide) (fun c18 => ?_) (fun c18 => ?_)
  · refine lv_aload_n C.hx C.hb dX2_remove_23 rfl (lv_at hl 1 rfl) ?_
    refine x2g_7 C X dX2_remove_24 ?_
    refine lv_iload_n C.hx C.hb dX2_remove_27 rfl (lv_at hl 0 rfl) ?_
    refine x2_groupOf_4 C X (by omega) (by omega) ⟨by decide, by decide⟩ hl.1 (Nat.le_of_ble_eq_true rfl) ⟨Nat.le_refl _, Nat.le_refl _⟩ dX2_remove_28 ?_
    refine lv_istore (lv' := [(4, .int (nI (gOf S (ngt K key - 1)))), (3, .int (nI (ngt K key - 1))), (0, .ref (z 0)), (1, .long (key))]) C.hx C.hb dX2_remove_31 hl (by decide) rfl (fun ls hl => ?_)
    refine lv_aload_n C.hx C.hb dX2_remove_33 rfl (lv_at hl 2 rfl) ?_
    refine x2g_4 C X dX2_remove_34 ?_
    refine lv_iload_n C.hx C.hb dX2_remove_37 rfl (lv_at hl 1 rfl) ?_
    refine x2_deleteAt_1 C X (by omega) ⟨by decide, by decide⟩ hl.1 (Nat.le_of_ble_eq_true rfl) ⟨Nat.le_refl _, Nat.le_refl _⟩ dX2_remove_38 (fun H locs X => ?_)
    refine lv_aload_n C.hx C.hb dX2_remove_41 rfl (lv_at hl 2 rfl) ?_
    refine x2g_5 C X dX2_remove_42 ?_
    refine lv_iload_n C.hx C.hb dX2_remove_45 rfl (lv_at hl 1 rfl) ?_
    refine x2_deleteAt_2 C X (by omega) ⟨by decide, by decide⟩ hl.1 (Nat.le_of_ble_eq_true rfl) ⟨Nat.le_refl _, Nat.le_refl _⟩ dX2_remove_46 (fun H locs X => ?_)
    refine lv_aload_n C.hx C.hb dX2_remove_49 rfl (lv_at hl 2 rfl) ?_
    refine x2g_7 C X dX2_remove_50 ?_
    refine lv_iload C.hx C.hb dX2_remove_53 (lv_at hl 0 rfl) ?_
    refine lv_iconst (v := (-1)) C.hx C.hb dX2_remove_55 (by decide) ?_
    refine x2_raiseDn_4 C X (q := 1) (by decide) (by omega) (by omega) (by omega) ⟨by decide, by decide⟩ hl.1 (Nat.le_of_ble_eq_true rfl) ⟨Nat.le_refl _, Nat.le_refl _⟩ dX2_remove_56 (fun H locs X => ?_)
    refine lv_aload_n C.hx C.hb dX2_remove_59 rfl (lv_at hl 2 rfl) ?_
    refine x2g_7 C X dX2_remove_60 ?_
    refine lv_iload C.hx C.hb dX2_remove_63 (lv_at hl 0 rfl) ?_
    refine x2_intAt_4 C X (by omega) ⟨by decide, by decide⟩ hl.1 (Nat.le_of_ble_eq_true rfl) ⟨Nat.le_refl _, Nat.le_refl _⟩ dX2_remove_65 ?_
    refine n_if_ne (tgt := 88) C dX2_remove_68 (by decide) (by omega) (fun c68 => ?_) (fun c68 => ?_)
    · refine lv_iconst (v := nI (1)) C.hx C.hb dX2_remove_88 (by decide) ?_
      exact ret2_i C X (⟨rfl, rfl, rfl, rfl, rfl, rfl, rfl, rfl⟩) dX2_remove_89
    · refine lv_aload_n C.hx C.hb dX2_remove_71 rfl (lv_at hl 2 rfl) ?_
      refine x2g_7 C X dX2_remove_72 ?_
      refine x2s_4 C X dX2_remove_75 ?_
      refine lv_iconst (v := nI (1)) C.hx C.hb dX2_remove_78 (by decide) ?_
      refine n_icmp_le (tgt := 88) C dX2_remove_79 (by decide) (by omega) (by omega) (fun c79 => ?_) (fun c79 => ?_)
      · refine lv_iconst (v := nI (1)) C.hx C.hb dX2_remove_88 (by decide) ?_
        exact ret2_i C X (⟨rfl, rfl, rfl, rfl, rfl, rfl, rfl, rfl⟩) dX2_remove_89
      · omega
  · exact absurd c18 (nI_m1 (by omega))
set_option maxHeartbeats 4000000 in
set_option maxRecDepth 100000 in
/-- remove -/
theorem c2_remove_d {l : Launch} {E : Gq} {z : Nat → Nat} {v : Nat → Int32} {kd : Nat} {K : List Int64} {L N S P : List Nat} {key : Int64} (hv11 : v 11 = nI 0) (hh : hask K key) (hJ : J2 K L N S P) (hone : 1 ≤ S.getD (gOf S (ngt K key - 1)) 0) (hdrop : S.getD (gOf S (ngt K key - 1)) 0 - 1 = 0 ∧ 1 < S.length) : M2w l E yX2_remove cX2_remove 5 (some .int) 3 [.ref (z 0), .long (key)] z v kd K L N S P (fun r v' kd' K' L' N' S' P' => some (.int (nI 1)) = r ∧ v = v' ∧ kd = kd' ∧ del K (ngt K key - 1) = K' ∧ del L (ngt K key - 1) = L' ∧ del N (gOf S (ngt K key - 1)) = N' ∧ del (S.set (gOf S (ngt K key - 1)) (S.getD (gOf S (ngt K key - 1)) 0 - 1)) (gOf S (ngt K key - 1)) = S' ∧ drp P (gOf P (gOf S (ngt K key - 1))) = P') := by
  intro f hf
  obtain ⟨b1, b2, b3, b4, b5⟩ := hf.lens
  refine mk_w (by decide) (Nat.le_of_ble_eq_true rfl) ?_
  intro p e s m below meth c ls C Wd hl
  have X : X2w E _ z v kd K L N S P s s.heap [] := ⟨f, Wd, hf⟩
  have hl : lv_has ls 5 [(0, .ref (z 0)), (1, .long (key))] := hl
  obtain ⟨j1, j2, j3, j4, j5, j6, j7, j8⟩ := id hJ
  obtain ⟨k1, k2, k3, k4⟩ := hJ.b
  have hng := ngt_le K key
  have hgo := gOf_lt (L := S) (m := ngt K key - 1) j5
  have hh1 := hh.1
  have hge := getD_set_self (x := S.getD (gOf S (ngt K key - 1)) 0 - 1) hgo
  have hsl : (S.set (gOf S (ngt K key - 1)) (S.getD (gOf S (ngt K key - 1)) 0 - 1)).length = S.length := List.length_set ..
  have hq := getD_le S (gOf S (ngt K key - 1))
  have har := gOf_lt (L := P) (m := (gOf S (ngt K key - 1))) k2
  have hp1 := j6 _ (getD_mem har)
  refine lv_aload_n C.hx C.hb dX2_remove_0 rfl (lv_at hl 0 rfl) ?_
  refine x2g_11 C X (x := nI (0)) hv11 dX2_remove_1 ?_
  refine n_if_eq (tgt := 10) C dX2_remove_4 (by decide) (by decide) (fun _ => ?_) (fun h => absurd h (by decide))
  refine lv_aload_n C.hx C.hb dX2_remove_10 rfl (lv_at hl 0 rfl) ?_
  refine lv_lload_n C.hx C.hb dX2_remove_11 rfl (lv_at hl 1 rfl) ?_
  refine x2_cr (As := [.long (key)]) (rest := []) C X (c2_positionOf (key := key)) wy_X2_positionOf ts_6 tw_137 rfl ⟨by decide, by decide⟩ rfl hl.1 rfl (Nat.le_of_ble_eq_true rfl) ⟨Nat.le_refl _, Nat.le_refl _⟩ dX2_remove_12 (fun r hp => ?_)
  subst hp
  refine W.eq (g2 := F0 m 15 ls [.int (pof K key)]) rfl ?_
  refine n_re (pof_y hh) ?_
  refine lv_istore_n (lv' := [(3, .int (nI (ngt K key - 1))), (0, .ref (z 0)), (1, .long (key))]) C.hx C.hb dX2_remove_15 rfl hl (by decide) rfl (fun ls hl => ?_)
  refine lv_iload_n C.hx C.hb dX2_remove_16 rfl (lv_at hl 0 rfl) ?_
  refine lv_iconst (v := (-1)) C.hx C.hb dX2_remove_17 (by decide) ?_
  refine lv_icmp_ne (tgt := 23) C.hx C.hb dX2_remove_18 (by decide) (fun c18 => ?_) (fun c18 => ?_)
  · refine lv_aload_n C.hx C.hb dX2_remove_23 rfl (lv_at hl 1 rfl) ?_
    refine x2g_7 C X dX2_remove_24 ?_
    refine lv_iload_n C.hx C.hb dX2_remove_27 rfl (lv_at hl 0 rfl) ?_
    refine x2_groupOf_4 C X (by omega) (by omega) ⟨by decide, by decide⟩ hl.1 (Nat.le_of_ble_eq_true rfl) ⟨Nat.le_refl _, Nat.le_refl _⟩ dX2_remove_28 ?_
    refine lv_istore (lv' := [(4, .int (nI (gOf S (ngt K key - 1)))), (3, .int (nI (ngt K key - 1))), (0, .ref (z 0)), (1, .long (key))]) C.hx C.hb dX2_remove_31 hl (by decide) rfl (fun ls hl => ?_)
    refine lv_aload_n C.hx C.hb dX2_remove_33 rfl (lv_at hl 2 rfl) ?_
    refine x2g_4 C X dX2_remove_34 ?_
    refine lv_iload_n C.hx C.hb dX2_remove_37 rfl (lv_at hl 1 rfl) ?_
    refine x2_deleteAt_1 C X (by omega) ⟨by decide, by decide⟩ hl.1 (Nat.le_of_ble_eq_true rfl) ⟨Nat.le_refl _, Nat.le_refl _⟩ dX2_remove_38 (fun H locs X => ?_)
    refine lv_aload_n C.hx C.hb dX2_remove_41 rfl (lv_at hl 2 rfl) ?_
    refine x2g_5 C X dX2_remove_42 ?_
    refine lv_iload_n C.hx C.hb dX2_remove_45 rfl (lv_at hl 1 rfl) ?_
    refine x2_deleteAt_2 C X (by omega) ⟨by decide, by decide⟩ hl.1 (Nat.le_of_ble_eq_true rfl) ⟨Nat.le_refl _, Nat.le_refl _⟩ dX2_remove_46 (fun H locs X => ?_)
    refine lv_aload_n C.hx C.hb dX2_remove_49 rfl (lv_at hl 2 rfl) ?_
    refine x2g_7 C X dX2_remove_50 ?_
    refine lv_iload C.hx C.hb dX2_remove_53 (lv_at hl 0 rfl) ?_
    refine lv_iconst (v := (-1)) C.hx C.hb dX2_remove_55 (by decide) ?_
    refine x2_raiseDn_4 C X (q := 1) (by decide) (by omega) (by omega) (by omega) ⟨by decide, by decide⟩ hl.1 (Nat.le_of_ble_eq_true rfl) ⟨Nat.le_refl _, Nat.le_refl _⟩ dX2_remove_56 (fun H locs X => ?_)
    refine lv_aload_n C.hx C.hb dX2_remove_59 rfl (lv_at hl 2 rfl) ?_
    refine x2g_7 C X dX2_remove_60 ?_
    refine lv_iload C.hx C.hb dX2_remove_63 (lv_at hl 0 rfl) ?_
    refine x2_intAt_4 C X (by omega) ⟨by decide, by decide⟩ hl.1 (Nat.le_of_ble_eq_true rfl) ⟨Nat.le_refl _, Nat.le_refl _⟩ dX2_remove_65 ?_
    refine n_if_ne (tgt := 88) C dX2_remove_68 (by decide) (by omega) (fun c68 => ?_) (fun c68 => ?_)
    · omega
    · refine lv_aload_n C.hx C.hb dX2_remove_71 rfl (lv_at hl 2 rfl) ?_
      refine x2g_7 C X dX2_remove_72 ?_
      refine x2s_4 C X dX2_remove_75 ?_
      refine lv_iconst (v := nI (1)) C.hx C.hb dX2_remove_78 (by decide) ?_
      refine n_icmp_le (tgt := 88) C dX2_remove_79 (by decide) (by omega) (by omega) (fun c79 => ?_) (fun c79 => ?_)
      · omega
      · refine lv_aload_n C.hx C.hb dX2_remove_82 rfl (lv_at hl 2 rfl) ?_
        refine lv_iload C.hx C.hb dX2_remove_83 (lv_at hl 0 rfl) ?_
        refine x2_cw (As := [.int (nI (gOf S (ngt K key - 1)))]) (rest := []) C X (c2_dropInterval (i := (gOf S (ngt K key - 1))) (by omega) (by omega) (by omega) (by omega) (by omega)) wy_X2_dropInterval ts_21 tw_214 rfl ⟨by decide, by decide⟩ rfl hl.1 rfl (Nat.le_of_ble_eq_true rfl) ⟨Nat.le_refl _, Nat.le_refl _⟩ dX2_remove_85 (fun r v' kd' K' L' N' S' P' H locs hp X => ?_)
        obtain ⟨rfl, rfl, rfl, rfl, rfl, rfl, rfl, rfl⟩ := hp
        refine W.eq (g2 := F0 m 88 ls []) rfl ?_
        refine lv_iconst (v := nI (1)) C.hx C.hb dX2_remove_88 (by decide) ?_
        exact ret2_i C X (⟨rfl, rfl, rfl, rfl, rfl, rfl, rfl, rfl⟩) dX2_remove_89
  · exact absurd c18 (nI_m1 (by omega))
