theorem upd_same {v : Nat → Int32} {k : Nat} {x : Int32} (h : v k = x) : upd v k x = v := by
  funext j
  unfold upd
  by_cases e : j = k
  · rw [if_pos e, e]; exact h.symm
  · rw [if_neg e]
/-- a cut ahead of write tc of a split of kind k: whether it uses a number up, whether it has its row -/
def cbump (tc k : Nat) : Nat := if 2 < tc ∧ k ≠ 2 then 1 else 0
def crow (tc : Nat) : Nat := if 3 < tc then 1 else 0
def vClose (v : Nat → Int32) (nx tc k i : Nat) : Nat → Int32 := upd (upd (upd (upd (upd v 9 (nI (nx + cbump tc k))) 12 (nI (crow tc))) 14 (nI i)) 10 (nI 0)) 11 (nI 1)
set_option maxHeartbeats 4000000 in
set_option maxRecDepth 100000 in
/-- closed ahead of a write -/
theorem c2_closeAhead {l : Launch} {E : Gq} {z : Nat → Nat} {v : Nat → Int32} {kd : Nat} {K : List Int64} {L N S P : List Nat} {nx tc k i : Nat} (hv9 : v 9 = nI nx) (hv10 : v 10 = nI tc) (htc : tc ≤ 4) (hk : k < 3) : M2w l E yX2_closeAhead cX2_closeAhead 3 none 0 [.ref (z 0), .ref (E.2.2.2 k), .int (nI (i))] z v kd K L N S P (fun r v' kd' K' L' N' S' P' => none = r ∧ vClose v nx tc k i = v' ∧ k = kd' ∧ K = K' ∧ L = L' ∧ N = N' ∧ S = S' ∧ P = P') := by
  intro f hf
  obtain ⟨b1, b2, b3, b4, b5⟩ := hf.lens
  refine mk_w (by decide) (Nat.le_of_ble_eq_true rfl) ?_
  intro p e s m below meth c ls C Wd hl
  have X : X2w E _ z v kd K L N S P s s.heap [] := ⟨f, Wd, hf⟩
  have hl : lv_has ls 3 [(0, .ref (z 0)), (1, .ref (E.2.2.2 k)), (2, .int (nI (i)))] := hl
  refine lv_aload_n C.hx C.hb dX2_closeAhead_0 rfl (lv_at hl 0 rfl) ?_
  refine x2g_10 C X (x := nI (tc)) hv10 dX2_closeAhead_1 ?_
  refine lv_iconst (v := nI (2)) C.hx C.hb dX2_closeAhead_4 (by decide) ?_
  refine n_icmp_le (tgt := 25) C dX2_closeAhead_5 (by decide) (by omega) (by omega) (fun c5 => ?_) (fun c5 => ?_)
  · refine lv_aload_n C.hx C.hb dX2_closeAhead_25 rfl (lv_at hl 0 rfl) ?_
    refine lv_aload_n C.hx C.hb dX2_closeAhead_26 rfl (lv_at hl 0 rfl) ?_
    refine x2g_10 C X (x := nI (tc)) hv10 dX2_closeAhead_27 ?_
    refine lv_iconst (v := nI (3)) C.hx C.hb dX2_closeAhead_30 (by decide) ?_
    refine n_icmp_le (tgt := 38) C dX2_closeAhead_31 (by decide) (by omega) (by omega) (fun c31 => ?_) (fun c31 => ?_)
    · refine lv_iconst (v := nI (0)) C.hx C.hb dX2_closeAhead_38 (by decide) ?_
      refine x2p_12 C X (by decide) (by decide) dX2_closeAhead_39 (fun H locs X => ?_)
      refine lv_aload_n C.hx C.hb dX2_closeAhead_42 rfl (lv_at hl 0 rfl) ?_
      refine lv_aload_n C.hx C.hb dX2_closeAhead_43 rfl (lv_at hl 1 rfl) ?_
      refine x2p_13 C X dX2_closeAhead_44 (fun H locs X => ?_)
      refine lv_aload_n C.hx C.hb dX2_closeAhead_47 rfl (lv_at hl 0 rfl) ?_
      refine lv_iload_n C.hx C.hb dX2_closeAhead_48 rfl (lv_at hl 2 rfl) ?_
      refine x2p_14 C X dX2_closeAhead_49 (fun H locs X => ?_)
      refine lv_aload_n C.hx C.hb dX2_closeAhead_52 rfl (lv_at hl 0 rfl) ?_
      refine lv_iconst (v := nI (0)) C.hx C.hb dX2_closeAhead_53 (by decide) ?_
      refine x2p_10 C X dX2_closeAhead_54 (fun H locs X => ?_)
      refine lv_aload_n C.hx C.hb dX2_closeAhead_57 rfl (lv_at hl 0 rfl) ?_
      refine lv_iconst (v := nI (1)) C.hx C.hb dX2_closeAhead_58 (by decide) ?_
      refine x2p_11 C X (by decide) (by decide) dX2_closeAhead_59 (fun H locs X => ?_)
      exact ret2_v C X (⟨rfl, by have e1 : cbump tc k = 0 := (by unfold cbump; rw [if_neg (fun h => by omega)]); have e2 : crow tc = 0 := (by unfold crow; rw [if_neg (by omega)]); unfold vClose; rw [e1, e2, Nat.add_zero, upd_same hv9], rfl, rfl, rfl, rfl, rfl, rfl⟩) dX2_closeAhead_62
    · refine lv_iconst (v := nI (1)) C.hx C.hb dX2_closeAhead_34 (by decide) ?_
      refine lv_goto (tgt := 39) C.hx C.hb dX2_closeAhead_35 (by decide) ?_
      refine x2p_12 C X (by decide) (by decide) dX2_closeAhead_39 (fun H locs X => ?_)
      refine lv_aload_n C.hx C.hb dX2_closeAhead_42 rfl (lv_at hl 0 rfl) ?_
      refine lv_aload_n C.hx C.hb dX2_closeAhead_43 rfl (lv_at hl 1 rfl) ?_
      refine x2p_13 C X dX2_closeAhead_44 (fun H locs X => ?_)
      refine lv_aload_n C.hx C.hb dX2_closeAhead_47 rfl (lv_at hl 0 rfl) ?_
      refine lv_iload_n C.hx C.hb dX2_closeAhead_48 rfl (lv_at hl 2 rfl) ?_
      refine x2p_14 C X dX2_closeAhead_49 (fun H locs X => ?_)
      refine lv_aload_n C.hx C.hb dX2_closeAhead_52 rfl (lv_at hl 0 rfl) ?_
      refine lv_iconst (v := nI (0)) C.hx C.hb dX2_closeAhead_53 (by decide) ?_
      refine x2p_10 C X dX2_closeAhead_54 (fun H locs X => ?_)
      refine lv_aload_n C.hx C.hb dX2_closeAhead_57 rfl (lv_at hl 0 rfl) ?_
      refine lv_iconst (v := nI (1)) C.hx C.hb dX2_closeAhead_58 (by decide) ?_
      refine x2p_11 C X (by decide) (by decide) dX2_closeAhead_59 (fun H locs X => ?_)
      exact ret2_v C X (⟨rfl, by have e1 : cbump tc k = 0 := (by unfold cbump; rw [if_neg (fun h => by omega)]); have e2 : crow tc = 1 := (by unfold crow; rw [if_pos (by omega)]); unfold vClose; rw [e1, e2, Nat.add_zero, upd_same hv9], rfl, rfl, rfl, rfl, rfl, rfl⟩) dX2_closeAhead_62
  · refine lv_aload_n C.hx C.hb dX2_closeAhead_8 rfl (lv_at hl 1 rfl) ?_
    refine x2_kind_2 C X dX2_closeAhead_9 ?_
    refine x2_acmp_eq (tgt := 25) C (i := k) (j := 2) hk (by decide) dX2_closeAhead_12 (by decide) (fun c12 => ?_) (fun c12 => ?_)
    · refine lv_aload_n C.hx C.hb dX2_closeAhead_25 rfl (lv_at hl 0 rfl) ?_
      refine lv_aload_n C.hx C.hb dX2_closeAhead_26 rfl (lv_at hl 0 rfl) ?_
      refine x2g_10 C X (x := nI (tc)) hv10 dX2_closeAhead_27 ?_
      refine lv_iconst (v := nI (3)) C.hx C.hb dX2_closeAhead_30 (by decide) ?_
      refine n_icmp_le (tgt := 38) C dX2_closeAhead_31 (by decide) (by omega) (by omega) (fun c31 => ?_) (fun c31 => ?_)
      · refine lv_iconst (v := nI (0)) C.hx C.hb dX2_closeAhead_38 (by decide) ?_
        refine x2p_12 C X (by decide) (by decide) dX2_closeAhead_39 (fun H locs X => ?_)
        refine lv_aload_n C.hx C.hb dX2_closeAhead_42 rfl (lv_at hl 0 rfl) ?_
        refine lv_aload_n C.hx C.hb dX2_closeAhead_43 rfl (lv_at hl 1 rfl) ?_
        refine x2p_13 C X dX2_closeAhead_44 (fun H locs X => ?_)
        refine lv_aload_n C.hx C.hb dX2_closeAhead_47 rfl (lv_at hl 0 rfl) ?_
        refine lv_iload_n C.hx C.hb dX2_closeAhead_48 rfl (lv_at hl 2 rfl) ?_
        refine x2p_14 C X dX2_closeAhead_49 (fun H locs X => ?_)
        refine lv_aload_n C.hx C.hb dX2_closeAhead_52 rfl (lv_at hl 0 rfl) ?_
        refine lv_iconst (v := nI (0)) C.hx C.hb dX2_closeAhead_53 (by decide) ?_
        refine x2p_10 C X dX2_closeAhead_54 (fun H locs X => ?_)
        refine lv_aload_n C.hx C.hb dX2_closeAhead_57 rfl (lv_at hl 0 rfl) ?_
        refine lv_iconst (v := nI (1)) C.hx C.hb dX2_closeAhead_58 (by decide) ?_
        refine x2p_11 C X (by decide) (by decide) dX2_closeAhead_59 (fun H locs X => ?_)
        exact ret2_v C X (⟨rfl, by have e1 : cbump tc k = 0 := (by unfold cbump; rw [if_neg (fun h => by omega)]); have e2 : crow tc = 0 := (by unfold crow; rw [if_neg (by omega)]); unfold vClose; rw [e1, e2, Nat.add_zero, upd_same hv9], rfl, rfl, rfl, rfl, rfl, rfl⟩) dX2_closeAhead_62
      · refine lv_iconst (v := nI (1)) C.hx C.hb dX2_closeAhead_34 (by decide) ?_
        refine lv_goto (tgt := 39) C.hx C.hb dX2_closeAhead_35 (by decide) ?_
        refine x2p_12 C X (by decide) (by decide) dX2_closeAhead_39 (fun H locs X => ?_)
        refine lv_aload_n C.hx C.hb dX2_closeAhead_42 rfl (lv_at hl 0 rfl) ?_
        refine lv_aload_n C.hx C.hb dX2_closeAhead_43 rfl (lv_at hl 1 rfl) ?_
        refine x2p_13 C X dX2_closeAhead_44 (fun H locs X => ?_)
        refine lv_aload_n C.hx C.hb dX2_closeAhead_47 rfl (lv_at hl 0 rfl) ?_
        refine lv_iload_n C.hx C.hb dX2_closeAhead_48 rfl (lv_at hl 2 rfl) ?_
        refine x2p_14 C X dX2_closeAhead_49 (fun H locs X => ?_)
        refine lv_aload_n C.hx C.hb dX2_closeAhead_52 rfl (lv_at hl 0 rfl) ?_
        refine lv_iconst (v := nI (0)) C.hx C.hb dX2_closeAhead_53 (by decide) ?_
        refine x2p_10 C X dX2_closeAhead_54 (fun H locs X => ?_)
        refine lv_aload_n C.hx C.hb dX2_closeAhead_57 rfl (lv_at hl 0 rfl) ?_
        refine lv_iconst (v := nI (1)) C.hx C.hb dX2_closeAhead_58 (by decide) ?_
        refine x2p_11 C X (by decide) (by decide) dX2_closeAhead_59 (fun H locs X => ?_)
        exact ret2_v C X (⟨rfl, by have e1 : cbump tc k = 0 := (by unfold cbump; rw [if_neg (fun h => by omega)]); have e2 : crow tc = 1 := (by unfold crow; rw [if_pos (by omega)]); unfold vClose; rw [e1, e2, Nat.add_zero, upd_same hv9], rfl, rfl, rfl, rfl, rfl, rfl⟩) dX2_closeAhead_62
    · refine lv_aload_n C.hx C.hb dX2_closeAhead_15 rfl (lv_at hl 0 rfl) ?_
      refine lv_dup C.hx C.hb dX2_closeAhead_16 rfl ?_
      refine x2g_9 C X (x := nI (nx)) hv9 dX2_closeAhead_17 ?_
      refine lv_iconst (v := nI (1)) C.hx C.hb dX2_closeAhead_20 (by decide) ?_
      refine n_add C dX2_closeAhead_21 ?_
      refine x2p_9 C X dX2_closeAhead_22 (fun H locs X => ?_)
      refine lv_aload_n C.hx C.hb dX2_closeAhead_25 rfl (lv_at hl 0 rfl) ?_
      refine lv_aload_n C.hx C.hb dX2_closeAhead_26 rfl (lv_at hl 0 rfl) ?_
      refine x2g_10 C X (x := nI (tc)) hv10 dX2_closeAhead_27 ?_
      refine lv_iconst (v := nI (3)) C.hx C.hb dX2_closeAhead_30 (by decide) ?_
      refine n_icmp_le (tgt := 38) C dX2_closeAhead_31 (by decide) (by omega) (by omega) (fun c31 => ?_) (fun c31 => ?_)
      · refine lv_iconst (v := nI (0)) C.hx C.hb dX2_closeAhead_38 (by decide) ?_
        refine x2p_12 C X (by decide) (by decide) dX2_closeAhead_39 (fun H locs X => ?_)
        refine lv_aload_n C.hx C.hb dX2_closeAhead_42 rfl (lv_at hl 0 rfl) ?_
        refine lv_aload_n C.hx C.hb dX2_closeAhead_43 rfl (lv_at hl 1 rfl) ?_
        refine x2p_13 C X dX2_closeAhead_44 (fun H locs X => ?_)
        refine lv_aload_n C.hx C.hb dX2_closeAhead_47 rfl (lv_at hl 0 rfl) ?_
        refine lv_iload_n C.hx C.hb dX2_closeAhead_48 rfl (lv_at hl 2 rfl) ?_
        refine x2p_14 C X dX2_closeAhead_49 (fun H locs X => ?_)
        refine lv_aload_n C.hx C.hb dX2_closeAhead_52 rfl (lv_at hl 0 rfl) ?_
        refine lv_iconst (v := nI (0)) C.hx C.hb dX2_closeAhead_53 (by decide) ?_
        refine x2p_10 C X dX2_closeAhead_54 (fun H locs X => ?_)
        refine lv_aload_n C.hx C.hb dX2_closeAhead_57 rfl (lv_at hl 0 rfl) ?_
        refine lv_iconst (v := nI (1)) C.hx C.hb dX2_closeAhead_58 (by decide) ?_
        refine x2p_11 C X (by decide) (by decide) dX2_closeAhead_59 (fun H locs X => ?_)
        exact ret2_v C X (⟨rfl, by have e1 : cbump tc k = 1 := (by unfold cbump; rw [if_pos ⟨by omega, by omega⟩]); have e2 : crow tc = 0 := (by unfold crow; rw [if_neg (by omega)]); unfold vClose; rw [e1, e2], rfl, rfl, rfl, rfl, rfl, rfl⟩) dX2_closeAhead_62
      · refine lv_iconst (v := nI (1)) C.hx C.hb dX2_closeAhead_34 (by decide) ?_
        refine lv_goto (tgt := 39) C.hx C.hb dX2_closeAhead_35 (by decide) ?_
        refine x2p_12 C X (by decide) (by decide) dX2_closeAhead_39 (fun H locs X => ?_)
        refine lv_aload_n C.hx C.hb dX2_closeAhead_42 rfl (lv_at hl 0 rfl) ?_
        refine lv_aload_n C.hx C.hb dX2_closeAhead_43 rfl (lv_at hl 1 rfl) ?_
        refine x2p_13 C X dX2_closeAhead_44 (fun H locs X => ?_)
        refine lv_aload_n C.hx C.hb dX2_closeAhead_47 rfl (lv_at hl 0 rfl) ?_
        refine lv_iload_n C.hx C.hb dX2_closeAhead_48 rfl (lv_at hl 2 rfl) ?_
        refine x2p_14 C X dX2_closeAhead_49 (fun H locs X => ?_)
        refine lv_aload_n C.hx C.hb dX2_closeAhead_52 rfl (lv_at hl 0 rfl) ?_
        refine lv_iconst (v := nI (0)) C.hx C.hb dX2_closeAhead_53 (by decide) ?_
        refine x2p_10 C X dX2_closeAhead_54 (fun H locs X => ?_)
        refine lv_aload_n C.hx C.hb dX2_closeAhead_57 rfl (lv_at hl 0 rfl) ?_
        refine lv_iconst (v := nI (1)) C.hx C.hb dX2_closeAhead_58 (by decide) ?_
        refine x2p_11 C X (by decide) (by decide) dX2_closeAhead_59 (fun H locs X => ?_)
        exact ret2_v C X (⟨rfl, by have e1 : cbump tc k = 1 := (by unfold cbump; rw [if_pos ⟨by omega, by omega⟩]); have e2 : crow tc = 1 := (by unfold crow; rw [if_pos (by omega)]); unfold vClose; rw [e1, e2], rfl, rfl, rfl, rfl, rfl, rfl⟩) dX2_closeAhead_62
def drp (P : List Nat) (a : Nat) : List Nat := if P.getD a 0 - 1 = 0 then del (P.set a (P.getD a 0 - 1)) a else P.set a (P.getD a 0 - 1)
theorem getD_set_self {P : List Nat} {a x : Nat} (h : a < P.length) : (P.set a x).getD a 0 = x := by simp [List.getD_eq_getElem?_getD, h]
theorem getD_set_ne {P : List Nat} {a b x : Nat} (h : a ≠ b) : (P.set a x).getD b 0 = P.getD b 0 := by simp [List.getD_eq_getElem?_getD, List.getElem?_set, h]
set_option maxHeartbeats 4000000 in
set_option maxRecDepth 100000 in
/-- an interval goes -/
theorem c2_dropInterval {l : Launch} {E : Gq} {z : Nat → Nat} {v : Nat → Int32} {kd : Nat} {K : List Int64} {L N S P : List Nat} {i : Nat} (hi : i < N.length) (hi2 : i < S.length) (hP : P.sum ≤ 2 ^ 20) (hp0 : 0 < P.length) (hone : 1 ≤ P.getD (gOf P i) 0) : M2w l E yX2_dropInterval cX2_dropInterval 3 none 2 [.ref (z 0), .int (nI (i))] z v kd K L N S P (fun r v' kd' K' L' N' S' P' => none = r ∧ v = v' ∧ kd = kd' ∧ K = K' ∧ L = L' ∧ del N i = N' ∧ del S i = S' ∧ drp P (gOf P i) = P') := by
  intro f hf
  obtain ⟨b1, b2, b3, b4, b5⟩ := hf.lens
  refine mk_w (by decide) (Nat.le_of_ble_eq_true rfl) ?_
  intro p e s m below meth c ls C Wd hl
  have X : X2w E _ z v kd K L N S P s s.heap [] := ⟨f, Wd, hf⟩
  have hl : lv_has ls 3 [(0, .ref (z 0)), (1, .int (nI (i)))] := hl
  have har := gOf_lt (L := P) (m := i) hp0
  have hge := getD_set_self (x := P.getD (gOf P i) 0 - 1) har
  have hsl : (P.set (gOf P i) (P.getD (gOf P i) 0 - 1)).length = P.length := List.length_set ..
  have hq := getD_le P (gOf P i)
  refine lv_aload_n C.hx C.hb dX2_dropInterval_0 rfl (lv_at hl 0 rfl) ?_
  refine x2g_8 C X dX2_dropInterval_1 ?_
  refine lv_iload_n C.hx C.hb dX2_dropInterval_4 rfl (lv_at hl 1 rfl) ?_
  refine x2_groupOf_5 C X (by omega) (by omega) ⟨by decide, by decide⟩ hl.1 (Nat.le_of_ble_eq_true rfl) ⟨Nat.le_refl _, Nat.le_refl _⟩ dX2_dropInterval_5 ?_
  refine lv_istore_n (lv' := [(2, .int (nI (gOf P i))), (0, .ref (z 0)), (1, .int (nI (i)))]) C.hx C.hb dX2_dropInterval_8 rfl hl (by decide) rfl (fun ls hl => ?_)
  refine lv_aload_n C.hx C.hb dX2_dropInterval_9 rfl (lv_at hl 1 rfl) ?_
  refine x2g_6 C X dX2_dropInterval_10 ?_
  refine lv_iload_n C.hx C.hb dX2_dropInterval_13 rfl (lv_at hl 2 rfl) ?_
  refine x2_deleteAt_3 C X (by omega) ⟨by decide, by decide⟩ hl.1 (Nat.le_of_ble_eq_true rfl) ⟨Nat.le_refl _, Nat.le_refl _⟩ dX2_dropInterval_14 (fun H locs X => ?_)
  refine lv_aload_n C.hx C.hb dX2_dropInterval_17 rfl (lv_at hl 1 rfl) ?_
  refine x2g_7 C X dX2_dropInterval_18 ?_
  refine lv_iload_n C.hx C.hb dX2_dropInterval_21 rfl (lv_at hl 2 rfl) ?_
  refine x2_deleteAt_4 C X (by omega) ⟨by decide, by decide⟩ hl.1 (Nat.le_of_ble_eq_true rfl) ⟨Nat.le_refl _, Nat.le_refl _⟩ dX2_dropInterval_22 (fun H locs X => ?_)
  refine lv_aload_n C.hx C.hb dX2_dropInterval_25 rfl (lv_at hl 1 rfl) ?_
  refine x2g_8 C X dX2_dropInterval_26 ?_
  refine lv_iload_n C.hx C.hb dX2_dropInterval_29 rfl (lv_at hl 0 rfl) ?_
  refine lv_iconst (v := (-1)) C.hx C.hb dX2_dropInterval_30 (by decide) ?_
  refine x2_raiseDn_5 C X (q := 1) (by decide) (by omega) (by omega) (by omega) ⟨by decide, by decide⟩ hl.1 (Nat.le_of_ble_eq_true rfl) ⟨Nat.le_refl _, Nat.le_refl _⟩ dX2_dropInterval_31 (fun H locs X => ?_)
  refine lv_aload_n C.hx C.hb dX2_dropInterval_34 rfl (lv_at hl 1 rfl) ?_
  refine x2g_8 C X dX2_dropInterval_35 ?_
  refine lv_iload_n C.hx C.hb dX2_dropInterval_38 rfl (lv_at hl 0 rfl) ?_
  refine x2_intAt_5 C X (by omega) ⟨by decide, by decide⟩ hl.1 (Nat.le_of_ble_eq_true rfl) ⟨Nat.le_refl _, Nat.le_refl _⟩ dX2_dropInterval_39 ?_
  refine n_if_ne (tgt := 53) C dX2_dropInterval_42 (by decide) (by omega) (fun c42 => ?_) (fun c42 => ?_)
  · exact ret2_v C X (⟨rfl, rfl, rfl, rfl, rfl, rfl, rfl, by unfold drp; rw [if_neg (by omega)]⟩) dX2_dropInterval_53
  · refine lv_aload_n C.hx C.hb dX2_dropInterval_45 rfl (lv_at hl 1 rfl) ?_
    refine x2g_8 C X dX2_dropInterval_46 ?_
    refine lv_iload_n C.hx C.hb dX2_dropInterval_49 rfl (lv_at hl 0 rfl) ?_
    refine x2_deleteAt_5 C X (by omega) ⟨by decide, by decide⟩ hl.1 (Nat.le_of_ble_eq_true rfl) ⟨Nat.le_refl _, Nat.le_refl _⟩ dX2_dropInterval_50 (fun H locs X => ?_)
    exact ret2_v C X (⟨rfl, rfl, rfl, rfl, rfl, rfl, rfl, by unfold drp; rw [if_pos (by omega)]⟩) dX2_dropInterval_53
def lay (P : List Nat) (lw : Nat) : List Nat := if 0 < P.length ∧ P.getD (P.length - 1) 0 < lw then P.set (P.length - 1) (P.getD (P.length - 1) 0 + 1) else ins P P.length 1
set_option maxHeartbeats 4000000 in
set_option maxRecDepth 100000 in
/-- an interval is laid -/
theorem c2_layInterval {l : Launch} {E : Gq} {z : Nat → Nat} {v : Nat → Int32} {kd : Nat} {K : List Int64} {L N S P : List Nat} {nx lw sz : Nat} (hv9 : v 9 = nI nx) (hv3 : v 3 = nI lw) (hlw : lw ≤ 2 ^ 20) (hnx : nx < 2 ^ 31) (hsz : sz < 2 ^ 31) (hN : N.length < 601) (hS : S.length < 601) (hPl : P.length < 601) (hP : P.sum ≤ 2 ^ 20) : M2w l E yX2_layInterval cX2_layInterval 3 none 2 [.ref (z 0), .int (nI (sz))] z v kd K L N S P (fun r v' kd' K' L' N' S' P' => none = r ∧ upd v 9 (nI (nx + 1)) = v' ∧ kd = kd' ∧ K = K' ∧ L = L' ∧ ins N N.length nx = N' ∧ ins S S.length sz = S' ∧ lay P lw = P') := by
  intro f hf
  obtain ⟨b1, b2, b3, b4, b5⟩ := hf.lens
  refine mk_w (by decide) (Nat.le_of_ble_eq_true rfl) ?_
  intro p e s m below meth c ls C Wd hl
  have X : X2w E _ z v kd K L N S P s s.heap [] := ⟨f, Wd, hf⟩
  have hl : lv_has ls 3 [(0, .ref (z 0)), (1, .int (nI (sz)))] := hl
  have hq := getD_le P (P.length - 1)
  rcases Nat.eq_zero_or_pos P.length with h0 | h0
  · refine lv_aload_n C.hx C.hb dX2_layInterval_0 rfl (lv_at hl 0 rfl) ?_
    refine x2g_6 C X dX2_layInterval_1 ?_
    refine lv_aload_n C.hx C.hb dX2_layInterval_4 rfl (lv_at hl 0 rfl) ?_
    refine x2g_6 C X dX2_layInterval_5 ?_
    refine x2s_3 C X dX2_layInterval_8 ?_
    refine lv_aload_n C.hx C.hb dX2_layInterval_11 rfl (lv_at hl 0 rfl) ?_
    refine x2_cw (As := []) (rest := [.int (nI (N.length)), .ref (z 3)]) C X (c2_takeNumber (nx := nx) hv9) wy_X2_takeNumber ts_1 tw_52 rfl ⟨by decide, by decide⟩ rfl hl.1 rfl (Nat.le_of_ble_eq_true rfl) ⟨Nat.le_refl _, Nat.le_refl _⟩ dX2_layInterval_12 (fun r v' kd' K' L' N' S' P' H locs hp X => ?_)
    obtain ⟨rfl, rfl, rfl, rfl, rfl, rfl, rfl, rfl⟩ := hp
    refine W.eq (g2 := F0 m 15 ls [.int (nI (nx)), .int (nI (N.length)), .ref (z 3)]) rfl ?_
    refine lv_i2l (v := lN (nx)) C.hx C.hb dX2_layInterval_15 (nI_l (by omega)) ?_
    refine x2_insertAt_3 C X (by omega) (by omega) ⟨by decide, by decide⟩ hl.1 (Nat.le_of_ble_eq_true rfl) ⟨Nat.le_refl _, Nat.le_refl _⟩ dX2_layInterval_16 (fun H locs X => ?_)
    refine lv_aload_n C.hx C.hb dX2_layInterval_19 rfl (lv_at hl 0 rfl) ?_
    refine x2g_7 C X dX2_layInterval_20 ?_
    refine lv_aload_n C.hx C.hb dX2_layInterval_23 rfl (lv_at hl 0 rfl) ?_
    refine x2g_7 C X dX2_layInterval_24 ?_
    refine x2s_4 C X dX2_layInterval_27 ?_
    refine lv_iload_n C.hx C.hb dX2_layInterval_30 rfl (lv_at hl 1 rfl) ?_
    refine lv_i2l (v := lN (sz)) C.hx C.hb dX2_layInterval_31 (nI_l (by omega)) ?_
    refine x2_insertAt_4 C X (by omega) (by omega) ⟨by decide, by decide⟩ hl.1 (Nat.le_of_ble_eq_true rfl) ⟨Nat.le_refl _, Nat.le_refl _⟩ dX2_layInterval_32 (fun H locs X => ?_)
    refine lv_aload_n C.hx C.hb dX2_layInterval_35 rfl (lv_at hl 0 rfl) ?_
    refine x2g_8 C X dX2_layInterval_36 ?_
    refine x2s_5 C X dX2_layInterval_39 ?_
    refine lv_iconst (v := nI (1)) C.hx C.hb dX2_layInterval_42 (by decide) ?_
    refine lv_isub C.hx C.hb dX2_layInterval_43 ?_
    refine lv_istore_n (lv' := [(2, .int ((nI (P.length)) - (nI (1)))), (0, .ref (z 0)), (1, .int (nI (sz)))]) C.hx C.hb dX2_layInterval_44 rfl hl (by decide) rfl (fun ls hl => ?_)
    refine lv_iload_n C.hx C.hb dX2_layInterval_45 rfl (lv_at hl 0 rfl) ?_
    refine lv_if_lt (tgt := 76) C.hx C.hb dX2_layInterval_46 (by decide) (fun c46 => ?_) (fun c46 => ?_)
    · refine lv_aload_n C.hx C.hb dX2_layInterval_76 rfl (lv_at hl 1 rfl) ?_
      refine x2g_8 C X dX2_layInterval_77 ?_
      refine lv_aload_n C.hx C.hb dX2_layInterval_80 rfl (lv_at hl 1 rfl) ?_
      refine x2g_8 C X dX2_layInterval_81 ?_
      refine x2s_5 C X dX2_layInterval_84 ?_
      refine lv_lconst (v := lN 1) C.hx C.hb dX2_layInterval_87 (by decide) ?_
      refine x2_insertAt_5 C X (by omega) (by omega) ⟨by decide, by decide⟩ hl.1 (Nat.le_of_ble_eq_true rfl) ⟨Nat.le_refl _, Nat.le_refl _⟩ dX2_layInterval_88 (fun H locs X => ?_)
      exact ret2_v C X (⟨rfl, rfl, rfl, rfl, rfl, rfl, rfl, by unfold lay; rw [if_neg (fun h => by omega)]⟩) dX2_layInterval_91
    · exact absurd (by rw [h0]; decide) c46
  · refine lv_aload_n C.hx C.hb dX2_layInterval_0 rfl (lv_at hl 0 rfl) ?_
    refine x2g_6 C X dX2_layInterval_1 ?_
    refine lv_aload_n C.hx C.hb dX2_layInterval_4 rfl (lv_at hl 0 rfl) ?_
    refine x2g_6 C X dX2_layInterval_5 ?_
    refine x2s_3 C X dX2_layInterval_8 ?_
    refine lv_aload_n C.hx C.hb dX2_layInterval_11 rfl (lv_at hl 0 rfl) ?_
    refine x2_cw (As := []) (rest := [.int (nI (N.length)), .ref (z 3)]) C X (c2_takeNumber (nx := nx) hv9) wy_X2_takeNumber ts_1 tw_52 rfl ⟨by decide, by decide⟩ rfl hl.1 rfl (Nat.le_of_ble_eq_true rfl) ⟨Nat.le_refl _, Nat.le_refl _⟩ dX2_layInterval_12 (fun r v' kd' K' L' N' S' P' H locs hp X => ?_)
    obtain ⟨rfl, rfl, rfl, rfl, rfl, rfl, rfl, rfl⟩ := hp
    refine W.eq (g2 := F0 m 15 ls [.int (nI (nx)), .int (nI (N.length)), .ref (z 3)]) rfl ?_
    refine lv_i2l (v := lN (nx)) C.hx C.hb dX2_layInterval_15 (nI_l (by omega)) ?_
    refine x2_insertAt_3 C X (by omega) (by omega) ⟨by decide, by decide⟩ hl.1 (Nat.le_of_ble_eq_true rfl) ⟨Nat.le_refl _, Nat.le_refl _⟩ dX2_layInterval_16 (fun H locs X => ?_)
    refine lv_aload_n C.hx C.hb dX2_layInterval_19 rfl (lv_at hl 0 rfl) ?_
    refine x2g_7 C X dX2_layInterval_20 ?_
    refine lv_aload_n C.hx C.hb dX2_layInterval_23 rfl (lv_at hl 0 rfl) ?_
    refine x2g_7 C X dX2_layInterval_24 ?_
    refine x2s_4 C X dX2_layInterval_27 ?_
    refine lv_iload_n C.hx C.hb dX2_layInterval_30 rfl (lv_at hl 1 rfl) ?_
    refine lv_i2l (v := lN (sz)) C.hx C.hb dX2_layInterval_31 (nI_l (by omega)) ?_
    refine x2_insertAt_4 C X (by omega) (by omega) ⟨by decide, by decide⟩ hl.1 (Nat.le_of_ble_eq_true rfl) ⟨Nat.le_refl _, Nat.le_refl _⟩ dX2_layInterval_32 (fun H locs X => ?_)
    refine lv_aload_n C.hx C.hb dX2_layInterval_35 rfl (lv_at hl 0 rfl) ?_
    refine x2g_8 C X dX2_layInterval_36 ?_
    refine x2s_5 C X dX2_layInterval_39 ?_
    refine lv_iconst (v := nI (1)) C.hx C.hb dX2_layInterval_42 (by decide) ?_
    refine n_sub C dX2_layInterval_43 (by omega) ?_
    refine lv_istore_n (lv' := [(2, .int (nI (P.length - 1))), (0, .ref (z 0)), (1, .int (nI (sz)))]) C.hx C.hb dX2_layInterval_44 rfl hl (by decide) rfl (fun ls hl => ?_)
    refine lv_iload_n C.hx C.hb dX2_layInterval_45 rfl (lv_at hl 0 rfl) ?_
    refine n_if_lt (tgt := 76) C dX2_layInterval_46 (by decide) (by omega) ?_
    refine lv_aload_n C.hx C.hb dX2_layInterval_49 rfl (lv_at hl 1 rfl) ?_
    refine x2g_8 C X dX2_layInterval_50 ?_
    refine lv_iload_n C.hx C.hb dX2_layInterval_53 rfl (lv_at hl 0 rfl) ?_
    refine x2_intAt_5 C X (by omega) ⟨by decide, by decide⟩ hl.1 (Nat.le_of_ble_eq_true rfl) ⟨Nat.le_refl _, Nat.le_refl _⟩ dX2_layInterval_54 ?_
    refine lv_aload_n C.hx C.hb dX2_layInterval_57 rfl (lv_at hl 1 rfl) ?_
    refine x2g_3 C X (x := nI (lw)) hv3 dX2_layInterval_58 ?_
    refine n_icmp_ge (tgt := 76) C dX2_layInterval_61 (by decide) (by omega) (by omega) (fun c61 => ?_) (fun c61 => ?_)
    · refine lv_aload_n C.hx C.hb dX2_layInterval_76 rfl (lv_at hl 1 rfl) ?_
      refine x2g_8 C X dX2_layInterval_77 ?_
      refine lv_aload_n C.hx C.hb dX2_layInterval_80 rfl (lv_at hl 1 rfl) ?_
      refine x2g_8 C X dX2_layInterval_81 ?_
      refine x2s_5 C X dX2_layInterval_84 ?_
      refine lv_lconst (v := lN 1) C.hx C.hb dX2_layInterval_87 (by decide) ?_
      refine x2_insertAt_5 C X (by omega) (by omega) ⟨by decide, by decide⟩ hl.1 (Nat.le_of_ble_eq_true rfl) ⟨Nat.le_refl _, Nat.le_refl _⟩ dX2_layInterval_88 (fun H locs X => ?_)
      exact ret2_v C X (⟨rfl, rfl, rfl, rfl, rfl, rfl, rfl, by unfold lay; rw [if_neg (fun h => by omega)]⟩) dX2_layInterval_91
    · refine lv_aload_n C.hx C.hb dX2_layInterval_64 rfl (lv_at hl 1 rfl) ?_
      refine x2g_8 C X dX2_layInterval_65 ?_
      refine lv_iload_n C.hx C.hb dX2_layInterval_68 rfl (lv_at hl 0 rfl) ?_
      refine lv_iconst (v := nI (1)) C.hx C.hb dX2_layInterval_69 (by decide) ?_
      refine x2_raiseUp_5 C X (by omega) (by omega) ⟨by decide, by decide⟩ hl.1 (Nat.le_of_ble_eq_true rfl) ⟨Nat.le_refl _, Nat.le_refl _⟩ dX2_layInterval_70 (fun H locs X => ?_)
      refine lv_goto (tgt := 91) C.hx C.hb dX2_layInterval_73 (by decide) ?_
      exact ret2_v C X (⟨rfl, rfl, rfl, rfl, rfl, rfl, rfl, by unfold lay; rw [if_pos ⟨by omega, by omega⟩]⟩) dX2_layInterval_91
set_option maxHeartbeats 4000000 in
set_option maxRecDepth 100000 in
theorem l2_kbh {p : Program} {l : Launch} {e : Env} {s : State} {m : MethodId} {args : Array Value} {below : List Frame} {meth : Method} {c : Code} {E : Gq} {A : Nat → Prop} {z : Nat → Nat} {v : Nat → Int32} {kd : Nat} {K : List Int64} {L N S P : List Nat} {a0 most half start : Nat} (C : Cx E p s m args meth c cX2_keptByHalving 7 (some .int) RX2 A) (X : X2w E A z v kd K L N S P s s.heap []) (hL : L.sum ≤ 2 ^ 20) (hst : start ≤ 2 ^ 20) (hm : most ≤ 2 ^ 20) (hh : half ≤ 2 ^ 20) {r0 : Nat} : ∀ (n kept tog : Nat), most ≤ kept + n → kept ≤ 2 ^ 20 + 1 → tog ≤ 2 ^ 20 → kbl L start most half n kept tog = r0 → ∀ ls : Array Slot, lv_has ls 7 [(6, .int (nI tog)), (5, .int (nI kept)), (4, .int (nI half)), (3, .int (nI most)), (2, .int (nI start)), (0, .ref (z 0))] → W p l e (Rm 3 0 0) s m args below meth c s.heap [] 0 0 (MQ below (Qr (fun r => r = some (.int (nI r0)))) args s 0 0 (fun _ => False)) (F0 m 43 ls []) := by
  intro n
  induction n with
  | zero =>
    intro kept tog h1 h2 h3 hr ls hl
    refine lv_iload C.hx C.hb dX2_keptByHalving_43 (lv_at hl 1 rfl) ?_
    refine lv_iload_n C.hx C.hb dX2_keptByHalving_45 rfl (lv_at hl 3 rfl) ?_
    refine n_icmp_ge (tgt := 90) C dX2_keptByHalving_46 (by decide) (by omega) (by omega) (fun c46 => ?_) (fun c46 => ?_)
    · refine lv_iload C.hx C.hb dX2_keptByHalving_90 (lv_at hl 1 rfl) ?_
      exact ret_ir C (by rw [← hr]; rfl) dX2_keptByHalving_92
    · omega
  | succ n ih =>
    intro kept tog h1 h2 h3 hr ls hl
    have hg := getD_le L (start + kept)
    simp only [kbl] at hr
    refine lv_iload C.hx C.hb dX2_keptByHalving_43 (lv_at hl 1 rfl) ?_
    refine lv_iload_n C.hx C.hb dX2_keptByHalving_45 rfl (lv_at hl 3 rfl) ?_
    refine n_icmp_ge (tgt := 90) C dX2_keptByHalving_46 (by decide) (by omega) (by omega) (fun c46 => ?_) (fun c46 => ?_)
    · refine lv_iload C.hx C.hb dX2_keptByHalving_90 (lv_at hl 1 rfl) ?_
      exact ret_ir C (by rw [if_neg (fun h => by omega)] at hr; rw [← hr]) dX2_keptByHalving_92
    · refine lv_iload C.hx C.hb dX2_keptByHalving_49 (lv_at hl 0 rfl) ?_
      refine lv_aload_n C.hx C.hb dX2_keptByHalving_51 rfl (lv_at hl 5 rfl) ?_
      refine x2g_5 C X dX2_keptByHalving_52 ?_
      refine lv_iload_n C.hx C.hb dX2_keptByHalving_55 rfl (lv_at hl 4 rfl) ?_
      refine lv_iload C.hx C.hb dX2_keptByHalving_56 (lv_at hl 1 rfl) ?_
      refine n_add C dX2_keptByHalving_58 ?_
      refine x2_intAt_2 C X (by omega) ⟨by decide, by decide⟩ hl.1 (Nat.le_of_ble_eq_true rfl) ⟨Nat.le_refl _, Nat.le_refl _⟩ dX2_keptByHalving_59 ?_
      refine n_add C dX2_keptByHalving_62 ?_
      refine lv_iload C.hx C.hb dX2_keptByHalving_63 (lv_at hl 2 rfl) ?_
      refine n_icmp_gt (tgt := 90) C dX2_keptByHalving_65 (by decide) (by omega) (by omega) (fun c65 => ?_) (fun c65 => ?_)
      · refine lv_iload C.hx C.hb dX2_keptByHalving_90 (lv_at hl 1 rfl) ?_
        exact ret_ir C (by rw [if_neg (fun h => by omega)] at hr; rw [← hr]) dX2_keptByHalving_92
      · refine lv_iload C.hx C.hb dX2_keptByHalving_68 (lv_at hl 0 rfl) ?_
        refine lv_aload_n C.hx C.hb dX2_keptByHalving_70 rfl (lv_at hl 5 rfl) ?_
        refine x2g_5 C X dX2_keptByHalving_71 ?_
        refine lv_iload_n C.hx C.hb dX2_keptByHalving_74 rfl (lv_at hl 4 rfl) ?_
        refine lv_iload C.hx C.hb dX2_keptByHalving_75 (lv_at hl 1 rfl) ?_
        refine n_add C dX2_keptByHalving_77 ?_
        refine x2_intAt_2 C X (by omega) ⟨by decide, by decide⟩ hl.1 (Nat.le_of_ble_eq_true rfl) ⟨Nat.le_refl _, Nat.le_refl _⟩ dX2_keptByHalving_78 ?_
        refine n_add C dX2_keptByHalving_81 ?_
        refine lv_istore (lv' := [(6, .int (nI (tog + (L.getD (start + kept) 0)))), (5, .int (nI (kept))), (4, .int (nI (half))), (3, .int (nI (most))), (2, .int (nI (start))), (0, .ref (z 0))]) C.hx C.hb dX2_keptByHalving_82 hl (by decide) rfl (fun ls hl => ?_)
        refine lv_iinc (v := nI (kept + 1)) (lv' := [(5, .int (nI (kept + 1))), (6, .int (nI (tog + (L.getD (start + kept) 0)))), (4, .int (nI (half))), (3, .int (nI (most))), (2, .int (nI (start))), (0, .ref (z 0))]) C.hx C.hb dX2_keptByHalving_84 hl (k := 1) rfl (nI_1 _) (by decide) rfl (fun ls hl => ?_)
        refine lv_goto (tgt := 43) C.hx C.hb dX2_keptByHalving_87 (by decide) ?_
        exact ih (kept + 1) (tog + L.getD (start + kept) 0) (by omega) (by omega) (by omega) (by rw [if_pos ⟨by omega, by omega⟩] at hr; exact hr) ls (lv_sub hl [1, 0, 2, 3, 4, 5] rfl)
set_option maxHeartbeats 4000000 in
set_option maxRecDepth 100000 in
/-- how many an interval keeps -/
theorem c2_keptByHalving {l : Launch} {E : Gq} {z : Nat → Nat} {v : Nat → Int32} {kd : Nat} {K : List Int64} {L N S P : List Nat} {i : Nat} (hi : i ≤ 2 ^ 20) (hS : S.sum ≤ 2 ^ 20) (hL : L.sum ≤ 2 ^ 20) (hone : 1 ≤ S.getD i 0) : M2r l E yX2_keptByHalving cX2_keptByHalving 7 (some .int) 3 [.ref (z 0), .int (nI (i))] z v kd K L N S P (fun r => r = some (.int (nI (kbh L S i)))) := by
  intro f hf
  obtain ⟨b1, b2, b3, b4, b5⟩ := hf.lens
  refine mk_r (by decide) (Nat.le_of_ble_eq_true rfl) ?_
  intro p e s m below meth c ls C Wd hl
  have X : X2w E _ z v kd K L N S P s s.heap [] := ⟨f, Wd, hf⟩
  have hl : lv_has ls 7 [(0, .ref (z 0)), (1, .int (nI (i)))] := hl
  have q1 := sm0_get S i
  have q2 : lin L S i ≤ L.sum := sm_le _ _ _
  have q3 := getD_le L (sm S 0 i)
  refine lv_aload_n C.hx C.hb dX2_keptByHalving_0 rfl (lv_at hl 0 rfl) ?_
  refine x2g_7 C X dX2_keptByHalving_1 ?_
  refine lv_iconst (v := nI (0)) C.hx C.hb dX2_keptByHalving_4 (by decide) ?_
  refine lv_iload_n C.hx C.hb dX2_keptByHalving_5 rfl (lv_at hl 1 rfl) ?_
  refine x2_sum_4 C X (by omega) (by omega) ⟨by decide, by decide⟩ hl.1 (Nat.le_of_ble_eq_true rfl) ⟨Nat.le_refl _, Nat.le_refl _⟩ dX2_keptByHalving_6 ?_
  refine lv_istore_n (lv' := [(2, .int (nI (sm S 0 i))), (0, .ref (z 0)), (1, .int (nI (i)))]) C.hx C.hb dX2_keptByHalving_9 rfl hl (by decide) rfl (fun ls hl => ?_)
  refine lv_aload_n C.hx C.hb dX2_keptByHalving_10 rfl (lv_at hl 1 rfl) ?_
  refine x2g_7 C X dX2_keptByHalving_11 ?_
  refine lv_iload_n C.hx C.hb dX2_keptByHalving_14 rfl (lv_at hl 2 rfl) ?_
  refine x2_intAt_4 C X (by omega) ⟨by decide, by decide⟩ hl.1 (Nat.le_of_ble_eq_true rfl) ⟨Nat.le_refl _, Nat.le_refl _⟩ dX2_keptByHalving_15 ?_
  refine lv_iconst (v := nI (1)) C.hx C.hb dX2_keptByHalving_18 (by decide) ?_
  refine n_sub C dX2_keptByHalving_19 (by omega) ?_
  refine lv_istore_n (lv' := [(3, .int (nI ((S.getD i 0) - 1))), (2, .int (nI (sm S 0 i))), (0, .ref (z 0)), (1, .int (nI (i)))]) C.hx C.hb dX2_keptByHalving_20 rfl hl (by decide) rfl (fun ls hl => ?_)
  refine lv_aload_n C.hx C.hb dX2_keptByHalving_21 rfl (lv_at hl 2 rfl) ?_
  refine lv_iload_n C.hx C.hb dX2_keptByHalving_22 rfl (lv_at hl 3 rfl) ?_
  refine x2_cr (As := [.int (nI (i))]) (rest := []) C X (c2_lengthsIn (i := i) (by omega) (by omega)) wy_X2_lengthsIn ts_10 tw_154 rfl ⟨by decide, by decide⟩ rfl hl.1 rfl (Nat.le_of_ble_eq_true rfl) ⟨Nat.le_refl _, Nat.le_refl _⟩ dX2_keptByHalving_23 (fun r hp => ?_)
  subst hp
  refine W.eq (g2 := F0 m 26 ls [.int (nI (lin L S i))]) rfl ?_
  refine lv_iconst (v := nI (2)) C.hx C.hb dX2_keptByHalving_26 (by decide) ?_
  refine n_div C dX2_keptByHalving_27 (by omega) (by omega) (by omega) ?_
  refine lv_istore (lv' := [(4, .int (nI ((lin L S i) / 2))), (3, .int (nI ((S.getD i 0) - 1))), (2, .int (nI (sm S 0 i))), (0, .ref (z 0)), (1, .int (nI (i)))]) C.hx C.hb dX2_keptByHalving_28 hl (by decide) rfl (fun ls hl => ?_)
  refine lv_iconst (v := nI (1)) C.hx C.hb dX2_keptByHalving_30 (by decide) ?_
  refine lv_istore (lv' := [(5, .int (nI (1))), (4, .int (nI ((lin L S i) / 2))), (3, .int (nI ((S.getD i 0) - 1))), (2, .int (nI (sm S 0 i))), (0, .ref (z 0)), (1, .int (nI (i)))]) C.hx C.hb dX2_keptByHalving_31 hl (by decide) rfl (fun ls hl => ?_)
  refine lv_aload_n C.hx C.hb dX2_keptByHalving_33 rfl (lv_at hl 4 rfl) ?_
  refine x2g_5 C X dX2_keptByHalving_34 ?_
  refine lv_iload_n C.hx C.hb dX2_keptByHalving_37 rfl (lv_at hl 3 rfl) ?_
  refine x2_intAt_2 C X (by omega) ⟨by decide, by decide⟩ hl.1 (Nat.le_of_ble_eq_true rfl) ⟨Nat.le_refl _, Nat.le_refl _⟩ dX2_keptByHalving_38 ?_
  refine lv_istore (lv' := [(6, .int (nI (L.getD (sm S 0 i) 0))), (5, .int (nI (1))), (4, .int (nI ((lin L S i) / 2))), (3, .int (nI ((S.getD i 0) - 1))), (2, .int (nI (sm S 0 i))), (0, .ref (z 0)), (1, .int (nI (i)))]) C.hx C.hb dX2_keptByHalving_41 hl (by decide) rfl (fun ls hl => ?_)
  exact l2_kbh (a0 := 0) C X hL (by omega) (by omega) (by omega) (S.getD i 0) 1 _ (by omega) (by omega) (by omega) rfl ls (lv_sub hl [0, 1, 2, 3, 4, 5] rfl)
set_option maxHeartbeats 4000000 in
set_option maxRecDepth 100000 in
/-- an interval splits -/
theorem c2_halveInterval {l : Launch} {E : Gq} {z : Nat → Nat} {v : Nat → Int32} {kd : Nat} {K : List Int64} {L N S P : List Nat} {i num : Nat} (hi : i < S.length) (hN : N.length = S.length) (hSl : S.length < 601) (hS : S.sum ≤ 2 ^ 20) (hL : L.sum ≤ 2 ^ 20) (hP : P.sum ≤ 2 ^ 20) (hp0 : 0 < P.length) (htwo : 2 ≤ S.getD i 0) (hnum : num < 2 ^ 31) : M2w l E yX2_halveInterval cX2_halveInterval 5 none 4 [.ref (z 0), .int (nI (i)), .int (nI (num))] z v kd K L N S P (fun r v' kd' K' L' N' S' P' => none = r ∧ upd v 15 (v 15 + nI 1) = v' ∧ kd = kd' ∧ K = K' ∧ L = L' ∧ ins N (i + 1) num = N' ∧ ins (S.set i (S.getD i 0 - (S.getD i 0 - kbh L S i))) (i + 1) (S.getD i 0 - kbh L S i) = S' ∧ P.set (gOf P i) (P.getD (gOf P i) 0 + 1) = P') := by
  intro f hf
  obtain ⟨b1, b2, b3, b4, b5⟩ := hf.lens
  refine mk_w (by decide) (Nat.le_of_ble_eq_true rfl) ?_
  intro p e s m below meth c ls C Wd hl
  have X : X2w E _ z v kd K L N S P s s.heap [] := ⟨f, Wd, hf⟩
  have hl : lv_has ls 5 [(0, .ref (z 0)), (1, .int (nI (i))), (2, .int (nI (num)))] := hl
  have q1 := getD_le S i
  have q2 : kbh L S i ≤ S.getD i 0 - 1 := kbl_le _ _ _ _ _ _ _ (by omega)
  have har := gOf_lt (L := P) (m := i) hp0
  have hsl : (S.set i (S.getD i 0 - (S.getD i 0 - kbh L S i))).length = S.length := List.length_set ..
  refine lv_aload_n C.hx C.hb dX2_halveInterval_0 rfl (lv_at hl 0 rfl) ?_
  refine lv_iload_n C.hx C.hb dX2_halveInterval_1 rfl (lv_at hl 1 rfl) ?_
  refine x2_cr (As := [.int (nI (i))]) (rest := []) C X (c2_keptByHalving (i := i) (by omega) (by omega) (by omega) (by omega)) wy_X2_keptByHalving ts_19 tw_194 rfl ⟨by decide, by decide⟩ rfl hl.1 rfl (Nat.le_of_ble_eq_true rfl) ⟨Nat.le_refl _, Nat.le_refl _⟩ dX2_halveInterval_2 (fun r hp => ?_)
  subst hp
  refine W.eq (g2 := F0 m 5 ls [.int (nI (kbh L S i))]) rfl ?_
  refine lv_istore_n (lv' := [(3, .int (nI (kbh L S i))), (0, .ref (z 0)), (1, .int (nI (i))), (2, .int (nI (num)))]) C.hx C.hb dX2_halveInterval_5 rfl hl (by decide) rfl (fun ls hl => ?_)
  refine lv_aload_n C.hx C.hb dX2_halveInterval_6 rfl (lv_at hl 1 rfl) ?_
  refine x2g_7 C X dX2_halveInterval_7 ?_
  refine lv_iload_n C.hx C.hb dX2_halveInterval_10 rfl (lv_at hl 2 rfl) ?_
  refine x2_intAt_4 C X (by omega) ⟨by decide, by decide⟩ hl.1 (Nat.le_of_ble_eq_true rfl) ⟨Nat.le_refl _, Nat.le_refl _⟩ dX2_halveInterval_11 ?_
  refine lv_iload_n C.hx C.hb dX2_halveInterval_14 rfl (lv_at hl 0 rfl) ?_
  refine n_sub C dX2_halveInterval_15 (by omega) ?_
  refine lv_istore (lv' := [(4, .int (nI ((S.getD i 0) - (kbh L S i)))), (3, .int (nI (kbh L S i))), (0, .ref (z 0)), (1, .int (nI (i))), (2, .int (nI (num)))]) C.hx C.hb dX2_halveInterval_16 hl (by decide) rfl (fun ls hl => ?_)
  refine lv_aload_n C.hx C.hb dX2_halveInterval_18 rfl (lv_at hl 2 rfl) ?_
  refine x2g_7 C X dX2_halveInterval_19 ?_
  refine lv_iload_n C.hx C.hb dX2_halveInterval_22 rfl (lv_at hl 3 rfl) ?_
  refine lv_iload C.hx C.hb dX2_halveInterval_23 (lv_at hl 0 rfl) ?_
  refine lv_ineg C.hx C.hb dX2_halveInterval_25 ?_
  refine x2_raiseDn_4 C X (q := (S.getD i 0) - (kbh L S i)) rfl (by omega) (by omega) (by omega) ⟨by decide, by decide⟩ hl.1 (Nat.le_of_ble_eq_true rfl) ⟨Nat.le_refl _, Nat.le_refl _⟩ dX2_halveInterval_26 (fun H locs X => ?_)
  refine lv_aload_n C.hx C.hb dX2_halveInterval_29 rfl (lv_at hl 2 rfl) ?_
  refine lv_iload_n C.hx C.hb dX2_halveInterval_30 rfl (lv_at hl 3 rfl) ?_
  refine lv_iconst (v := nI (1)) C.hx C.hb dX2_halveInterval_31 (by decide) ?_
  refine n_add C dX2_halveInterval_32 ?_
  refine lv_aload_n C.hx C.hb dX2_halveInterval_33 rfl (lv_at hl 2 rfl) ?_
  refine x2g_8 C X dX2_halveInterval_34 ?_
  refine lv_iload_n C.hx C.hb dX2_halveInterval_37 rfl (lv_at hl 3 rfl) ?_
  refine x2_groupOf_5 C X (by omega) (by omega) ⟨by decide, by decide⟩ hl.1 (Nat.le_of_ble_eq_true rfl) ⟨Nat.le_refl _, Nat.le_refl _⟩ dX2_halveInterval_38 ?_
  refine lv_iload_n C.hx C.hb dX2_halveInterval_41 rfl (lv_at hl 4 rfl) ?_
  refine lv_iload C.hx C.hb dX2_halveInterval_42 (lv_at hl 0 rfl) ?_
  refine x2_cw (As := [.int (nI (i + 1)), .int (nI (gOf P i)), .int (nI (num)), .int (nI ((S.getD i 0) - (kbh L S i)))]) (rest := []) C X (c2_insertInterval (at_ := (i + 1)) (ar := (gOf P i)) (num := num) (sz := ((S.getD i 0) - (kbh L S i))) (by omega) (by omega) (by omega) (by omega) (by omega) (by omega) (by omega)) wy_X2_insertInterval ts_16 tw_182 rfl ⟨by decide, by decide⟩ rfl hl.1 rfl (Nat.le_of_ble_eq_true rfl) ⟨Nat.le_refl _, Nat.le_refl _⟩ dX2_halveInterval_44 (fun r v' kd' K' L' N' S' P' H locs hp X => ?_)
  obtain ⟨rfl, rfl, rfl, rfl, rfl, rfl, rfl, rfl⟩ := hp
  refine W.eq (g2 := F0 m 47 ls []) rfl ?_
  refine lv_aload_n C.hx C.hb dX2_halveInterval_47 rfl (lv_at hl 2 rfl) ?_
  refine lv_dup C.hx C.hb dX2_halveInterval_48 rfl ?_
  refine x2g_15 C X (x := v 15) rfl dX2_halveInterval_49 ?_
  refine lv_iconst (v := nI (1)) C.hx C.hb dX2_halveInterval_52 (by decide) ?_
  refine lv_iadd C.hx C.hb dX2_halveInterval_53 ?_
  refine x2p_15 C X dX2_halveInterval_54 (fun H locs X => ?_)
  exact ret2_v C X (⟨rfl, rfl, rfl, rfl, rfl, rfl, rfl, rfl⟩) dX2_halveInterval_57
/-- where the interval of its own comes -/
def ownAt (K : List Int64) (S : List Nat) (key : Int64) (i : Nat) : Nat := if K.getD (sm S 0 i) 0 < key then i + 1 else i
set_option maxHeartbeats 4000000 in
set_option maxRecDepth 100000 in
/-- a record gets an interval of its own -/
theorem c2_giveOwnInterval {l : Launch} {E : Gq} {z : Nat → Nat} {v : Nat → Int32} {kd : Nat} {K : List Int64} {L N S P : List Nat} {i len nx : Nat} {key : Int64} (hv9 : v 9 = nI nx) (hnx : nx < 2 ^ 31) (hi : i < S.length) (hN : N.length = S.length) (hSl : S.length < 601) (hS : S.sum ≤ 2 ^ 20) (hP : P.sum ≤ 2 ^ 20) (hp0 : 0 < P.length) (hk : K.length < 600) (hL : L.length = K.length) (hlen : len < 2 ^ 31) : M2w l E yX2_giveOwnInterval cX2_giveOwnInterval 7 none 3 [.ref (z 0), .int (nI (i)), .long (key), .int (nI (len))] z v kd K L N S P (fun r v' kd' K' L' N' S' P' => none = r ∧ upd (upd v 9 (nI (nx + 1))) 15 (v 15 + nI 1) = v' ∧ kd = kd' ∧ ins K (ngt K key) key = K' ∧ ins L (ngt K key) len = L' ∧ ins N (ownAt K S key i) nx = N' ∧ (ins S (ownAt K S key i) 0).set (ownAt K S key i) ((ins S (ownAt K S key i) 0).getD (ownAt K S key i) 0 + 1) = S' ∧ P.set (gOf P i) (P.getD (gOf P i) 0 + 1) = P') := by
  intro f hf
  obtain ⟨b1, b2, b3, b4, b5⟩ := hf.lens
  refine mk_w (by decide) (Nat.le_of_ble_eq_true rfl) ?_
  intro p e s m below meth c ls C Wd hl
  have X : X2w E _ z v kd K L N S P s s.heap [] := ⟨f, Wd, hf⟩
  have hl : lv_has ls 7 [(0, .ref (z 0)), (1, .int (nI (i))), (2, .long (key)), (4, .int (nI (len)))] := hl
  have q1 := sm0_get S i
  have har := gOf_lt (L := P) (m := i) hp0
  have e1 := ins_len (L := S) (j := i + 1) (x := 0) (by omega)
  have e2 := ins_len (L := S) (j := i) (x := 0) (by omega)
  refine lv_lload_n C.hx C.hb dX2_giveOwnInterval_0 rfl (lv_at hl 2 rfl) ?_
  refine lv_aload_n C.hx C.hb dX2_giveOwnInterval_1 rfl (lv_at hl 0 rfl) ?_
  refine x2g_4 C X dX2_giveOwnInterval_2 ?_
  refine lv_aload_n C.hx C.hb dX2_giveOwnInterval_5 rfl (lv_at hl 0 rfl) ?_
  refine x2g_7 C X dX2_giveOwnInterval_6 ?_
  refine lv_iconst (v := nI (0)) C.hx C.hb dX2_giveOwnInterval_9 (by decide) ?_
  refine lv_iload_n C.hx C.hb dX2_giveOwnInterval_10 rfl (lv_at hl 1 rfl) ?_
  refine x2_sum_4 C X (by omega) (by omega) ⟨by decide, by decide⟩ hl.1 (Nat.le_of_ble_eq_true rfl) ⟨Nat.le_refl _, Nat.le_refl _⟩ dX2_giveOwnInterval_11 ?_
  refine x2_at C X ⟨by decide, by decide⟩ hl.1 (Nat.le_of_ble_eq_true rfl) ⟨Nat.le_refl _, Nat.le_refl _⟩ dX2_giveOwnInterval_14 ?_
  refine n_rel (lAt_n (by omega)) ?_
  refine n_lcmp_le (tgt := 25) C dX2_giveOwnInterval_17 dX2_giveOwnInterval_18 (by decide) (fun c17 => ?_) (fun c17 => ?_)
  · refine lv_iconst (v := nI (0)) C.hx C.hb dX2_giveOwnInterval_25 (by decide) ?_
    refine lv_istore (lv' := [(5, .int (nI (0))), (0, .ref (z 0)), (1, .int (nI (i))), (2, .long (key)), (4, .int (nI (len)))]) C.hx C.hb dX2_giveOwnInterval_26 hl (by decide) rfl (fun ls hl => ?_)
    refine lv_iload C.hx C.hb dX2_giveOwnInterval_28 (lv_at hl 0 rfl) ?_
    refine n_if_eq (tgt := 39) C dX2_giveOwnInterval_30 (by decide) (by decide) (fun _ => ?_) (fun h => absurd h (by decide))
    refine lv_iload_n C.hx C.hb dX2_giveOwnInterval_39 rfl (lv_at hl 2 rfl) ?_
    refine lv_istore (lv' := [(6, .int (nI (i))), (5, .int (nI (0))), (0, .ref (z 0)), (1, .int (nI (i))), (2, .long (key)), (4, .int (nI (len)))]) C.hx C.hb dX2_giveOwnInterval_40 hl (by decide) rfl (fun ls hl => ?_)
    refine lv_aload_n C.hx C.hb dX2_giveOwnInterval_42 rfl (lv_at hl 2 rfl) ?_
    refine lv_iload C.hx C.hb dX2_giveOwnInterval_43 (lv_at hl 0 rfl) ?_
    refine lv_aload_n C.hx C.hb dX2_giveOwnInterval_45 rfl (lv_at hl 2 rfl) ?_
    refine x2g_8 C X dX2_giveOwnInterval_46 ?_
    refine lv_iload_n C.hx C.hb dX2_giveOwnInterval_49 rfl (lv_at hl 3 rfl) ?_
    refine x2_groupOf_5 C X (by omega) (by omega) ⟨by decide, by decide⟩ hl.1 (Nat.le_of_ble_eq_true rfl) ⟨Nat.le_refl _, Nat.le_refl _⟩ dX2_giveOwnInterval_50 ?_
    refine lv_aload_n C.hx C.hb dX2_giveOwnInterval_53 rfl (lv_at hl 2 rfl) ?_
    refine x2_cw (As := []) (rest := [.int (nI (gOf P i)), .int (nI (i)), .ref (z 0)]) C X (c2_takeNumber (nx := nx) hv9) wy_X2_takeNumber ts_1 tw_52 rfl ⟨by decide, by decide⟩ rfl hl.1 rfl (Nat.le_of_ble_eq_true rfl) ⟨Nat.le_refl _, Nat.le_refl _⟩ dX2_giveOwnInterval_54 (fun r v' kd' K' L' N' S' P' H locs hp X => ?_)
    obtain ⟨rfl, rfl, rfl, rfl, rfl, rfl, rfl, rfl⟩ := hp
    refine W.eq (g2 := F0 m 57 ls [.int (nI (nx)), .int (nI (gOf P i)), .int (nI (i)), .ref (z 0)]) rfl ?_
    refine lv_iconst (v := nI (0)) C.hx C.hb dX2_giveOwnInterval_57 (by decide) ?_
    refine x2_cw (As := [.int (nI (i)), .int (nI (gOf P i)), .int (nI (nx)), .int (nI (0))]) (rest := []) C X (c2_insertInterval (at_ := i) (ar := (gOf P i)) (num := nx) (sz := 0) (by omega) (by omega) (by omega) (by omega) (by omega) (by omega) (by omega)) wy_X2_insertInterval ts_16 tw_182 rfl ⟨by decide, by decide⟩ rfl hl.1 rfl (Nat.le_of_ble_eq_true rfl) ⟨Nat.le_refl _, Nat.le_refl _⟩ dX2_giveOwnInterval_58 (fun r v' kd' K' L' N' S' P' H locs hp X => ?_)
    obtain ⟨rfl, rfl, rfl, rfl, rfl, rfl, rfl, rfl⟩ := hp
    refine W.eq (g2 := F0 m 61 ls []) rfl ?_
    refine lv_aload_n C.hx C.hb dX2_giveOwnInterval_61 rfl (lv_at hl 2 rfl) ?_
    refine lv_iload C.hx C.hb dX2_giveOwnInterval_62 (lv_at hl 0 rfl) ?_
    refine lv_lload_n C.hx C.hb dX2_giveOwnInterval_64 rfl (lv_at hl 4 rfl) ?_
    refine lv_iload C.hx C.hb dX2_giveOwnInterval_65 (lv_at hl 5 rfl) ?_
    refine x2_cw (As := [.int (nI (i)), .long (key), .int (nI (len))]) (rest := []) C X (c2_insertRecord (i := i) (key := key) (len := len) (by omega) (by omega) (by omega) (by omega)) wy_X2_insertRecord ts_12 tw_162 rfl ⟨by decide, by decide⟩ rfl hl.1 rfl (Nat.le_of_ble_eq_true rfl) ⟨Nat.le_refl _, Nat.le_refl _⟩ dX2_giveOwnInterval_67 (fun r v' kd' K' L' N' S' P' H locs hp X => ?_)
    obtain ⟨rfl, rfl, rfl, rfl, rfl, rfl, rfl, rfl⟩ := hp
    refine W.eq (g2 := F0 m 70 ls []) rfl ?_
    refine lv_aload_n C.hx C.hb dX2_giveOwnInterval_70 rfl (lv_at hl 2 rfl) ?_
    refine lv_dup C.hx C.hb dX2_giveOwnInterval_71 rfl ?_
    refine x2g_15 C X (x := (upd v 9 (nI (nx + 1))) 15) rfl dX2_giveOwnInterval_72 ?_
    refine lv_iconst (v := nI (1)) C.hx C.hb dX2_giveOwnInterval_75 (by decide) ?_
    refine lv_iadd C.hx C.hb dX2_giveOwnInterval_76 ?_
    refine x2p_15 C X dX2_giveOwnInterval_77 (fun H locs X => ?_)
    exact ret2_v C X (by have e : ownAt K S key i = i := (by unfold ownAt; rw [if_neg (Int64.not_lt.mpr c17)]); rw [e]; exact ⟨rfl, rfl, rfl, rfl, rfl, rfl, rfl, rfl⟩) dX2_giveOwnInterval_80
  · refine lv_iconst (v := nI (1)) C.hx C.hb dX2_giveOwnInterval_21 (by decide) ?_
    refine lv_goto (tgt := 26) C.hx C.hb dX2_giveOwnInterval_22 (by decide) ?_
    refine lv_istore (lv' := [(5, .int (nI (1))), (0, .ref (z 0)), (1, .int (nI (i))), (2, .long (key)), (4, .int (nI (len)))]) C.hx C.hb dX2_giveOwnInterval_26 hl (by decide) rfl (fun ls hl => ?_)
    refine lv_iload C.hx C.hb dX2_giveOwnInterval_28 (lv_at hl 0 rfl) ?_
    refine n_if_eq (tgt := 39) C dX2_giveOwnInterval_30 (by decide) (by decide) (fun h => absurd h (by decide)) (fun _ => ?_)
    refine lv_iload_n C.hx C.hb dX2_giveOwnInterval_33 rfl (lv_at hl 2 rfl) ?_
    refine lv_iconst (v := nI (1)) C.hx C.hb dX2_giveOwnInterval_34 (by decide) ?_
    refine n_add C dX2_giveOwnInterval_35 ?_
    refine lv_goto (tgt := 40) C.hx C.hb dX2_giveOwnInterval_36 (by decide) ?_
    refine lv_istore (lv' := [(6, .int (nI (i + 1))), (5, .int (nI (1))), (0, .ref (z 0)), (1, .int (nI (i))), (2, .long (key)), (4, .int (nI (len)))]) C.hx C.hb dX2_giveOwnInterval_40 hl (by decide) rfl (fun ls hl => ?_)
    refine lv_aload_n C.hx C.hb dX2_giveOwnInterval_42 rfl (lv_at hl 2 rfl) ?_
    refine lv_iload C.hx C.hb dX2_giveOwnInterval_43 (lv_at hl 0 rfl) ?_
    refine lv_aload_n C.hx C.hb dX2_giveOwnInterval_45 rfl (lv_at hl 2 rfl) ?_
    refine x2g_8 C X dX2_giveOwnInterval_46 ?_
    refine lv_iload_n C.hx C.hb dX2_giveOwnInterval_49 rfl (lv_at hl 3 rfl) ?_
    refine x2_groupOf_5 C X (by omega) (by omega) ⟨by decide, by decide⟩ hl.1 (Nat.le_of_ble_eq_true rfl) ⟨Nat.le_refl _, Nat.le_refl _⟩ dX2_giveOwnInterval_50 ?_
    refine lv_aload_n C.hx C.hb dX2_giveOwnInterval_53 rfl (lv_at hl 2 rfl) ?_
    refine x2_cw (As := []) (rest := [.int (nI (gOf P i)), .int (nI (i + 1)), .ref (z 0)]) C X (c2_takeNumber (nx := nx) hv9) wy_X2_takeNumber ts_1 tw_52 rfl ⟨by decide, by decide⟩ rfl hl.1 rfl (Nat.le_of_ble_eq_true rfl) ⟨Nat.le_refl _, Nat.le_refl _⟩ dX2_giveOwnInterval_54 (fun r v' kd' K' L' N' S' P' H locs hp X => ?_)
    obtain ⟨rfl, rfl, rfl, rfl, rfl, rfl, rfl, rfl⟩ := hp
    refine W.eq (g2 := F0 m 57 ls [.int (nI (nx)), .int (nI (gOf P i)), .int (nI (i + 1)), .ref (z 0)]) rfl ?_
    refine lv_iconst (v := nI (0)) C.hx C.hb dX2_giveOwnInterval_57 (by decide) ?_
    refine x2_cw (As := [.int (nI (i + 1)), .int (nI (gOf P i)), .int (nI (nx)), .int (nI (0))]) (rest := []) C X (c2_insertInterval (at_ := (i + 1)) (ar := (gOf P i)) (num := nx) (sz := 0) (by omega) (by omega) (by omega) (by omega) (by omega) (by omega) (by omega)) wy_X2_insertInterval ts_16 tw_182 rfl ⟨by decide, by decide⟩ rfl hl.1 rfl (Nat.le_of_ble_eq_true rfl) ⟨Nat.le_refl _, Nat.le_refl _⟩ dX2_giveOwnInterval_58 (fun r v' kd' K' L' N' S' P' H locs hp X => ?_)
    obtain ⟨rfl, rfl, rfl, rfl, rfl, rfl, rfl, rfl⟩ := hp
    refine W.eq (g2 := F0 m 61 ls []) rfl ?_
    refine lv_aload_n C.hx C.hb dX2_giveOwnInterval_61 rfl (lv_at hl 2 rfl) ?_
    refine lv_iload C.hx C.hb dX2_giveOwnInterval_62 (lv_at hl 0 rfl) ?_
    refine lv_lload_n C.hx C.hb dX2_giveOwnInterval_64 rfl (lv_at hl 4 rfl) ?_
    refine lv_iload C.hx C.hb dX2_giveOwnInterval_65 (lv_at hl 5 rfl) ?_
    refine x2_cw (As := [.int (nI (i + 1)), .long (key), .int (nI (len))]) (rest := []) C X (c2_insertRecord (i := i + 1) (key := key) (len := len) (by omega) (by omega) (by omega) (by omega)) wy_X2_insertRecord ts_12 tw_162 rfl ⟨by decide, by decide⟩ rfl hl.1 rfl (Nat.le_of_ble_eq_true rfl) ⟨Nat.le_refl _, Nat.le_refl _⟩ dX2_giveOwnInterval_67 (fun r v' kd' K' L' N' S' P' H locs hp X => ?_)
    obtain ⟨rfl, rfl, rfl, rfl, rfl, rfl, rfl, rfl⟩ := hp
    refine W.eq (g2 := F0 m 70 ls []) rfl ?_
    refine lv_aload_n C.hx C.hb dX2_giveOwnInterval_70 rfl (lv_at hl 2 rfl) ?_
    refine lv_dup C.hx C.hb dX2_giveOwnInterval_71 rfl ?_
    refine x2g_15 C X (x := (upd v 9 (nI (nx + 1))) 15) rfl dX2_giveOwnInterval_72 ?_
    refine lv_iconst (v := nI (1)) C.hx C.hb dX2_giveOwnInterval_75 (by decide) ?_
    refine lv_iadd C.hx C.hb dX2_giveOwnInterval_76 ?_
    refine x2p_15 C X dX2_giveOwnInterval_77 (fun H locs X => ?_)
    exact ret2_v C X (by have e : ownAt K S key i = i + 1 := (by unfold ownAt; rw [if_pos c17]); rw [e]; exact ⟨rfl, rfl, rfl, rfl, rfl, rfl, rfl, rfl⟩) dX2_giveOwnInterval_80
