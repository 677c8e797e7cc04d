theorem m1_i {p : Nat} (h : 0 < p) : nI p + Int32.ofInt (-1) = nI (p - 1) := by
  rw [show Int32.ofInt (-1) = (-1 : Int32) by decide]
  exact sb_m1 h
/-- an array whose places a + 1 .. n hold what stood one ahead -/
def shf {α : Type} (f : Nat → α) (a n : Nat) : Nat → α := fun j => if a < j ∧ j ≤ n then f (j - 1) else f j
theorem shf_0 {α : Type} (f : Nat → α) (n : Nat) : shf f n n = f := by
  funext j
  unfold shf
  rw [if_neg (by omega)]
theorem shf_lo {α : Type} {f : Nat → α} {a n j : Nat} (h : j ≤ a) : shf f a n j = f j := by
  unfold shf
  rw [if_neg (by omega)]
theorem shf_sL {f : Nat → Int64} {k n : Nat} (h0 : 0 < k) (hk : k ≤ n) : vp_updL (shf f k n) k (shf f k n (k - 1)) = shf f (k - 1) n := by
  rw [shf_lo (by omega)]
  funext j
  unfold vp_updL shf
  by_cases e : j = k
  · subst e; rw [if_pos rfl, if_pos ⟨by omega, hk⟩]
  · rw [if_neg e]
    by_cases q : k < j ∧ j ≤ n
    · rw [if_pos q, if_pos ⟨by omega, q.2⟩]
    · rw [if_neg q, if_neg (fun h => q ⟨by omega, h.2⟩)]
theorem shf_sN {f : Nat → Nat} {k n : Nat} (h0 : 0 < k) (hk : k ≤ n) : va_up (shf f k n) k (shf f k n (k - 1)) = shf f (k - 1) n := by
  rw [shf_lo (by omega)]
  funext j
  unfold va_up shf
  by_cases e : j = k
  · subst e; rw [if_pos rfl, if_pos ⟨by omega, hk⟩]
  · rw [if_neg e]
    by_cases q : k < j ∧ j ≤ n
    · rw [if_pos q, if_pos ⟨by omega, q.2⟩]
    · rw [if_neg q, if_neg (fun h => q ⟨by omega, h.2⟩)]
/-- an array whose places a .. k - 1 hold what stood one behind -/
def shd {α : Type} (f : Nat → α) (a k : Nat) : Nat → α := fun j => if a ≤ j ∧ j < k then f (j + 1) else f j
theorem shd_0 {α : Type} (f : Nat → α) (a : Nat) : shd f a a = f := by
  funext j
  unfold shd
  rw [if_neg (by omega)]
theorem shd_hi {α : Type} {f : Nat → α} {a k j : Nat} (h : k ≤ j) : shd f a k j = f j := by
  unfold shd
  rw [if_neg (by omega)]
theorem shd_sL {f : Nat → Int64} {a k : Nat} (h : a ≤ k) : vp_updL (shd f a k) k (shd f a k (k + 1)) = shd f a (k + 1) := by
  rw [shd_hi (by omega)]
  funext j
  unfold vp_updL shd
  by_cases e : j = k
  · subst e; rw [if_pos rfl, if_pos ⟨h, by omega⟩]
  · rw [if_neg e]
    by_cases q : a ≤ j ∧ j < k
    · rw [if_pos q, if_pos ⟨q.1, by omega⟩]
    · rw [if_neg q, if_neg (fun h => q ⟨h.1, by omega⟩)]
theorem shd_sN {f : Nat → Nat} {a k : Nat} (h : a ≤ k) : va_up (shd f a k) k (shd f a k (k + 1)) = shd f a (k + 1) := by
  rw [shd_hi (by omega)]
  funext j
  unfold va_up shd
  by_cases e : j = k
  · subst e; rw [if_pos rfl, if_pos ⟨h, by omega⟩]
  · rw [if_neg e]
    by_cases q : a ≤ j ∧ j < k
    · rw [if_pos q, if_pos ⟨q.1, by omega⟩]
    · rw [if_neg q, if_neg (fun h => q ⟨h.1, by omega⟩)]
set_option maxHeartbeats 4000000 in
set_option maxRecDepth 100000 in
theorem l3_insert {p : Program} {l : Launch} {e : Env} {s : State} {m : MethodId} {args : Array Value} {below : List Frame} {meth : Method} {c : Code} {E : Gq} {ws0 : va_W} {z : Nat → Nat} {v : Nat → Int32} {fk : Nat → Int64} {gl go gi ga : Nat → Nat} {gs : Nat → Int32} (C : Cx E p s m args meth c cX3_insert 7 none RX3 (va_A ws0 s.heap.size)) {key : Int64} {len itv t n0 : Nat} (hn0 : n0 ≤ 600) (hv8 : v 8 = nI n0) (ht : t ≤ n0) : ∀ (n k : Nat) (H : Heap) (locs : List Loc), k - t = n → t ≤ k → k ≤ n0 → X3w E (va_A ws0 s.heap.size) z v (shf fk k n0) (shf gl k n0) (shf go k n0) gi ga gs s H locs → ∀ ls : Array Slot, lv_has ls 7 [(6, .int (nI (k))), (5, .int (nI (t))), (0, .ref (z 0)), (1, .long (key)), (3, .int (nI (len))), (4, .int (nI (itv)))] → W p l e (Rm 1 0 0) s m args below meth c H locs 0 0 (MQ below (Qw E ws0 s.heap.size (P3 E z (fun r v' fk' gl' go' gi' ga' gs' => none = r ∧ upd v 8 (nI (n0 + 1)) = v' ∧ vp_updL (shf fk t n0) t key = fk' ∧ va_up (shf gl t n0) t len = gl' ∧ va_up (shf go t n0) t itv = go' ∧ gi = gi' ∧ ga = ga' ∧ gs = gs'))) args s 0 0 (va_A ws0 s.heap.size)) (F0 m 13 ls []) := by
  intro n
  induction n with
  | zero =>
    intro k H locs hn hk hk2 X ls hl
    have e : k = t := by omega
    subst e
    refine lv_iload C.hx C.hb dX3_insert_13 (lv_at hl 0 rfl) ?_
    refine lv_iload C.hx C.hb dX3_insert_15 (lv_at hl 1 rfl) ?_
    refine n_icmp_le (tgt := 74) C dX3_insert_17 (by decide) (by omega) (by omega) (fun c17 => ?_) (fun c17 => ?_)
    · refine lv_aload_n C.hx C.hb dX3_insert_74 rfl (lv_at hl 2 rfl) ?_
      refine x3g_5 C X dX3_insert_75 ?_
      refine lv_iload C.hx C.hb dX3_insert_78 (lv_at hl 1 rfl) ?_
      refine lv_lload_n C.hx C.hb dX3_insert_80 rfl (lv_at hl 3 rfl) ?_
      refine x3t_1 C X (by omega) dX3_insert_81 (fun H locs X => ?_)
      refine lv_aload_n C.hx C.hb dX3_insert_82 rfl (lv_at hl 2 rfl) ?_
      refine x3g_6 C X dX3_insert_83 ?_
      refine lv_iload C.hx C.hb dX3_insert_86 (lv_at hl 1 rfl) ?_
      refine lv_iload_n C.hx C.hb dX3_insert_88 rfl (lv_at hl 4 rfl) ?_
      refine x3t_2 C X (by omega) dX3_insert_89 (fun H locs X => ?_)
      refine lv_aload_n C.hx C.hb dX3_insert_90 rfl (lv_at hl 2 rfl) ?_
      refine x3g_7 C X dX3_insert_91 ?_
      refine lv_iload C.hx C.hb dX3_insert_94 (lv_at hl 1 rfl) ?_
      refine lv_iload C.hx C.hb dX3_insert_96 (lv_at hl 5 rfl) ?_
      refine x3t_3 C X (by omega) dX3_insert_98 (fun H locs X => ?_)
      refine lv_aload_n C.hx C.hb dX3_insert_99 rfl (lv_at hl 2 rfl) ?_
      refine lv_dup C.hx C.hb dX3_insert_100 rfl ?_
      refine x3g_8 C X (x := nI (n0)) hv8 dX3_insert_101 ?_
      refine lv_iconst (v := nI (1)) C.hx C.hb dX3_insert_104 (by decide) ?_
      refine n_add C dX3_insert_105 ?_
      refine x3p_8 C X dX3_insert_106 (fun H locs X => ?_)
      exact ret3_v C X (⟨rfl, rfl, rfl, rfl, rfl, rfl, rfl, rfl⟩) dX3_insert_109
    · omega
  | succ n ih =>
    intro k H locs hn hk hk2 X ls hl
    refine lv_iload C.hx C.hb dX3_insert_13 (lv_at hl 0 rfl) ?_
    refine lv_iload C.hx C.hb dX3_insert_15 (lv_at hl 1 rfl) ?_
    refine n_icmp_le (tgt := 74) C dX3_insert_17 (by decide) (by omega) (by omega) (fun c17 => ?_) (fun c17 => ?_)
    · omega
    · refine lv_aload_n C.hx C.hb dX3_insert_20 rfl (lv_at hl 2 rfl) ?_
      refine x3g_5 C X dX3_insert_21 ?_
      refine lv_iload C.hx C.hb dX3_insert_24 (lv_at hl 0 rfl) ?_
      refine lv_aload_n C.hx C.hb dX3_insert_26 rfl (lv_at hl 2 rfl) ?_
      refine x3g_5 C X dX3_insert_27 ?_
      refine lv_iload C.hx C.hb dX3_insert_30 (lv_at hl 0 rfl) ?_
      refine lv_iconst (v := nI (1)) C.hx C.hb dX3_insert_32 (by decide) ?_
      refine n_sub C dX3_insert_33 (by omega) ?_
      refine x3l_1 C X (by omega) dX3_insert_34 ?_
      refine x3t_1 C X (by omega) dX3_insert_35 (fun H locs X => ?_)
      refine lv_aload_n C.hx C.hb dX3_insert_36 rfl (lv_at hl 2 rfl) ?_
      refine x3g_6 C X dX3_insert_37 ?_
      refine lv_iload C.hx C.hb dX3_insert_40 (lv_at hl 0 rfl) ?_
      refine lv_aload_n C.hx C.hb dX3_insert_42 rfl (lv_at hl 2 rfl) ?_
      refine x3g_6 C X dX3_insert_43 ?_
      refine lv_iload C.hx C.hb dX3_insert_46 (lv_at hl 0 rfl) ?_
      refine lv_iconst (v := nI (1)) C.hx C.hb dX3_insert_48 (by decide) ?_
      refine n_sub C dX3_insert_49 (by omega) ?_
      refine x3l_2 C X (by omega) dX3_insert_50 ?_
      refine x3t_2 C X (by omega) dX3_insert_51 (fun H locs X => ?_)
      refine lv_aload_n C.hx C.hb dX3_insert_52 rfl (lv_at hl 2 rfl) ?_
      refine x3g_7 C X dX3_insert_53 ?_
      refine lv_iload C.hx C.hb dX3_insert_56 (lv_at hl 0 rfl) ?_
      refine lv_aload_n C.hx C.hb dX3_insert_58 rfl (lv_at hl 2 rfl) ?_
      refine x3g_7 C X dX3_insert_59 ?_
      refine lv_iload C.hx C.hb dX3_insert_62 (lv_at hl 0 rfl) ?_
      refine lv_iconst (v := nI (1)) C.hx C.hb dX3_insert_64 (by decide) ?_
      refine n_sub C dX3_insert_65 (by omega) ?_
      refine x3l_3 C X (by omega) dX3_insert_66 ?_
      refine x3t_3 C X (by omega) dX3_insert_67 (fun H locs X => ?_)
      refine lv_iinc (v := nI (k - 1)) (lv' := [(6, .int (nI (k - 1))), (5, .int (nI (t))), (0, .ref (z 0)), (1, .long (key)), (3, .int (nI (len))), (4, .int (nI (itv)))]) C.hx C.hb dX3_insert_68 hl (k := 0) rfl (m1_i (by omega)) (by decide) rfl (fun ls hl => ?_)
      refine lv_goto (tgt := 13) C.hx C.hb dX3_insert_71 (by decide) ?_
      rw [shf_sL (by omega) hk2, shf_sN (by omega) hk2, shf_sN (by omega) hk2] at X
      exact ih (k - 1) H locs (by omega) (by omega) (by omega) X ls (lv_sub hl [0, 1, 2, 3, 4, 5] rfl)
set_option maxHeartbeats 4000000 in
set_option maxRecDepth 100000 in
/-- the reference: a record comes -/
theorem c3_insert {l : Launch} {E : Gq} {z : Nat → Nat} {v : Nat → Int32} {fk : Nat → Int64} {gl go gi ga : Nat → Nat} {gs : Nat → Int32} {K : List Int64} (h0 : Ct0 v fk K) {key : Int64} {len itv t : Nat} (hT : lsT K key t) : M3w l E yX3_insert cX3_insert 7 none 1 [.ref (z 0), .long (key), .int (nI (len)), .int (nI (itv))] z v fk gl go gi ga gs (fun r v' fk' gl' go' gi' ga' gs' => none = r ∧ upd v 8 (nI (K.length + 1)) = v' ∧ vp_updL (shf fk t K.length) t key = fk' ∧ va_up (shf gl t K.length) t len = gl' ∧ va_up (shf go t K.length) t itv = go' ∧ gi = gi' ∧ ga = ga' ∧ gs = gs') := by
  refine mk_w (by decide) (Nat.le_of_ble_eq_true rfl) ?_
  intro p e s m below meth c ls C Wd hl
  have X : X3w E _ z v fk gl go gi ga gs s s.heap [] := Wd
  have hl : lv_has ls 7 [(0, .ref (z 0)), (1, .long (key)), (3, .int (nI (len))), (4, .int (nI (itv)))] := hl
  obtain ⟨hk, hs8, r1⟩ := id h0
  refine lv_aload_n C.hx C.hb dX3_insert_0 rfl (lv_at hl 0 rfl) ?_
  refine lv_lload_n C.hx C.hb dX3_insert_1 rfl (lv_at hl 1 rfl) ?_
  refine x3_cr (As := [.long (key)]) (rest := []) C X (c3_less h0 (t := t) hT) wy_X3_less ts_30 tw_439 rfl ⟨by decide, by decide⟩ rfl hl.1 rfl (Nat.le_of_ble_eq_true rfl) ⟨Nat.le_refl _, Nat.le_refl _⟩ dX3_insert_2 (fun r hp => ?_)
  subst hp
  refine W.eq (g2 := F0 m 5 ls [.int (nI (t))]) rfl ?_
  refine lv_istore (lv' := [(5, .int (nI (t))), (0, .ref (z 0)), (1, .long (key)), (3, .int (nI (len))), (4, .int (nI (itv)))]) C.hx C.hb dX3_insert_5 hl (by decide) rfl (fun ls hl => ?_)
  refine lv_aload_n C.hx C.hb dX3_insert_7 rfl (lv_at hl 1 rfl) ?_
  refine x3g_8 C X (x := nI (K.length)) hs8 dX3_insert_8 ?_
  refine lv_istore (lv' := [(6, .int (nI (K.length))), (5, .int (nI (t))), (0, .ref (z 0)), (1, .long (key)), (3, .int (nI (len))), (4, .int (nI (itv)))]) C.hx C.hb dX3_insert_11 hl (by decide) rfl (fun ls hl => ?_)
  exact l3_insert C hk hs8 hT.1 _ K.length _ _ rfl hT.1 (Nat.le_refl _) (by rw [shf_0, shf_0, shf_0]; exact X) ls (lv_sub hl [0, 1, 2, 3, 4, 5] rfl)
set_option maxHeartbeats 4000000 in
set_option maxRecDepth 100000 in
theorem l3_open {p : Program} {l : Launch} {e : Env} {s : State} {m : MethodId} {args : Array Value} {below : List Frame} {meth : Method} {c : Code} {E : Gq} {ws0 : va_W} {z : Nat → Nat} {v : Nat → Int32} {fk : Nat → Int64} {gl go gi ga : Nat → Nat} {gs : Nat → Int32} (C : Cx E p s m args meth c cX3_open 5 none RX3 (va_A ws0 s.heap.size)) {at_ num ar m0 : Nat} (hm0 : m0 ≤ 1200) (hv11 : v 11 = nI m0) (ht : at_ ≤ m0) : ∀ (n k : Nat) (H : Heap) (locs : List Loc), k - at_ = n → at_ ≤ k → k ≤ m0 → X3w E (va_A ws0 s.heap.size) z v fk gl go (shf gi k m0) (shf ga k m0) gs s H locs → ∀ ls : Array Slot, lv_has ls 5 [(4, .int (nI (k))), (0, .ref (z 0)), (1, .int (nI (at_))), (2, .int (nI (num))), (3, .int (nI (ar)))] → W p l e (Rm 0 0 0) s m args below meth c H locs 0 0 (MQ below (Qw E ws0 s.heap.size (P3 E z (fun r v' fk' gl' go' gi' ga' gs' => none = r ∧ upd v 11 (nI (m0 + 1)) = v' ∧ fk = fk' ∧ gl = gl' ∧ go = go' ∧ va_up (shf gi at_ m0) at_ num = gi' ∧ va_up (shf ga at_ m0) at_ ar = ga' ∧ gs = gs'))) args s 0 0 (va_A ws0 s.heap.size)) (F0 m 6 ls []) := by
  intro n
  induction n with
  | zero =>
    intro k H locs hn hk hk2 X ls hl
    have e : k = at_ := by omega
    subst e
    refine lv_iload C.hx C.hb dX3_open_6 (lv_at hl 0 rfl) ?_
    refine lv_iload_n C.hx C.hb dX3_open_8 rfl (lv_at hl 2 rfl) ?_
    refine n_icmp_le (tgt := 50) C dX3_open_9 (by decide) (by omega) (by omega) (fun c9 => ?_) (fun c9 => ?_)
    · refine lv_aload_n C.hx C.hb dX3_open_50 rfl (lv_at hl 1 rfl) ?_
      refine x3g_9 C X dX3_open_51 ?_
      refine lv_iload_n C.hx C.hb dX3_open_54 rfl (lv_at hl 2 rfl) ?_
      refine lv_iload_n C.hx C.hb dX3_open_55 rfl (lv_at hl 3 rfl) ?_
      refine x3t_4 C X (by omega) dX3_open_56 (fun H locs X => ?_)
      refine lv_aload_n C.hx C.hb dX3_open_57 rfl (lv_at hl 1 rfl) ?_
      refine x3g_10 C X dX3_open_58 ?_
      refine lv_iload_n C.hx C.hb dX3_open_61 rfl (lv_at hl 2 rfl) ?_
      refine lv_iload_n C.hx C.hb dX3_open_62 rfl (lv_at hl 4 rfl) ?_
      refine x3t_5 C X (by omega) dX3_open_63 (fun H locs X => ?_)
      refine lv_aload_n C.hx C.hb dX3_open_64 rfl (lv_at hl 1 rfl) ?_
      refine lv_dup C.hx C.hb dX3_open_65 rfl ?_
      refine x3g_11 C X (x := nI (m0)) hv11 dX3_open_66 ?_
      refine lv_iconst (v := nI (1)) C.hx C.hb dX3_open_69 (by decide) ?_
      refine n_add C dX3_open_70 ?_
      refine x3p_11 C X dX3_open_71 (fun H locs X => ?_)
      exact ret3_v C X (⟨rfl, rfl, rfl, rfl, rfl, rfl, rfl, rfl⟩) dX3_open_74
    · omega
  | succ n ih =>
    intro k H locs hn hk hk2 X ls hl
    refine lv_iload C.hx C.hb dX3_open_6 (lv_at hl 0 rfl) ?_
    refine lv_iload_n C.hx C.hb dX3_open_8 rfl (lv_at hl 2 rfl) ?_
    refine n_icmp_le (tgt := 50) C dX3_open_9 (by decide) (by omega) (by omega) (fun c9 => ?_) (fun c9 => ?_)
    · omega
    · refine lv_aload_n C.hx C.hb dX3_open_12 rfl (lv_at hl 1 rfl) ?_
      refine x3g_9 C X dX3_open_13 ?_
      refine lv_iload C.hx C.hb dX3_open_16 (lv_at hl 0 rfl) ?_
      refine lv_aload_n C.hx C.hb dX3_open_18 rfl (lv_at hl 1 rfl) ?_
      refine x3g_9 C X dX3_open_19 ?_
      refine lv_iload C.hx C.hb dX3_open_22 (lv_at hl 0 rfl) ?_
      refine lv_iconst (v := nI (1)) C.hx C.hb dX3_open_24 (by decide) ?_
      refine n_sub C dX3_open_25 (by omega) ?_
      refine x3l_4 C X (by omega) dX3_open_26 ?_
      refine x3t_4 C X (by omega) dX3_open_27 (fun H locs X => ?_)
      refine lv_aload_n C.hx C.hb dX3_open_28 rfl (lv_at hl 1 rfl) ?_
      refine x3g_10 C X dX3_open_29 ?_
      refine lv_iload C.hx C.hb dX3_open_32 (lv_at hl 0 rfl) ?_
      refine lv_aload_n C.hx C.hb dX3_open_34 rfl (lv_at hl 1 rfl) ?_
      refine x3g_10 C X dX3_open_35 ?_
      refine lv_iload C.hx C.hb dX3_open_38 (lv_at hl 0 rfl) ?_
      refine lv_iconst (v := nI (1)) C.hx C.hb dX3_open_40 (by decide) ?_
      refine n_sub C dX3_open_41 (by omega) ?_
      refine x3l_5 C X (by omega) dX3_open_42 ?_
      refine x3t_5 C X (by omega) dX3_open_43 (fun H locs X => ?_)
      refine lv_iinc (v := nI (k - 1)) (lv' := [(4, .int (nI (k - 1))), (0, .ref (z 0)), (1, .int (nI (at_))), (2, .int (nI (num))), (3, .int (nI (ar)))]) C.hx C.hb dX3_open_44 hl (k := 0) rfl (m1_i (by omega)) (by decide) rfl (fun ls hl => ?_)
      refine lv_goto (tgt := 6) C.hx C.hb dX3_open_47 (by decide) ?_
      rw [shf_sN (by omega) hk2, shf_sN (by omega) hk2] at X
      exact ih (k - 1) H locs (by omega) (by omega) (by omega) X ls (lv_sub hl [0, 1, 2, 3, 4] rfl)
set_option maxHeartbeats 4000000 in
set_option maxRecDepth 100000 in
/-- the reference: an interval comes -/
theorem c3_open {l : Launch} {E : Gq} {z : Nat → Nat} {v : Nat → Int32} {fk : Nat → Int64} {gl go gi ga : Nat → Nat} {gs : Nat → Int32} {at_ num ar m0 : Nat} (hm0 : m0 ≤ 1200) (hv11 : v 11 = nI m0) (ht : at_ ≤ m0) : M3w l E yX3_open cX3_open 5 none 0 [.ref (z 0), .int (nI (at_)), .int (nI (num)), .int (nI (ar))] z v fk gl go gi ga gs (fun r v' fk' gl' go' gi' ga' gs' => none = r ∧ upd v 11 (nI (m0 + 1)) = v' ∧ fk = fk' ∧ gl = gl' ∧ go = go' ∧ va_up (shf gi at_ m0) at_ num = gi' ∧ va_up (shf ga at_ m0) at_ ar = ga' ∧ gs = gs') := by
  refine mk_w (by decide) (Nat.le_of_ble_eq_true rfl) ?_
  intro p e s m below meth c ls C Wd hl
  have X : X3w E _ z v fk gl go gi ga gs s s.heap [] := Wd
  have hl : lv_has ls 5 [(0, .ref (z 0)), (1, .int (nI (at_))), (2, .int (nI (num))), (3, .int (nI (ar)))] := hl
  refine lv_aload_n C.hx C.hb dX3_open_0 rfl (lv_at hl 0 rfl) ?_
  refine x3g_11 C X (x := nI (m0)) hv11 dX3_open_1 ?_
  refine lv_istore (lv' := [(4, .int (nI (m0))), (0, .ref (z 0)), (1, .int (nI (at_))), (2, .int (nI (num))), (3, .int (nI (ar)))]) C.hx C.hb dX3_open_4 hl (by decide) rfl (fun ls hl => ?_)
  exact l3_open C hm0 hv11 ht _ m0 _ _ rfl ht (Nat.le_refl _) (by rw [shf_0, shf_0]; exact X) ls (lv_sub hl [0, 1, 2, 3, 4] rfl)
/-- an array whose places a .. k - 1 that held x hold y -/
def rpl (f : Nat → Nat) (a k x y : Nat) : Nat → Nat := fun j => if a ≤ j ∧ j < k ∧ f j = x then y else f j
theorem rpl_0 (f : Nat → Nat) (a x y : Nat) : rpl f a a x y = f := by
  funext j
  unfold rpl
  rw [if_neg (by omega)]
theorem rpl_hi {f : Nat → Nat} {a k x y j : Nat} (h : k ≤ j) : rpl f a k x y j = f j := by
  unfold rpl
  rw [if_neg (by omega)]
theorem rpl_y {f : Nat → Nat} {a k x y : Nat} (h : a ≤ k) (e : f k = x) : va_up (rpl f a k x y) k y = rpl f a (k + 1) x y := by
  funext j
  unfold va_up rpl
  by_cases q : j = k
  · subst q; rw [if_pos rfl, if_pos ⟨h, by omega, e⟩]
  · rw [if_neg q]
    by_cases r : a ≤ j ∧ j < k ∧ f j = x
    · rw [if_pos r, if_pos ⟨r.1, by omega, r.2.2⟩]
    · rw [if_neg r, if_neg (fun h => r ⟨h.1, by omega, h.2.2⟩)]
theorem rpl_n {f : Nat → Nat} {a k x y : Nat} (e : f k ≠ x) : va_up (rpl f a k x y) k (rpl f a k x y k) = rpl f a (k + 1) x y := by
  rw [rpl_hi (Nat.le_refl k)]
  funext j
  unfold va_up rpl
  by_cases q : j = k
  · subst q; rw [if_pos rfl, if_neg (fun h => e h.2.2)]
  · rw [if_neg q]
    by_cases r : a ≤ j ∧ j < k ∧ f j = x
    · rw [if_pos r, if_pos ⟨r.1, by omega, r.2.2⟩]
    · rw [if_neg r, if_neg (fun h => r ⟨h.1, by omega, h.2.2⟩)]
theorem rpl_b {f : Nat → Nat} {a k x y : Nat} (hf : ∀ j, f j < 2 ^ 31) (hy : y < 2 ^ 31) : ∀ j, rpl f a k x y j < 2 ^ 31 := by
  intro j
  unfold rpl
  split
  · exact hy
  · exact hf j
set_option maxHeartbeats 4000000 in
set_option maxRecDepth 100000 in
theorem l3_si {p : Program} {l : Launch} {e : Env} {s : State} {m : MethodId} {args : Array Value} {below : List Frame} {meth : Method} {c : Code} {E : Gq} {ws0 : va_W} {z : Nat → Nat} {v : Nat → Int32} {fk : Nat → Int64} {gl go gi ga : Nat → Nat} {gs : Nat → Int32} (C : Cx E p s m args meth c cX3_splitInterval 6 none RX3 (va_A ws0 s.heap.size)) {num a x n0 : Nat} (hn0 : n0 ≤ 600) (hv8 : v 8 = nI n0) (hx : x < 2 ^ 31) (hnum : num < 2 ^ 31) (hbo : ∀ j, go j < 2 ^ 31) (ha : a ≤ n0) : ∀ (n k : Nat) (H : Heap) (locs : List Loc), n0 - k = n → a ≤ k → k ≤ n0 → X3w E (va_A ws0 s.heap.size) z v fk gl (rpl go a k x num) gi ga gs s H locs → ∀ ls : Array Slot, lv_has ls 6 [(5, .int (nI (k))), (4, .int (nI (x))), (0, .ref (z 0)), (2, .int (nI (num)))] → W p l e (Rm 2 0 0) s m args below meth c H locs 0 0 (MQ below (Qw E ws0 s.heap.size (P3 E z (fun r v' fk' gl' go' gi' ga' gs' => none = r ∧ v = v' ∧ fk = fk' ∧ gl = gl' ∧ rpl go a n0 x num = go' ∧ gi = gi' ∧ ga = ga' ∧ upd gs 0 (gs 0 + nI 1) = gs'))) args s 0 0 (va_A ws0 s.heap.size)) (F0 m 37 ls []) := by
  intro n
  induction n with
  | zero =>
    intro k H locs hn hk hk2 X ls hl
    have e : k = n0 := by omega
    subst e
    refine lv_iload C.hx C.hb dX3_splitInterval_37 (lv_at hl 0 rfl) ?_
    refine lv_aload_n C.hx C.hb dX3_splitInterval_39 rfl (lv_at hl 2 rfl) ?_
    refine x3g_8 C X (x := nI (k)) hv8 dX3_splitInterval_40 ?_
    refine n_icmp_ge (tgt := 82) C dX3_splitInterval_43 (by decide) (by omega) (by omega) (fun c43 => ?_) (fun c43 => ?_)
    · refine lv_aload_n C.hx C.hb dX3_splitInterval_82 rfl (lv_at hl 2 rfl) ?_
      refine x3g_19 C X dX3_splitInterval_83 ?_
      refine lv_iconst (v := nI (0)) C.hx C.hb dX3_splitInterval_86 (by decide) ?_
      refine lv_dup2_11 C.hx C.hb dX3_splitInterval_87 rfl rfl ?_
      refine x3l_6 C X (by omega) dX3_splitInterval_88 ?_
      refine lv_iconst (v := nI (1)) C.hx C.hb dX3_splitInterval_89 (by decide) ?_
      refine lv_iadd C.hx C.hb dX3_splitInterval_90 ?_
      refine x3t_6 C X (by omega) dX3_splitInterval_91 (fun H locs X => ?_)
      exact ret3_v C X (⟨rfl, rfl, rfl, rfl, rfl, rfl, rfl, rfl⟩) dX3_splitInterval_92
    · omega
  | succ n ih =>
    intro k H locs hn hk hk2 X ls hl
    have hrb := rpl_b (a := a) (k := k) (x := x) (y := num) hbo hnum
    refine lv_iload C.hx C.hb dX3_splitInterval_37 (lv_at hl 0 rfl) ?_
    refine lv_aload_n C.hx C.hb dX3_splitInterval_39 rfl (lv_at hl 2 rfl) ?_
    refine x3g_8 C X (x := nI (n0)) hv8 dX3_splitInterval_40 ?_
    refine n_icmp_ge (tgt := 82) C dX3_splitInterval_43 (by decide) (by first | omega | exact hrb _) (by first | omega | exact hrb _) (fun c43 => ?_) (fun c43 => ?_)
    · omega
    · refine lv_aload_n C.hx C.hb dX3_splitInterval_46 rfl (lv_at hl 2 rfl) ?_
      refine x3g_7 C X dX3_splitInterval_47 ?_
      refine lv_iload C.hx C.hb dX3_splitInterval_50 (lv_at hl 0 rfl) ?_
      refine lv_aload_n C.hx C.hb dX3_splitInterval_52 rfl (lv_at hl 2 rfl) ?_
      refine x3g_7 C X dX3_splitInterval_53 ?_
      refine lv_iload C.hx C.hb dX3_splitInterval_56 (lv_at hl 0 rfl) ?_
      refine x3l_3 C X (by first | omega | exact hrb _) dX3_splitInterval_58 ?_
      refine lv_iload C.hx C.hb dX3_splitInterval_59 (lv_at hl 1 rfl) ?_
      refine n_icmp_ne (tgt := 68) C dX3_splitInterval_61 (by decide) (by first | omega | exact hrb _) (by first | omega | exact hrb _) (fun c61 => ?_) (fun c61 => ?_)
      · refine lv_aload_n C.hx C.hb dX3_splitInterval_68 rfl (lv_at hl 2 rfl) ?_
        refine x3g_7 C X dX3_splitInterval_69 ?_
        refine lv_iload C.hx C.hb dX3_splitInterval_72 (lv_at hl 0 rfl) ?_
        refine x3l_3 C X (by first | omega | exact hrb _) dX3_splitInterval_74 ?_
        refine x3t_3 C X (by first | omega | exact hrb _) dX3_splitInterval_75 (fun H locs X => ?_)
        refine lv_iinc (v := nI (k + 1)) (lv' := [(5, .int (nI (k + 1))), (4, .int (nI (x))), (0, .ref (z 0)), (2, .int (nI (num)))]) C.hx C.hb dX3_splitInterval_76 hl (k := 0) rfl (nI_1 _) (by decide) rfl (fun ls hl => ?_)
        refine lv_goto (tgt := 37) C.hx C.hb dX3_splitInterval_79 (by decide) ?_
        rw [rpl_n (by rw [rpl_hi (Nat.le_refl k)] at c61; exact c61)] at X
        exact ih (k + 1) H locs (by omega) (by omega) (by omega) X ls (lv_sub hl [0, 1, 2, 3] rfl)
      · refine lv_iload_n C.hx C.hb dX3_splitInterval_64 rfl (lv_at hl 3 rfl) ?_
        refine lv_goto (tgt := 75) C.hx C.hb dX3_splitInterval_65 (by decide) ?_
        refine x3t_3 C X (by first | omega | exact hrb _) dX3_splitInterval_75 (fun H locs X => ?_)
        refine lv_iinc (v := nI (k + 1)) (lv' := [(5, .int (nI (k + 1))), (4, .int (nI (x))), (0, .ref (z 0)), (2, .int (nI (num)))]) C.hx C.hb dX3_splitInterval_76 hl (k := 0) rfl (nI_1 _) (by decide) rfl (fun ls hl => ?_)
        refine lv_goto (tgt := 37) C.hx C.hb dX3_splitInterval_79 (by decide) ?_
        rw [rpl_y hk (by rw [rpl_hi (Nat.le_refl k)] at c61; exact c61)] at X
        exact ih (k + 1) H locs (by omega) (by omega) (by omega) X ls (lv_sub hl [0, 1, 2, 3] rfl)
set_option maxHeartbeats 4000000 in
set_option maxRecDepth 100000 in
/-- the reference: an interval splits -/
theorem c3_splitInterval {l : Launch} {E : Gq} {z : Nat → Nat} {v : Nat → Int32} {fk : Nat → Int64} {gl go gi ga : Nat → Nat} {gs : Nat → Int32} {K : List Int64} {L N S P A : List Nat} (h3 : Ctx3 v fk gl go gi ga K L N S P A) {i num : Nat} (hi : i < S.length) (h2 : 2 ≤ S.getD i 0) (hall : 1 ≤ lin L S i) (hnum : num < 2 ^ 31) : M3w l E yX3_splitInterval cX3_splitInterval 6 none 2 [.ref (z 0), .int (nI (i)), .int (nI (num))] z v fk gl go gi ga gs (fun r v' fk' gl' go' gi' ga' gs' => none = r ∧ upd v 11 (nI (S.length + 1)) = v' ∧ fk = fk' ∧ gl = gl' ∧ rpl go (sm S 0 i + kbh L S i) K.length (gi i) num = go' ∧ va_up (shf gi (i + 1) S.length) (i + 1) num = gi' ∧ va_up (shf ga (i + 1) S.length) (i + 1) (ga i) = ga' ∧ upd gs 0 (gs 0 + nI 1) = gs') := by
  refine mk_w (by decide) (Nat.le_of_ble_eq_true rfl) ?_
  intro p e s m below meth c ls C Wd hl
  have X : X3w E _ z v fk gl go gi ga gs s s.heap [] := Wd
  have hl : lv_has ls 6 [(0, .ref (z 0)), (1, .int (nI (i))), (2, .int (nI (num)))] := hl
  obtain ⟨hR, hJ, hk, hs8, hm, hbl, hbo, hbi, hba, hso⟩ := id h3
  obtain ⟨r1, r2, r3, r4, r5, r6, r7, r8⟩ := id hR
  obtain ⟨j1, j2, j3, j4, j5, j6, j7, j8⟩ := id hJ
  obtain ⟨k1, k2, k3, k4⟩ := hJ.b
  have q1 := sm0_get S i
  have q2 := kbh_b (L := L) h2
  refine lv_aload_n C.hx C.hb dX3_splitInterval_0 rfl (lv_at hl 0 rfl) ?_
  refine lv_iload_n C.hx C.hb dX3_splitInterval_1 rfl (lv_at hl 1 rfl) ?_
  refine x3_cr (As := [.int (nI (i))]) (rest := []) C X (c3_first (i := i) h3 (by omega) (by omega)) wy_X3_first ts_32 tw_447 rfl ⟨by decide, by decide⟩ rfl hl.1 rfl (Nat.le_of_ble_eq_true rfl) ⟨Nat.le_refl _, Nat.le_refl _⟩ dX3_splitInterval_2 (fun r hp => ?_)
  subst hp
  refine W.eq (g2 := F0 m 5 ls [.int (nI (sm S 0 i))]) rfl ?_
  refine lv_aload_n C.hx C.hb dX3_splitInterval_5 rfl (lv_at hl 0 rfl) ?_
  refine lv_iload_n C.hx C.hb dX3_splitInterval_6 rfl (lv_at hl 1 rfl) ?_
  refine x3_cr (As := [.int (nI (i))]) (rest := [.int (nI (sm S 0 i))]) C X (c3_kept (i := i) h3 (by omega) (by omega) (by omega)) wy_X3_kept ts_41 tw_483 rfl ⟨by decide, by decide⟩ rfl hl.1 rfl (Nat.le_of_ble_eq_true rfl) ⟨Nat.le_refl _, Nat.le_refl _⟩ dX3_splitInterval_7 (fun r hp => ?_)
  subst hp
  refine W.eq (g2 := F0 m 10 ls [.int (nI (kbh L S i)), .int (nI (sm S 0 i))]) rfl ?_
  refine n_add C dX3_splitInterval_10 ?_
  refine lv_istore_n (lv' := [(3, .int (nI ((sm S 0 i) + (kbh L S i)))), (0, .ref (z 0)), (1, .int (nI (i))), (2, .int (nI (num)))]) C.hx C.hb dX3_splitInterval_11 rfl hl (by decide) rfl (fun ls hl => ?_)
  refine lv_aload_n C.hx C.hb dX3_splitInterval_12 rfl (lv_at hl 1 rfl) ?_
  refine x3g_9 C X dX3_splitInterval_13 ?_
  refine lv_iload_n C.hx C.hb dX3_splitInterval_16 rfl (lv_at hl 2 rfl) ?_
  refine x3l_4 C X (by first | omega | exact hbo _ | exact hbi _ | exact hba _ | exact hbl _) dX3_splitInterval_17 ?_
  refine lv_istore (lv' := [(4, .int (nI (gi i))), (3, .int (nI ((sm S 0 i) + (kbh L S i)))), (0, .ref (z 0)), (1, .int (nI (i))), (2, .int (nI (num)))]) C.hx C.hb dX3_splitInterval_18 hl (by decide) rfl (fun ls hl => ?_)
  refine lv_aload_n C.hx C.hb dX3_splitInterval_20 rfl (lv_at hl 2 rfl) ?_
  refine lv_iload_n C.hx C.hb dX3_splitInterval_21 rfl (lv_at hl 3 rfl) ?_
  refine lv_iconst (v := nI (1)) C.hx C.hb dX3_splitInterval_22 (by decide) ?_
  refine n_add C dX3_splitInterval_23 ?_
  refine lv_iload_n C.hx C.hb dX3_splitInterval_24 rfl (lv_at hl 4 rfl) ?_
  refine lv_aload_n C.hx C.hb dX3_splitInterval_25 rfl (lv_at hl 2 rfl) ?_
  refine x3g_10 C X dX3_splitInterval_26 ?_
  refine lv_iload_n C.hx C.hb dX3_splitInterval_29 rfl (lv_at hl 3 rfl) ?_
  refine x3l_5 C X (by first | omega | exact hbo _ | exact hbi _ | exact hba _ | exact hbl _) dX3_splitInterval_30 ?_
  refine x3_cw (As := [.int (nI (i + 1)), .int (nI (num)), .int (nI (ga i))]) (rest := []) C X (c3_open (at_ := (i + 1)) (num := num) (ar := (ga i)) (m0 := S.length) (by omega) hm (by omega)) wy_X3_open ts_39 tw_475 rfl ⟨by decide, by decide⟩ rfl hl.1 rfl (Nat.le_of_ble_eq_true rfl) ⟨Nat.le_refl _, Nat.le_refl _⟩ dX3_splitInterval_31 (fun r v' fk' gl' go' gi' ga' gs' H locs hp X => ?_)
  obtain ⟨rfl, rfl, rfl, rfl, rfl, rfl, rfl, rfl⟩ := hp
  refine W.eq (g2 := F0 m 34 ls []) rfl ?_
  refine lv_iload_n C.hx C.hb dX3_splitInterval_34 rfl (lv_at hl 1 rfl) ?_
  refine lv_istore (lv' := [(5, .int (nI ((sm S 0 i) + (kbh L S i)))), (4, .int (nI (gi i))), (3, .int (nI ((sm S 0 i) + (kbh L S i)))), (0, .ref (z 0)), (1, .int (nI (i))), (2, .int (nI (num)))]) C.hx C.hb dX3_splitInterval_35 hl (by decide) rfl (fun ls hl => ?_)
  exact l3_si (v := upd v 11 (nI (S.length + 1))) C hk hs8 (hbi i) hnum hbo (by omega) _ (sm S 0 i + kbh L S i) H locs rfl (Nat.le_refl _) (by omega) (by rw [rpl_0]; exact X) ls (lv_sub hl [0, 1, 3, 5] rfl)
/-- an array whose places a .. b - 1, as far as ahead of k, hold x -/
def saf (f : Nat → Nat) (a b k x : Nat) : Nat → Nat := fun j => if a ≤ j ∧ j < b ∧ j < k then x else f j
theorem saf_0 (f : Nat → Nat) (a b x : Nat) : saf f a b 0 x = f := by
  funext j
  unfold saf
  rw [if_neg (by omega)]
theorem saf_hi {f : Nat → Nat} {a b k x j : Nat} (h : k ≤ j) : saf f a b k x j = f j := by
  unfold saf
  rw [if_neg (by omega)]
theorem saf_y {f : Nat → Nat} {a b k x : Nat} (h : a ≤ k) (h2 : k < b) : va_up (saf f a b k x) k x = saf f a b (k + 1) x := by
  funext j
  unfold va_up saf
  by_cases q : j = k
  · subst q; rw [if_pos rfl, if_pos ⟨h, h2, by omega⟩]
  · rw [if_neg q]
    by_cases r : a ≤ j ∧ j < b ∧ j < k
    · rw [if_pos r, if_pos ⟨r.1, r.2.1, by omega⟩]
    · rw [if_neg r, if_neg (fun h => r ⟨h.1, h.2.1, by omega⟩)]
theorem saf_o {f : Nat → Nat} {a b k x : Nat} (h : ¬ (a ≤ k ∧ k < b)) : saf f a b (k + 1) x = saf f a b k x := by
  funext j
  unfold saf
  by_cases r : a ≤ j ∧ j < b ∧ j < k
  · rw [if_pos r, if_pos ⟨r.1, r.2.1, by omega⟩]
  · rw [if_neg r, if_neg (fun q => r ⟨q.1, q.2.1, by
      rcases Nat.lt_or_ge j k with z | z
      · exact z
      · exfalso
        have e : j = k := by omega
        subst e
        exact h ⟨q.1, q.2.1⟩⟩)]
theorem saf_n {f : Nat → Nat} {a b k x : Nat} (h : ¬ (a ≤ k ∧ k < b)) {y : Nat} (e : f k = y) : va_up (saf f a b k x) k y = saf f a b (k + 1) x := by
  rw [saf_o h]
  funext j
  unfold va_up
  by_cases q : j = k
  · subst q; rw [if_pos rfl, saf_hi (Nat.le_refl _)]; exact e.symm
  · rw [if_neg q]
theorem saf_b {f : Nat → Nat} {a b k x : Nat} (hf : ∀ j, f j < 2 ^ 31) (hy : x < 2 ^ 31) : ∀ j, saf f a b k x j < 2 ^ 31 := by
  intro j
  unfold saf
  split
  · exact hy
  · exact hf j
set_option maxHeartbeats 4000000 in
set_option maxRecDepth 100000 in
theorem l3_sa {p : Program} {l : Launch} {e : Env} {s : State} {m : MethodId} {args : Array Value} {below : List Frame} {meth : Method} {c : Code} {E : Gq} {ws0 : va_W} {z : Nat → Nat} {v : Nat → Int32} {fk : Nat → Int64} {gl go gi ga : Nat → Nat} {gs : Nat → Int32} (C : Cx E p s m args meth c cX3_splitArea 6 none RX3 (va_A ws0 s.heap.size)) {K : List Int64} {L N S P Ar : List Nat} {v1 : Nat → Int32} (h3 : Ctx3 v1 fk gl go gi ga K L N S P Ar) {i wd ac : Nat} (hi : i < S.length) (hv11 : v 11 = nI S.length) (hw : v 2 = nI wd) (hwd : wd ≤ 20) (hac : ac + 1 < 2 ^ 31) (hv13 : v 13 = nI (ac + 1)) (hpw : wd / 2 ≤ P.getD (gIx P i) 0) : ∀ (n k : Nat) (H : Heap) (locs : List Loc), S.length - k = n → k ≤ S.length → X3w E (va_A ws0 s.heap.size) z v fk gl go gi (saf ga ((sm P 0 (gIx P i)) + ((P.getD (gIx P i) 0) - wd / 2)) ((sm P 0 (gIx P i)) + (P.getD (gIx P i) 0)) k (ac + 1)) gs s H locs → ∀ ls : Array Slot, lv_has ls 6 [(5, .int (nI (k))), (4, .int (nI (min (k - (sm P 0 (gIx P i))) (P.getD (gIx P i) 0)))), (3, .int (nI (ga i))), (2, .int (nI (P.getD (gIx P i) 0))), (0, .ref (z 0))] → W p l e (Rm 1 0 0) s m args below meth c H locs 0 0 (MQ below (Qw E ws0 s.heap.size (P3 E z (fun r v' fk' gl' go' gi' ga' gs' => none = r ∧ v = v' ∧ fk = fk' ∧ gl = gl' ∧ go = go' ∧ gi = gi' ∧ saf ga ((sm P 0 (gIx P i)) + ((P.getD (gIx P i) 0) - wd / 2)) ((sm P 0 (gIx P i)) + (P.getD (gIx P i) 0)) S.length (ac + 1) = ga' ∧ upd gs 1 (gs 1 + nI 1) = gs'))) args s 0 0 (va_A ws0 s.heap.size)) (F0 m 29 ls []) := by
  obtain ⟨hR, hJ, hk, hs8, hm, hbl, hbo, hbi, hba, hso⟩ := id h3
  obtain ⟨r1, r2, r3, r4, r5, r6, r7, r8⟩ := id hR
  obtain ⟨j1, j2, j3, j4, j5, j6, j7, j8⟩ := id hJ
  obtain ⟨k1, k2, k3, k4⟩ := hJ.b
  have q1 := sm0_get P (gIx P i)
  have q2 := gIx_lt (L := P) (m := i) (by omega)
  intro n
  induction n with
  | zero =>
    intro k H locs hn hk X ls hl
    have e : k = S.length := by omega
    subst e
    refine lv_iload C.hx C.hb dX3_splitArea_29 (lv_at hl 0 rfl) ?_
    refine lv_aload_n C.hx C.hb dX3_splitArea_31 rfl (lv_at hl 4 rfl) ?_
    refine x3g_11 C X (x := nI (S.length)) hv11 dX3_splitArea_32 ?_
    refine n_icmp_ge (tgt := 89) C dX3_splitArea_35 (by decide) (by first | omega) (by first | omega) (fun c35 => ?_) (fun c35 => ?_)
    · refine lv_aload_n C.hx C.hb dX3_splitArea_89 rfl (lv_at hl 4 rfl) ?_
      refine x3g_19 C X dX3_splitArea_90 ?_
      refine lv_iconst (v := nI (1)) C.hx C.hb dX3_splitArea_93 (by decide) ?_
      refine lv_dup2_11 C.hx C.hb dX3_splitArea_94 rfl rfl ?_
      refine x3l_6 C X (by first | omega) dX3_splitArea_95 ?_
      refine lv_iconst (v := nI (1)) C.hx C.hb dX3_splitArea_96 (by decide) ?_
      refine lv_iadd C.hx C.hb dX3_splitArea_97 ?_
      refine x3t_6 C X (by first | omega) dX3_splitArea_98 (fun H locs X => ?_)
      exact ret3_v C X (⟨rfl, rfl, rfl, rfl, rfl, rfl, rfl, rfl⟩) dX3_splitArea_99
    · omega
  | succ n ih =>
    intro k H locs hn hk X ls hl
    have hsb := saf_b (a := (sm P 0 (gIx P i)) + ((P.getD (gIx P i) 0) - wd / 2)) (b := (sm P 0 (gIx P i)) + (P.getD (gIx P i) 0)) (k := k) (x := ac + 1) hba hac
    have hq := (hR.ar hJ hi (show k < S.length by omega)).trans (gIx_iff (by omega) q2)
    have e0 : saf ga ((sm P 0 (gIx P i)) + ((P.getD (gIx P i) 0) - wd / 2)) ((sm P 0 (gIx P i)) + (P.getD (gIx P i) 0)) k (ac + 1) k = ga k := saf_hi (Nat.le_refl k)
    refine lv_iload C.hx C.hb dX3_splitArea_29 (lv_at hl 0 rfl) ?_
    refine lv_aload_n C.hx C.hb dX3_splitArea_31 rfl (lv_at hl 4 rfl) ?_
    refine x3g_11 C X (x := nI (S.length)) hv11 dX3_splitArea_32 ?_
    refine n_icmp_ge (tgt := 89) C dX3_splitArea_35 (by decide) (by first | omega | exact hsb _ | exact hba _) (by first | omega | exact hsb _ | exact hba _) (fun c35 => ?_) (fun c35 => ?_)
    · omega
    · refine lv_aload_n C.hx C.hb dX3_splitArea_38 rfl (lv_at hl 4 rfl) ?_
      refine x3g_10 C X dX3_splitArea_39 ?_
      refine lv_iload C.hx C.hb dX3_splitArea_42 (lv_at hl 0 rfl) ?_
      refine x3l_5 C X (by first | omega | exact hsb _ | exact hba _) dX3_splitArea_44 ?_
      refine lv_iload_n C.hx C.hb dX3_splitArea_45 rfl (lv_at hl 2 rfl) ?_
      refine n_icmp_eq (tgt := 52) C dX3_splitArea_46 (by decide) (by first | omega | exact hsb _ | exact hba _) (by first | omega | exact hsb _ | exact hba _) (fun c46 => ?_) (fun c46 => ?_)
      · have hqe : ga k = ga i := by rw [← e0]; exact c46
        have hq2 := hq.mp hqe
        refine lv_iinc (v := nI ((min (k - (sm P 0 (gIx P i))) (P.getD (gIx P i) 0)) + 1)) (lv' := [(4, .int (nI ((min (k - (sm P 0 (gIx P i))) (P.getD (gIx P i) 0)) + 1))), (5, .int (nI (k))), (3, .int (nI (ga i))), (2, .int (nI (P.getD (gIx P i) 0))), (0, .ref (z 0))]) C.hx C.hb dX3_splitArea_52 hl (k := 1) rfl (nI_1 _) (by decide) rfl (fun ls hl => ?_)
        refine lv_aload_n C.hx C.hb dX3_splitArea_55 rfl (lv_at hl 4 rfl) ?_
        refine x3g_10 C X dX3_splitArea_56 ?_
        refine lv_iload C.hx C.hb dX3_splitArea_59 (lv_at hl 1 rfl) ?_
        refine lv_iload C.hx C.hb dX3_splitArea_61 (lv_at hl 0 rfl) ?_
        refine lv_iload_n C.hx C.hb dX3_splitArea_63 rfl (lv_at hl 3 rfl) ?_
        refine lv_aload_n C.hx C.hb dX3_splitArea_64 rfl (lv_at hl 4 rfl) ?_
        refine x3g_2 C X (x := nI (wd)) hw dX3_splitArea_65 ?_
        refine lv_iconst (v := nI (2)) C.hx C.hb dX3_splitArea_68 (by decide) ?_
        refine n_div C dX3_splitArea_69 (by first | omega | exact hsb _ | exact hba _) (by first | omega | exact hsb _ | exact hba _) (by first | omega | exact hsb _ | exact hba _) ?_
        refine n_sub C dX3_splitArea_70 (by first | omega | exact hsb _ | exact hba _) ?_
        refine n_icmp_le (tgt := 81) C dX3_splitArea_71 (by decide) (by first | omega | exact hsb _ | exact hba _) (by first | omega | exact hsb _ | exact hba _) (fun c71 => ?_) (fun c71 => ?_)
        · refine lv_iload_n C.hx C.hb dX3_splitArea_81 rfl (lv_at hl 2 rfl) ?_
          refine x3t_5 C X (by first | omega | exact hsb _ | exact hba _) dX3_splitArea_82 (fun H locs X => ?_)
          refine lv_iinc (v := nI (k + 1)) (lv' := [(5, .int (nI (k + 1))), (4, .int (nI ((min (k - (sm P 0 (gIx P i))) (P.getD (gIx P i) 0)) + 1))), (3, .int (nI (ga i))), (2, .int (nI (P.getD (gIx P i) 0))), (0, .ref (z 0))]) C.hx C.hb dX3_splitArea_83 hl (k := 1) rfl (nI_1 _) (by decide) rfl (fun ls hl => ?_)
          refine lv_goto (tgt := 29) C.hx C.hb dX3_splitArea_86 (by decide) ?_
          rw [saf_n (fun h => by omega) hqe] at X
          exact ih (k + 1) H locs (by omega) (by omega) X ls (by rw [show min (k + 1 - (sm P 0 (gIx P i))) (P.getD (gIx P i) 0) = (min (k - (sm P 0 (gIx P i))) (P.getD (gIx P i) 0)) + 1 by omega]; exact lv_sub hl [0, 1, 2, 3, 4] rfl)
        · refine lv_aload_n C.hx C.hb dX3_splitArea_74 rfl (lv_at hl 4 rfl) ?_
          refine x3g_13 C X (x := nI (ac + 1)) hv13 dX3_splitArea_75 ?_
          refine lv_goto (tgt := 82) C.hx C.hb dX3_splitArea_78 (by decide) ?_
          refine x3t_5 C X (by first | omega | exact hsb _ | exact hba _) dX3_splitArea_82 (fun H locs X => ?_)
          refine lv_iinc (v := nI (k + 1)) (lv' := [(5, .int (nI (k + 1))), (4, .int (nI ((min (k - (sm P 0 (gIx P i))) (P.getD (gIx P i) 0)) + 1))), (3, .int (nI (ga i))), (2, .int (nI (P.getD (gIx P i) 0))), (0, .ref (z 0))]) C.hx C.hb dX3_splitArea_83 hl (k := 1) rfl (nI_1 _) (by decide) rfl (fun ls hl => ?_)
          refine lv_goto (tgt := 29) C.hx C.hb dX3_splitArea_86 (by decide) ?_
          rw [saf_y (by omega) (by omega)] at X
          exact ih (k + 1) H locs (by omega) (by omega) X ls (by rw [show min (k + 1 - (sm P 0 (gIx P i))) (P.getD (gIx P i) 0) = (min (k - (sm P 0 (gIx P i))) (P.getD (gIx P i) 0)) + 1 by omega]; exact lv_sub hl [0, 1, 2, 3, 4] rfl)
      · have hq2 := fun h => c46 (e0.trans (hq.mpr h))
        refine lv_goto (tgt := 83) C.hx C.hb dX3_splitArea_49 (by decide) ?_
        refine lv_iinc (v := nI (k + 1)) (lv' := [(5, .int (nI (k + 1))), (4, .int (nI (min (k - (sm P 0 (gIx P i))) (P.getD (gIx P i) 0)))), (3, .int (nI (ga i))), (2, .int (nI (P.getD (gIx P i) 0))), (0, .ref (z 0))]) C.hx C.hb dX3_splitArea_83 hl (k := 0) rfl (nI_1 _) (by decide) rfl (fun ls hl => ?_)
        refine lv_goto (tgt := 29) C.hx C.hb dX3_splitArea_86 (by decide) ?_
        rw [← saf_o (fun h => by omega)] at X
        exact ih (k + 1) H locs (by omega) (by omega) X ls (by rw [show min (k + 1 - (sm P 0 (gIx P i))) (P.getD (gIx P i) 0) = min (k - (sm P 0 (gIx P i))) (P.getD (gIx P i) 0) by omega]; exact lv_sub hl [0, 1, 2, 3, 4] rfl)
set_option maxHeartbeats 4000000 in
set_option maxRecDepth 100000 in
/-- the reference: an area splits -/
theorem c3_splitArea {l : Launch} {E : Gq} {z : Nat → Nat} {v : Nat → Int32} {fk : Nat → Int64} {gl go gi ga : Nat → Nat} {gs : Nat → Int32} {K : List Int64} {L N S P A : List Nat} (h3 : Ctx3 v fk gl go gi ga K L N S P A) {i wd ac : Nat} (hi : i < S.length) (hw : v 2 = nI wd) (hwd : wd ≤ 20) (hac : ac + 1 < 2 ^ 31) (hv13 : v 13 = nI ac) (hpw : wd / 2 ≤ P.getD (gIx P i) 0) : M3w l E yX3_splitArea cX3_splitArea 6 none 1 [.ref (z 0), .int (nI (i))] z v fk gl go gi ga gs (fun r v' fk' gl' go' gi' ga' gs' => none = r ∧ upd v 13 (nI (ac + 1)) = v' ∧ fk = fk' ∧ gl = gl' ∧ go = go' ∧ gi = gi' ∧ saf ga ((sm P 0 (gIx P i)) + ((P.getD (gIx P i) 0) - wd / 2)) ((sm P 0 (gIx P i)) + (P.getD (gIx P i) 0)) S.length (ac + 1) = ga' ∧ upd gs 1 (gs 1 + nI 1) = gs') := by
  refine mk_w (by decide) (Nat.le_of_ble_eq_true rfl) ?_
  intro p e s m below meth c ls C Wd hl
  have X : X3w E _ z v fk gl go gi ga gs s s.heap [] := Wd
  have hl : lv_has ls 6 [(0, .ref (z 0)), (1, .int (nI (i)))] := hl
  obtain ⟨hR, hJ, hk, hs8, hm, hbl, hbo, hbi, hba, hso⟩ := id h3
  obtain ⟨r1, r2, r3, r4, r5, r6, r7, r8⟩ := id hR
  obtain ⟨j1, j2, j3, j4, j5, j6, j7, j8⟩ := id hJ
  obtain ⟨k1, k2, k3, k4⟩ := hJ.b
  refine lv_aload_n C.hx C.hb dX3_splitArea_0 rfl (lv_at hl 0 rfl) ?_
  refine lv_iload_n C.hx C.hb dX3_splitArea_1 rfl (lv_at hl 1 rfl) ?_
  refine x3_cr (As := [.int (nI (i))]) (rest := []) C X (c3_widthOf (i := i) h3 (by omega)) wy_X3_widthOf ts_36 tw_463 rfl ⟨by decide, by decide⟩ rfl hl.1 rfl (Nat.le_of_ble_eq_true rfl) ⟨Nat.le_refl _, Nat.le_refl _⟩ dX3_splitArea_2 (fun r hp => ?_)
  subst hp
  refine W.eq (g2 := F0 m 5 ls [.int (nI (P.getD (gIx P i) 0))]) rfl ?_
  refine lv_istore_n (lv' := [(2, .int (nI (P.getD (gIx P i) 0))), (0, .ref (z 0)), (1, .int (nI (i)))]) C.hx C.hb dX3_splitArea_5 rfl hl (by decide) rfl (fun ls hl => ?_)
  refine lv_aload_n C.hx C.hb dX3_splitArea_6 rfl (lv_at hl 1 rfl) ?_
  refine x3g_10 C X dX3_splitArea_7 ?_
  refine lv_iload_n C.hx C.hb dX3_splitArea_10 rfl (lv_at hl 2 rfl) ?_
  refine x3l_5 C X (by first | omega | exact hbo _ | exact hbi _ | exact hba _ | exact hbl _) dX3_splitArea_11 ?_
  refine lv_istore_n (lv' := [(3, .int (nI (ga i))), (2, .int (nI (P.getD (gIx P i) 0))), (0, .ref (z 0)), (1, .int (nI (i)))]) C.hx C.hb dX3_splitArea_12 rfl hl (by decide) rfl (fun ls hl => ?_)
  refine lv_iconst (v := nI (0)) C.hx C.hb dX3_splitArea_13 (by decide) ?_
  refine lv_istore (lv' := [(4, .int (nI (0))), (3, .int (nI (ga i))), (2, .int (nI (P.getD (gIx P i) 0))), (0, .ref (z 0)), (1, .int (nI (i)))]) C.hx C.hb dX3_splitArea_14 hl (by decide) rfl (fun ls hl => ?_)
  refine lv_aload_n C.hx C.hb dX3_splitArea_16 rfl (lv_at hl 3 rfl) ?_
  refine lv_dup C.hx C.hb dX3_splitArea_17 rfl ?_
  refine x3g_13 C X (x := nI (ac)) hv13 dX3_splitArea_18 ?_
  refine lv_iconst (v := nI (1)) C.hx C.hb dX3_splitArea_21 (by decide) ?_
  refine n_add C dX3_splitArea_22 ?_
  refine x3p_13 C X dX3_splitArea_23 (fun H locs X => ?_)
  refine lv_iconst (v := nI (0)) C.hx C.hb dX3_splitArea_26 (by decide) ?_
  refine lv_istore (lv' := [(5, .int (nI (0))), (4, .int (nI (0))), (3, .int (nI (ga i))), (2, .int (nI (P.getD (gIx P i) 0))), (0, .ref (z 0)), (1, .int (nI (i)))]) C.hx C.hb dX3_splitArea_27 hl (by decide) rfl (fun ls hl => ?_)
  exact l3_sa (v := upd v 13 (nI (ac + 1))) C h3 hi hm hw hwd hac rfl hpw _ 0 H locs rfl (Nat.zero_le _) (by rw [saf_0]; exact X) ls (by rw [Nat.zero_sub, Nat.zero_min]; exact lv_sub hl [0, 1, 2, 3, 4] rfl)
set_option maxHeartbeats 4000000 in
set_option maxRecDepth 100000 in
/-- the reference: no cut is told -/
theorem c3_isCut_n {l : Launch} {E : Gq} {z : Nat → Nat} {v : Nat → Int32} {fk : Nat → Int64} {gl go gi ga : Nat → Nat} {gs : Nat → Int32} {kk i : Nat} (hv14 : v 14 = nI 0) : M3w l E yX3_isCut cX3_isCut 3 (some .boolean) 0 [.ref (z 0), .int (nI (kk)), .int (nI (i))] z v fk gl go gi ga gs (fun r v' fk' gl' go' gi' ga' gs' => some (.int (nI 0)) = r ∧ v = v' ∧ fk = fk' ∧ gl = gl' ∧ go = go' ∧ gi = gi' ∧ ga = ga' ∧ gs = gs') := by
  refine mk_w (by decide) (Nat.le_of_ble_eq_true rfl) ?_
  intro p e s m below meth c ls C Wd hl
  have X : X3w E _ z v fk gl go gi ga gs s s.heap [] := Wd
  have hl : lv_has ls 3 [(0, .ref (z 0)), (1, .int (nI (kk))), (2, .int (nI (i)))] := hl
  refine lv_aload_n C.hx C.hb dX3_isCut_0 rfl (lv_at hl 0 rfl) ?_
  refine x3g_14 C X (x := nI (0)) hv14 dX3_isCut_1 ?_
  refine n_if_ne (tgt := 9) C dX3_isCut_4 (by decide) (by decide) (fun h => absurd h (by decide)) (fun _ => ?_)
  refine lv_iconst (v := nI (0)) C.hx C.hb dX3_isCut_7 (by decide) ?_
  exact ret3_z C X (⟨rfl, rfl, rfl, rfl, rfl, rfl, rfl, rfl⟩) (by decide) dX3_isCut_8
def vCut (v : Nat → Int32) (nx tc kk i : Nat) : Nat → Int32 := upd (upd (upd (upd (upd (upd v 17 (nI 1)) 15 (nI kk)) 16 (nI i)) 18 (nI (if tc = 4 then 1 else 0))) 12 (nI (nx + if 2 < tc ∧ kk < 3 then 1 else 0))) 14 (nI 0)
set_option maxHeartbeats 4000000 in
set_option maxRecDepth 100000 in
/-- the reference: a split is cut -/
theorem c3_isCut_y {l : Launch} {E : Gq} {z : Nat → Nat} {v : Nat → Int32} {fk : Nat → Int64} {gl go gi ga : Nat → Nat} {gs : Nat → Int32} {kk i tc nx : Nat} (hv14 : v 14 = nI tc) (hv12 : v 12 = nI nx) (h0 : tc ≠ 0) (htc : tc ≤ 4) (hkk : kk ≤ 3) : M3w l E yX3_isCut cX3_isCut 3 (some .boolean) 0 [.ref (z 0), .int (nI (kk)), .int (nI (i))] z v fk gl go gi ga gs (fun r v' fk' gl' go' gi' ga' gs' => some (.int (nI 1)) = r ∧ vCut v nx tc kk i = v' ∧ fk = fk' ∧ gl = gl' ∧ go = go' ∧ gi = gi' ∧ ga = ga' ∧ gs = gs') := by
  refine mk_w (by decide) (Nat.le_of_ble_eq_true rfl) ?_
  intro p e s m below meth c ls C Wd hl
  have X : X3w E _ z v fk gl go gi ga gs s s.heap [] := Wd
  have hl : lv_has ls 3 [(0, .ref (z 0)), (1, .int (nI (kk))), (2, .int (nI (i)))] := hl
  refine lv_aload_n C.hx C.hb dX3_isCut_0 rfl (lv_at hl 0 rfl) ?_
  refine x3g_14 C X (x := nI (tc)) hv14 dX3_isCut_1 ?_
  refine n_if_ne (tgt := 9) C dX3_isCut_4 (by decide) (by omega) (fun c4 => ?_) (fun c4 => ?_)
  · refine lv_aload_n C.hx C.hb dX3_isCut_9 rfl (lv_at hl 0 rfl) ?_
    refine lv_iconst (v := nI (1)) C.hx C.hb dX3_isCut_10 (by decide) ?_
    refine x3p_17 C X (by decide) (by decide) dX3_isCut_11 (fun H locs X => ?_)
    refine lv_aload_n C.hx C.hb dX3_isCut_14 rfl (lv_at hl 0 rfl) ?_
    refine lv_iload_n C.hx C.hb dX3_isCut_15 rfl (lv_at hl 1 rfl) ?_
    refine x3p_15 C X dX3_isCut_16 (fun H locs X => ?_)
    refine lv_aload_n C.hx C.hb dX3_isCut_19 rfl (lv_at hl 0 rfl) ?_
    refine lv_iload_n C.hx C.hb dX3_isCut_20 rfl (lv_at hl 2 rfl) ?_
    refine x3p_16 C X dX3_isCut_21 (fun H locs X => ?_)
    refine lv_aload_n C.hx C.hb dX3_isCut_24 rfl (lv_at hl 0 rfl) ?_
    refine lv_aload_n C.hx C.hb dX3_isCut_25 rfl (lv_at hl 0 rfl) ?_
    refine x3g_14 C X (x := nI (tc)) hv14 dX3_isCut_26 ?_
    refine lv_iconst (v := nI (4)) C.hx C.hb dX3_isCut_29 (by decide) ?_
    refine n_icmp_ne (tgt := 37) C dX3_isCut_30 (by decide) (by omega) (by omega) (fun c30 => ?_) (fun c30 => ?_)
    · refine lv_iconst (v := nI (0)) C.hx C.hb dX3_isCut_37 (by decide) ?_
      refine x3p_18 C X (by decide) (by decide) dX3_isCut_38 (fun H locs X => ?_)
      refine lv_aload_n C.hx C.hb dX3_isCut_41 rfl (lv_at hl 0 rfl) ?_
      refine lv_dup C.hx C.hb dX3_isCut_42 rfl ?_
      refine x3g_12 C X (x := nI (nx)) hv12 dX3_isCut_43 ?_
      refine lv_aload_n C.hx C.hb dX3_isCut_46 rfl (lv_at hl 0 rfl) ?_
      refine x3g_14 C X (x := nI (tc)) hv14 dX3_isCut_47 ?_
      refine lv_iconst (v := nI (2)) C.hx C.hb dX3_isCut_50 (by decide) ?_
      refine n_icmp_le (tgt := 63) C dX3_isCut_51 (by decide) (by omega) (by omega) (fun c51 => ?_) (fun c51 => ?_)
      · refine lv_iconst (v := nI (0)) C.hx C.hb dX3_isCut_63 (by decide) ?_
        refine n_add C dX3_isCut_64 ?_
        refine x3p_12 C X dX3_isCut_65 (fun H locs X => ?_)
        refine lv_aload_n C.hx C.hb dX3_isCut_68 rfl (lv_at hl 0 rfl) ?_
        refine lv_iconst (v := nI (0)) C.hx C.hb dX3_isCut_69 (by decide) ?_
        refine x3p_14 C X dX3_isCut_70 (fun H locs X => ?_)
        refine lv_iconst (v := nI (1)) C.hx C.hb dX3_isCut_73 (by decide) ?_
        exact ret3_z C X (⟨rfl, by unfold vCut; rw [if_neg (by omega), if_neg (fun h => by omega)], rfl, rfl, rfl, rfl, rfl, rfl⟩) (by decide) dX3_isCut_74
      · refine lv_iload_n C.hx C.hb dX3_isCut_54 rfl (lv_at hl 1 rfl) ?_
        refine lv_iconst (v := nI (3)) C.hx C.hb dX3_isCut_55 (by decide) ?_
        refine n_icmp_ge (tgt := 63) C dX3_isCut_56 (by decide) (by omega) (by omega) (fun c56 => ?_) (fun c56 => ?_)
        · refine lv_iconst (v := nI (0)) C.hx C.hb dX3_isCut_63 (by decide) ?_
          refine n_add C dX3_isCut_64 ?_
          refine x3p_12 C X dX3_isCut_65 (fun H locs X => ?_)
          refine lv_aload_n C.hx C.hb dX3_isCut_68 rfl (lv_at hl 0 rfl) ?_
          refine lv_iconst (v := nI (0)) C.hx C.hb dX3_isCut_69 (by decide) ?_
          refine x3p_14 C X dX3_isCut_70 (fun H locs X => ?_)
          refine lv_iconst (v := nI (1)) C.hx C.hb dX3_isCut_73 (by decide) ?_
          exact ret3_z C X (⟨rfl, by unfold vCut; rw [if_neg (by omega), if_neg (fun h => by omega)], rfl, rfl, rfl, rfl, rfl, rfl⟩) (by decide) dX3_isCut_74
        · refine lv_iconst (v := nI (1)) C.hx C.hb dX3_isCut_59 (by decide) ?_
          refine lv_goto (tgt := 64) C.hx C.hb dX3_isCut_60 (by decide) ?_
          refine n_add C dX3_isCut_64 ?_
          refine x3p_12 C X dX3_isCut_65 (fun H locs X => ?_)
          refine lv_aload_n C.hx C.hb dX3_isCut_68 rfl (lv_at hl 0 rfl) ?_
          refine lv_iconst (v := nI (0)) C.hx C.hb dX3_isCut_69 (by decide) ?_
          refine x3p_14 C X dX3_isCut_70 (fun H locs X => ?_)
          refine lv_iconst (v := nI (1)) C.hx C.hb dX3_isCut_73 (by decide) ?_
          exact ret3_z C X (⟨rfl, by unfold vCut; rw [if_neg (by omega), if_pos ⟨by omega, by omega⟩], rfl, rfl, rfl, rfl, rfl, rfl⟩) (by decide) dX3_isCut_74
    · refine lv_iconst (v := nI (1)) C.hx C.hb dX3_isCut_33 (by decide) ?_
      refine lv_goto (tgt := 38) C.hx C.hb dX3_isCut_34 (by decide) ?_
      refine x3p_18 C X (by decide) (by decide) dX3_isCut_38 (fun H locs X => ?_)
      refine lv_aload_n C.hx C.hb dX3_isCut_41 rfl (lv_at hl 0 rfl) ?_
      refine lv_dup C.hx C.hb dX3_isCut_42 rfl ?_
      refine x3g_12 C X (x := nI (nx)) hv12 dX3_isCut_43 ?_
      refine lv_aload_n C.hx C.hb dX3_isCut_46 rfl (lv_at hl 0 rfl) ?_
      refine x3g_14 C X (x := nI (tc)) hv14 dX3_isCut_47 ?_
      refine lv_iconst (v := nI (2)) C.hx C.hb dX3_isCut_50 (by decide) ?_
      refine n_icmp_le (tgt := 63) C dX3_isCut_51 (by decide) (by omega) (by omega) (fun c51 => ?_) (fun c51 => ?_)
      · refine lv_iconst (v := nI (0)) C.hx C.hb dX3_isCut_63 (by decide) ?_
        refine n_add C dX3_isCut_64 ?_
        refine x3p_12 C X dX3_isCut_65 (fun H locs X => ?_)
        refine lv_aload_n C.hx C.hb dX3_isCut_68 rfl (lv_at hl 0 rfl) ?_
        refine lv_iconst (v := nI (0)) C.hx C.hb dX3_isCut_69 (by decide) ?_
        refine x3p_14 C X dX3_isCut_70 (fun H locs X => ?_)
        refine lv_iconst (v := nI (1)) C.hx C.hb dX3_isCut_73 (by decide) ?_
        exact ret3_z C X (⟨rfl, by unfold vCut; rw [if_pos (by omega), if_neg (fun h => by omega)], rfl, rfl, rfl, rfl, rfl, rfl⟩) (by decide) dX3_isCut_74
      · refine lv_iload_n C.hx C.hb dX3_isCut_54 rfl (lv_at hl 1 rfl) ?_
        refine lv_iconst (v := nI (3)) C.hx C.hb dX3_isCut_55 (by decide) ?_
        refine n_icmp_ge (tgt := 63) C dX3_isCut_56 (by decide) (by omega) (by omega) (fun c56 => ?_) (fun c56 => ?_)
        · refine lv_iconst (v := nI (0)) C.hx C.hb dX3_isCut_63 (by decide) ?_
          refine n_add C dX3_isCut_64 ?_
          refine x3p_12 C X dX3_isCut_65 (fun H locs X => ?_)
          refine lv_aload_n C.hx C.hb dX3_isCut_68 rfl (lv_at hl 0 rfl) ?_
          refine lv_iconst (v := nI (0)) C.hx C.hb dX3_isCut_69 (by decide) ?_
          refine x3p_14 C X dX3_isCut_70 (fun H locs X => ?_)
          refine lv_iconst (v := nI (1)) C.hx C.hb dX3_isCut_73 (by decide) ?_
          exact ret3_z C X (⟨rfl, by unfold vCut; rw [if_pos (by omega), if_neg (fun h => by omega)], rfl, rfl, rfl, rfl, rfl, rfl⟩) (by decide) dX3_isCut_74
        · refine lv_iconst (v := nI (1)) C.hx C.hb dX3_isCut_59 (by decide) ?_
          refine lv_goto (tgt := 64) C.hx C.hb dX3_isCut_60 (by decide) ?_
          refine n_add C dX3_isCut_64 ?_
          refine x3p_12 C X dX3_isCut_65 (fun H locs X => ?_)
          refine lv_aload_n C.hx C.hb dX3_isCut_68 rfl (lv_at hl 0 rfl) ?_
          refine lv_iconst (v := nI (0)) C.hx C.hb dX3_isCut_69 (by decide) ?_
          refine x3p_14 C X dX3_isCut_70 (fun H locs X => ?_)
          refine lv_iconst (v := nI (1)) C.hx C.hb dX3_isCut_73 (by decide) ?_
          exact ret3_z C X (⟨rfl, by unfold vCut; rw [if_pos (by omega), if_pos ⟨by omega, by omega⟩], rfl, rfl, rfl, rfl, rfl, rfl⟩) (by decide) dX3_isCut_74
  · exact absurd c4 h0
